section
/-! tables: PART A of the given skeleton, then the classes of the worlds -/
/-- a private method of a class that the tables say can be made, by its rows of tables_1 -/
def lw_okq (q : MethodName × Nat) : Prop := (q.1.cls ≠ "java/lang/invoke/MethodHandle" ∧ q.1.cls ≠ "java/lang/invoke/VarHandle") ∧ Cond.instantiable q.1.cls q.2 ∈ tables_1 ∧ Cond.privateMethod q.1 ∈ tables_1 ∧ Cond.instanceMethod q.1 ∈ tables_1
theorem lw_p0 : lw_okq (⟨"SixWalls$Comb", "layWalls", "()V"⟩, 14) := ⟨⟨by decide +kernel, by decide +kernel⟩, List.mem_of_getElem? (i := 25) (by decide +kernel), List.mem_of_getElem? (i := 31) (by decide +kernel), List.mem_of_getElem? (i := 32) (by decide +kernel)⟩
theorem lw_p1 : lw_okq (⟨"SixWalls$Comb", "addSide", "(III)V"⟩, 14) := ⟨⟨by decide +kernel, by decide +kernel⟩, List.mem_of_getElem? (i := 25) (by decide +kernel), List.mem_of_getElem? (i := 41) (by decide +kernel), List.mem_of_getElem? (i := 42) (by decide +kernel)⟩
theorem lw_p2 : lw_okq (⟨"SixWalls", "ofHouse", "(II)I"⟩, 9) := ⟨⟨by decide +kernel, by decide +kernel⟩, List.mem_of_getElem? (i := 17) (by decide +kernel), List.mem_of_getElem? (i := 411) (by decide +kernel), List.mem_of_getElem? (i := 412) (by decide +kernel)⟩
theorem lw_p3 : lw_okq (⟨"SixWalls", "ofWall", "(II)I"⟩, 9) := ⟨⟨by decide +kernel, by decide +kernel⟩, List.mem_of_getElem? (i := 17) (by decide +kernel), List.mem_of_getElem? (i := 421) (by decide +kernel), List.mem_of_getElem? (i := 422) (by decide +kernel)⟩
theorem lw_p4 : lw_okq (⟨"SixWalls$Winter", "lawful", "(IIII)I"⟩, 8) := ⟨⟨by decide +kernel, by decide +kernel⟩, List.mem_of_getElem? (i := 171) (by decide +kernel), List.mem_of_getElem? (i := 440) (by decide +kernel), List.mem_of_getElem? (i := 441) (by decide +kernel)⟩
theorem lw_p5 : lw_okq (⟨"SixWalls$LawText", "readLines", "()V"⟩, 11) := ⟨⟨by decide +kernel, by decide +kernel⟩, List.mem_of_getElem? (i := 131) (by decide +kernel), List.mem_of_getElem? (i := 507) (by decide +kernel), List.mem_of_getElem? (i := 508) (by decide +kernel)⟩
theorem lw_p6 : lw_okq (⟨"SixWalls$LawText", "readLine", "()V"⟩, 11) := ⟨⟨by decide +kernel, by decide +kernel⟩, List.mem_of_getElem? (i := 131) (by decide +kernel), List.mem_of_getElem? (i := 511) (by decide +kernel), List.mem_of_getElem? (i := 512) (by decide +kernel)⟩
theorem lw_p7 : lw_okq (⟨"SixWalls$LawText", "readLevel", "(II)V"⟩, 11) := ⟨⟨by decide +kernel, by decide +kernel⟩, List.mem_of_getElem? (i := 131) (by decide +kernel), List.mem_of_getElem? (i := 515) (by decide +kernel), List.mem_of_getElem? (i := 516) (by decide +kernel)⟩
theorem lw_p8 : lw_okq (⟨"SixWalls$LawText", "readOperand", "(I)V"⟩, 11) := ⟨⟨by decide +kernel, by decide +kernel⟩, List.mem_of_getElem? (i := 131) (by decide +kernel), List.mem_of_getElem? (i := 519) (by decide +kernel), List.mem_of_getElem? (i := 520) (by decide +kernel)⟩
theorem lw_p9 : lw_okq (⟨"SixWalls$LawText", "peek", "()I"⟩, 11) := ⟨⟨by decide +kernel, by decide +kernel⟩, List.mem_of_getElem? (i := 131) (by decide +kernel), List.mem_of_getElem? (i := 523) (by decide +kernel), List.mem_of_getElem? (i := 524) (by decide +kernel)⟩
theorem lw_p10 : lw_okq (⟨"SixWalls$LawText", "readNumber", "()V"⟩, 11) := ⟨⟨by decide +kernel, by decide +kernel⟩, List.mem_of_getElem? (i := 131) (by decide +kernel), List.mem_of_getElem? (i := 531) (by decide +kernel), List.mem_of_getElem? (i := 532) (by decide +kernel)⟩
theorem lw_p11 : lw_okq (⟨"SixWalls$LawText", "emit", "(II)I"⟩, 11) := ⟨⟨by decide +kernel, by decide +kernel⟩, List.mem_of_getElem? (i := 131) (by decide +kernel), List.mem_of_getElem? (i := 535) (by decide +kernel), List.mem_of_getElem? (i := 536) (by decide +kernel)⟩
theorem lw_p12 : lw_okq (⟨"SixWalls$Winter", "begin", "()V"⟩, 8) := ⟨⟨by decide +kernel, by decide +kernel⟩, List.mem_of_getElem? (i := 171) (by decide +kernel), List.mem_of_getElem? (i := 554) (by decide +kernel), List.mem_of_getElem? (i := 555) (by decide +kernel)⟩
theorem lw_p13 : lw_okq (⟨"SixWalls$Winter", "passAll", "(I)V"⟩, 8) := ⟨⟨by decide +kernel, by decide +kernel⟩, List.mem_of_getElem? (i := 171) (by decide +kernel), List.mem_of_getElem? (i := 559) (by decide +kernel), List.mem_of_getElem? (i := 560) (by decide +kernel)⟩
theorem lw_p14 : lw_okq (⟨"SixWalls$Winter", "pass", "()Z"⟩, 8) := ⟨⟨by decide +kernel, by decide +kernel⟩, List.mem_of_getElem? (i := 171) (by decide +kernel), List.mem_of_getElem? (i := 563) (by decide +kernel), List.mem_of_getElem? (i := 564) (by decide +kernel)⟩
theorem lw_p15 : lw_okq (⟨"SixWalls$Masonry", "goRound", "()Z"⟩, 4) := ⟨⟨by decide +kernel, by decide +kernel⟩, List.mem_of_getElem? (i := 205) (by decide +kernel), List.mem_of_getElem? (i := 622) (by decide +kernel), List.mem_of_getElem? (i := 623) (by decide +kernel)⟩
def lw_privs_1 : List (MethodName × Nat) := [(⟨"SixWalls$Comb", "layWalls", "()V"⟩, 14), (⟨"SixWalls$Comb", "addSide", "(III)V"⟩, 14), (⟨"SixWalls", "ofHouse", "(II)I"⟩, 9), (⟨"SixWalls", "ofWall", "(II)I"⟩, 9), (⟨"SixWalls$Winter", "lawful", "(IIII)I"⟩, 8), (⟨"SixWalls$LawText", "readLines", "()V"⟩, 11), (⟨"SixWalls$LawText", "readLine", "()V"⟩, 11), (⟨"SixWalls$LawText", "readLevel", "(II)V"⟩, 11), (⟨"SixWalls$LawText", "readOperand", "(I)V"⟩, 11), (⟨"SixWalls$LawText", "peek", "()I"⟩, 11), (⟨"SixWalls$LawText", "readNumber", "()V"⟩, 11), (⟨"SixWalls$LawText", "emit", "(II)I"⟩, 11), (⟨"SixWalls$Winter", "begin", "()V"⟩, 8), (⟨"SixWalls$Winter", "passAll", "(I)V"⟩, 8), (⟨"SixWalls$Winter", "pass", "()Z"⟩, 8), (⟨"SixWalls$Masonry", "goRound", "()Z"⟩, 4)]
theorem lw_r1 : ∀ q ∈ lw_privs_1, lw_okq q := List.forall_mem_cons.mpr ⟨lw_p0, List.forall_mem_cons.mpr ⟨lw_p1, List.forall_mem_cons.mpr ⟨lw_p2, List.forall_mem_cons.mpr ⟨lw_p3, List.forall_mem_cons.mpr ⟨lw_p4, List.forall_mem_cons.mpr ⟨lw_p5, List.forall_mem_cons.mpr ⟨lw_p6, List.forall_mem_cons.mpr ⟨lw_p7, List.forall_mem_cons.mpr ⟨lw_p8, List.forall_mem_cons.mpr ⟨lw_p9, List.forall_mem_cons.mpr ⟨lw_p10, List.forall_mem_cons.mpr ⟨lw_p11, List.forall_mem_cons.mpr ⟨lw_p12, List.forall_mem_cons.mpr ⟨lw_p13, List.forall_mem_cons.mpr ⟨lw_p14, List.forall_mem_cons.mpr ⟨lw_p15, fun _ h => absurd h List.not_mem_nil⟩⟩⟩⟩⟩⟩⟩⟩⟩⟩⟩⟩⟩⟩⟩⟩
theorem lw_p16 : lw_okq (⟨"SixWalls$Ways", "besides", "(I)I"⟩, 3) := ⟨⟨by decide +kernel, by decide +kernel⟩, List.mem_of_getElem? (i := 224) (by decide +kernel), List.mem_of_getElem? (i := 642) (by decide +kernel), List.mem_of_getElem? (i := 643) (by decide +kernel)⟩
theorem lw_p17 : lw_okq (⟨"SixWalls$Ways", "gather", "()V"⟩, 3) := ⟨⟨by decide +kernel, by decide +kernel⟩, List.mem_of_getElem? (i := 224) (by decide +kernel), List.mem_of_getElem? (i := 654) (by decide +kernel), List.mem_of_getElem? (i := 655) (by decide +kernel)⟩
theorem lw_p18 : lw_okq (⟨"SixWalls$Ways", "join", "(II)V"⟩, 3) := ⟨⟨by decide +kernel, by decide +kernel⟩, List.mem_of_getElem? (i := 224) (by decide +kernel), List.mem_of_getElem? (i := 662) (by decide +kernel), List.mem_of_getElem? (i := 663) (by decide +kernel)⟩
theorem lw_p19 : lw_okq (⟨"SixWalls$Ways", "listen", "(I)V"⟩, 3) := ⟨⟨by decide +kernel, by decide +kernel⟩, List.mem_of_getElem? (i := 224) (by decide +kernel), List.mem_of_getElem? (i := 695) (by decide +kernel), List.mem_of_getElem? (i := 696) (by decide +kernel)⟩
theorem lw_p20 : lw_okq (⟨"SixWalls$Ways", "pass", "(III)Z"⟩, 3) := ⟨⟨by decide +kernel, by decide +kernel⟩, List.mem_of_getElem? (i := 224) (by decide +kernel), List.mem_of_getElem? (i := 700) (by decide +kernel), List.mem_of_getElem? (i := 701) (by decide +kernel)⟩
theorem lw_p21 : lw_okq (⟨"SixWalls$Ways", "hearers", "(II)I"⟩, 3) := ⟨⟨by decide +kernel, by decide +kernel⟩, List.mem_of_getElem? (i := 224) (by decide +kernel), List.mem_of_getElem? (i := 713) (by decide +kernel), List.mem_of_getElem? (i := 714) (by decide +kernel)⟩
theorem lw_p22 : lw_okq (⟨"SixWalls$Masonry", "clashesOf", "([I)I"⟩, 4) := ⟨⟨by decide +kernel, by decide +kernel⟩, List.mem_of_getElem? (i := 205) (by decide +kernel), List.mem_of_getElem? (i := 725) (by decide +kernel), List.mem_of_getElem? (i := 726) (by decide +kernel)⟩
theorem lw_p23 : lw_okq (⟨"SixWalls$Masonry", "alike", "(II[I)I"⟩, 4) := ⟨⟨by decide +kernel, by decide +kernel⟩, List.mem_of_getElem? (i := 205) (by decide +kernel), List.mem_of_getElem? (i := 729) (by decide +kernel), List.mem_of_getElem? (i := 730) (by decide +kernel)⟩
theorem lw_p24 : lw_okq (⟨"SixWalls$Masonry", "alikeIn", "(III[I)I"⟩, 4) := ⟨⟨by decide +kernel, by decide +kernel⟩, List.mem_of_getElem? (i := 205) (by decide +kernel), List.mem_of_getElem? (i := 733) (by decide +kernel), List.mem_of_getElem? (i := 734) (by decide +kernel)⟩
theorem lw_p25 : lw_okq (⟨"SixWalls$Families", "befall", "(II)V"⟩, 4) := ⟨⟨by decide +kernel, by decide +kernel⟩, List.mem_of_getElem? (i := 240) (by decide +kernel), List.mem_of_getElem? (i := 790) (by decide +kernel), List.mem_of_getElem? (i := 791) (by decide +kernel)⟩
theorem lw_p26 : lw_okq (⟨"SixWalls$Families", "bear", "(I)V"⟩, 4) := ⟨⟨by decide +kernel, by decide +kernel⟩, List.mem_of_getElem? (i := 240) (by decide +kernel), List.mem_of_getElem? (i := 794) (by decide +kernel), List.mem_of_getElem? (i := 795) (by decide +kernel)⟩
theorem lw_p27 : lw_okq (⟨"SixWalls$Families", "feud", "(I)V"⟩, 4) := ⟨⟨by decide +kernel, by decide +kernel⟩, List.mem_of_getElem? (i := 240) (by decide +kernel), List.mem_of_getElem? (i := 798) (by decide +kernel), List.mem_of_getElem? (i := 799) (by decide +kernel)⟩
theorem lw_p28 : lw_okq (⟨"SixWalls$Cells", "from", "(IIII)I"⟩, 5) := ⟨⟨by decide +kernel, by decide +kernel⟩, List.mem_of_getElem? (i := 287) (by decide +kernel), List.mem_of_getElem? (i := 864) (by decide +kernel), List.mem_of_getElem? (i := 865) (by decide +kernel)⟩
theorem lw_p29 : lw_okq (⟨"SixWalls$Cells", "perform", "(IIII)I"⟩, 5) := ⟨⟨by decide +kernel, by decide +kernel⟩, List.mem_of_getElem? (i := 287) (by decide +kernel), List.mem_of_getElem? (i := 870) (by decide +kernel), List.mem_of_getElem? (i := 871) (by decide +kernel)⟩
theorem lw_p30 : lw_okq (⟨"SixWalls$Cells", "own", "(III)I"⟩, 5) := ⟨⟨by decide +kernel, by decide +kernel⟩, List.mem_of_getElem? (i := 287) (by decide +kernel), List.mem_of_getElem? (i := 874) (by decide +kernel), List.mem_of_getElem? (i := 875) (by decide +kernel)⟩
theorem lw_p31 : lw_okq (⟨"SixWalls$Shelves", "refusalOfRow", "(I)I"⟩, 4) := ⟨⟨by decide +kernel, by decide +kernel⟩, List.mem_of_getElem? (i := 309) (by decide +kernel), List.mem_of_getElem? (i := 916) (by decide +kernel), List.mem_of_getElem? (i := 917) (by decide +kernel)⟩
def lw_privs_2 : List (MethodName × Nat) := [(⟨"SixWalls$Ways", "besides", "(I)I"⟩, 3), (⟨"SixWalls$Ways", "gather", "()V"⟩, 3), (⟨"SixWalls$Ways", "join", "(II)V"⟩, 3), (⟨"SixWalls$Ways", "listen", "(I)V"⟩, 3), (⟨"SixWalls$Ways", "pass", "(III)Z"⟩, 3), (⟨"SixWalls$Ways", "hearers", "(II)I"⟩, 3), (⟨"SixWalls$Masonry", "clashesOf", "([I)I"⟩, 4), (⟨"SixWalls$Masonry", "alike", "(II[I)I"⟩, 4), (⟨"SixWalls$Masonry", "alikeIn", "(III[I)I"⟩, 4), (⟨"SixWalls$Families", "befall", "(II)V"⟩, 4), (⟨"SixWalls$Families", "bear", "(I)V"⟩, 4), (⟨"SixWalls$Families", "feud", "(I)V"⟩, 4), (⟨"SixWalls$Cells", "from", "(IIII)I"⟩, 5), (⟨"SixWalls$Cells", "perform", "(IIII)I"⟩, 5), (⟨"SixWalls$Cells", "own", "(III)I"⟩, 5), (⟨"SixWalls$Shelves", "refusalOfRow", "(I)I"⟩, 4)]
theorem lw_r2 : ∀ q ∈ lw_privs_2, lw_okq q := List.forall_mem_cons.mpr ⟨lw_p16, List.forall_mem_cons.mpr ⟨lw_p17, List.forall_mem_cons.mpr ⟨lw_p18, List.forall_mem_cons.mpr ⟨lw_p19, List.forall_mem_cons.mpr ⟨lw_p20, List.forall_mem_cons.mpr ⟨lw_p21, List.forall_mem_cons.mpr ⟨lw_p22, List.forall_mem_cons.mpr ⟨lw_p23, List.forall_mem_cons.mpr ⟨lw_p24, List.forall_mem_cons.mpr ⟨lw_p25, List.forall_mem_cons.mpr ⟨lw_p26, List.forall_mem_cons.mpr ⟨lw_p27, List.forall_mem_cons.mpr ⟨lw_p28, List.forall_mem_cons.mpr ⟨lw_p29, List.forall_mem_cons.mpr ⟨lw_p30, List.forall_mem_cons.mpr ⟨lw_p31, fun _ h => absurd h List.not_mem_nil⟩⟩⟩⟩⟩⟩⟩⟩⟩⟩⟩⟩⟩⟩⟩⟩
theorem lw_p32 : lw_okq (⟨"SixWallsModel", "wallOf", "(II)I"⟩, 44) := ⟨⟨by decide +kernel, by decide +kernel⟩, List.mem_of_getElem? (i := 987) (by decide +kernel), List.mem_of_getElem? (i := 1152) (by decide +kernel), List.mem_of_getElem? (i := 1153) (by decide +kernel)⟩
theorem lw_p33 : lw_okq (⟨"SixWallsModel", "becomes", "(II)I"⟩, 44) := ⟨⟨by decide +kernel, by decide +kernel⟩, List.mem_of_getElem? (i := 987) (by decide +kernel), List.mem_of_getElem? (i := 1161) (by decide +kernel), List.mem_of_getElem? (i := 1162) (by decide +kernel)⟩
theorem lw_p34 : lw_okq (⟨"SixWallsModel", "ofHouse", "(II)I"⟩, 44) := ⟨⟨by decide +kernel, by decide +kernel⟩, List.mem_of_getElem? (i := 987) (by decide +kernel), List.mem_of_getElem? (i := 1176) (by decide +kernel), List.mem_of_getElem? (i := 1177) (by decide +kernel)⟩
theorem lw_p35 : lw_okq (⟨"SixWallsModel", "neighboursOf", "(I)I"⟩, 44) := ⟨⟨by decide +kernel, by decide +kernel⟩, List.mem_of_getElem? (i := 987) (by decide +kernel), List.mem_of_getElem? (i := 1180) (by decide +kernel), List.mem_of_getElem? (i := 1181) (by decide +kernel)⟩
theorem lw_p36 : lw_okq (⟨"SixWallsModel", "asksThick", "()V"⟩, 44) := ⟨⟨by decide +kernel, by decide +kernel⟩, List.mem_of_getElem? (i := 987) (by decide +kernel), List.mem_of_getElem? (i := 1184) (by decide +kernel), List.mem_of_getElem? (i := 1185) (by decide +kernel)⟩
theorem lw_p37 : lw_okq (⟨"SixWallsModel", "borne", "(I)I"⟩, 44) := ⟨⟨by decide +kernel, by decide +kernel⟩, List.mem_of_getElem? (i := 987) (by decide +kernel), List.mem_of_getElem? (i := 1188) (by decide +kernel), List.mem_of_getElem? (i := 1189) (by decide +kernel)⟩
theorem lw_p38 : lw_okq (⟨"SixWallsModel", "ofWall", "(II)I"⟩, 44) := ⟨⟨by decide +kernel, by decide +kernel⟩, List.mem_of_getElem? (i := 987) (by decide +kernel), List.mem_of_getElem? (i := 1194) (by decide +kernel), List.mem_of_getElem? (i := 1195) (by decide +kernel)⟩
theorem lw_p39 : lw_okq (⟨"SixWallsModel", "agreedOf", "(I)I"⟩, 44) := ⟨⟨by decide +kernel, by decide +kernel⟩, List.mem_of_getElem? (i := 987) (by decide +kernel), List.mem_of_getElem? (i := 1198) (by decide +kernel), List.mem_of_getElem? (i := 1199) (by decide +kernel)⟩
theorem lw_p40 : lw_okq (⟨"SixWallsModel", "begins1", "()V"⟩, 44) := ⟨⟨by decide +kernel, by decide +kernel⟩, List.mem_of_getElem? (i := 987) (by decide +kernel), List.mem_of_getElem? (i := 1202) (by decide +kernel), List.mem_of_getElem? (i := 1203) (by decide +kernel)⟩
theorem lw_p41 : lw_okq (⟨"SixWallsModel", "flowOf", "(I)I"⟩, 44) := ⟨⟨by decide +kernel, by decide +kernel⟩, List.mem_of_getElem? (i := 987) (by decide +kernel), List.mem_of_getElem? (i := 1206) (by decide +kernel), List.mem_of_getElem? (i := 1207) (by decide +kernel)⟩
theorem lw_p42 : lw_okq (⟨"SixWallsModel", "throughOf", "(III)I"⟩, 44) := ⟨⟨by decide +kernel, by decide +kernel⟩, List.mem_of_getElem? (i := 987) (by decide +kernel), List.mem_of_getElem? (i := 1210) (by decide +kernel), List.mem_of_getElem? (i := 1211) (by decide +kernel)⟩
theorem lw_p43 : lw_okq (⟨"SixWallsModel", "workOut", "(II)I"⟩, 44) := ⟨⟨by decide +kernel, by decide +kernel⟩, List.mem_of_getElem? (i := 987) (by decide +kernel), List.mem_of_getElem? (i := 1214) (by decide +kernel), List.mem_of_getElem? (i := 1215) (by decide +kernel)⟩
theorem lw_p44 : lw_okq (⟨"SixWallsModel", "either", "()I"⟩, 44) := ⟨⟨by decide +kernel, by decide +kernel⟩, List.mem_of_getElem? (i := 987) (by decide +kernel), List.mem_of_getElem? (i := 1218) (by decide +kernel), List.mem_of_getElem? (i := 1219) (by decide +kernel)⟩
theorem lw_p45 : lw_okq (⟨"SixWallsModel", "both", "()I"⟩, 44) := ⟨⟨by decide +kernel, by decide +kernel⟩, List.mem_of_getElem? (i := 987) (by decide +kernel), List.mem_of_getElem? (i := 1222) (by decide +kernel), List.mem_of_getElem? (i := 1223) (by decide +kernel)⟩
theorem lw_p46 : lw_okq (⟨"SixWallsModel", "compared", "()I"⟩, 44) := ⟨⟨by decide +kernel, by decide +kernel⟩, List.mem_of_getElem? (i := 987) (by decide +kernel), List.mem_of_getElem? (i := 1226) (by decide +kernel), List.mem_of_getElem? (i := 1227) (by decide +kernel)⟩
theorem lw_p47 : lw_okq (⟨"SixWallsModel", "sums", "()I"⟩, 44) := ⟨⟨by decide +kernel, by decide +kernel⟩, List.mem_of_getElem? (i := 987) (by decide +kernel), List.mem_of_getElem? (i := 1230) (by decide +kernel), List.mem_of_getElem? (i := 1231) (by decide +kernel)⟩
def lw_privs_3 : List (MethodName × Nat) := [(⟨"SixWallsModel", "wallOf", "(II)I"⟩, 44), (⟨"SixWallsModel", "becomes", "(II)I"⟩, 44), (⟨"SixWallsModel", "ofHouse", "(II)I"⟩, 44), (⟨"SixWallsModel", "neighboursOf", "(I)I"⟩, 44), (⟨"SixWallsModel", "asksThick", "()V"⟩, 44), (⟨"SixWallsModel", "borne", "(I)I"⟩, 44), (⟨"SixWallsModel", "ofWall", "(II)I"⟩, 44), (⟨"SixWallsModel", "agreedOf", "(I)I"⟩, 44), (⟨"SixWallsModel", "begins1", "()V"⟩, 44), (⟨"SixWallsModel", "flowOf", "(I)I"⟩, 44), (⟨"SixWallsModel", "throughOf", "(III)I"⟩, 44), (⟨"SixWallsModel", "workOut", "(II)I"⟩, 44), (⟨"SixWallsModel", "either", "()I"⟩, 44), (⟨"SixWallsModel", "both", "()I"⟩, 44), (⟨"SixWallsModel", "compared", "()I"⟩, 44), (⟨"SixWallsModel", "sums", "()I"⟩, 44)]
theorem lw_r3 : ∀ q ∈ lw_privs_3, lw_okq q := List.forall_mem_cons.mpr ⟨lw_p32, List.forall_mem_cons.mpr ⟨lw_p33, List.forall_mem_cons.mpr ⟨lw_p34, List.forall_mem_cons.mpr ⟨lw_p35, List.forall_mem_cons.mpr ⟨lw_p36, List.forall_mem_cons.mpr ⟨lw_p37, List.forall_mem_cons.mpr ⟨lw_p38, List.forall_mem_cons.mpr ⟨lw_p39, List.forall_mem_cons.mpr ⟨lw_p40, List.forall_mem_cons.mpr ⟨lw_p41, List.forall_mem_cons.mpr ⟨lw_p42, List.forall_mem_cons.mpr ⟨lw_p43, List.forall_mem_cons.mpr ⟨lw_p44, List.forall_mem_cons.mpr ⟨lw_p45, List.forall_mem_cons.mpr ⟨lw_p46, List.forall_mem_cons.mpr ⟨lw_p47, fun _ h => absurd h List.not_mem_nil⟩⟩⟩⟩⟩⟩⟩⟩⟩⟩⟩⟩⟩⟩⟩⟩
theorem lw_p48 : lw_okq (⟨"SixWallsModel", "product", "()I"⟩, 44) := ⟨⟨by decide +kernel, by decide +kernel⟩, List.mem_of_getElem? (i := 987) (by decide +kernel), List.mem_of_getElem? (i := 1234) (by decide +kernel), List.mem_of_getElem? (i := 1235) (by decide +kernel)⟩
theorem lw_p49 : lw_okq (⟨"SixWallsModel", "oneOf", "()I"⟩, 44) := ⟨⟨by decide +kernel, by decide +kernel⟩, List.mem_of_getElem? (i := 987) (by decide +kernel), List.mem_of_getElem? (i := 1238) (by decide +kernel), List.mem_of_getElem? (i := 1239) (by decide +kernel)⟩
theorem lw_p50 : lw_okq (⟨"SixWallsModel", "byteAt", "()I"⟩, 44) := ⟨⟨by decide +kernel, by decide +kernel⟩, List.mem_of_getElem? (i := 987) (by decide +kernel), List.mem_of_getElem? (i := 1242) (by decide +kernel), List.mem_of_getElem? (i := 1243) (by decide +kernel)⟩
theorem lw_p51 : lw_okq (⟨"SixWallsModel", "wrong", "()I"⟩, 44) := ⟨⟨by decide +kernel, by decide +kernel⟩, List.mem_of_getElem? (i := 987) (by decide +kernel), List.mem_of_getElem? (i := 1246) (by decide +kernel), List.mem_of_getElem? (i := 1247) (by decide +kernel)⟩
theorem lw_p52 : lw_okq (⟨"SixWallsModel", "takesByte", "(I)Z"⟩, 44) := ⟨⟨by decide +kernel, by decide +kernel⟩, List.mem_of_getElem? (i := 987) (by decide +kernel), List.mem_of_getElem? (i := 1250) (by decide +kernel), List.mem_of_getElem? (i := 1251) (by decide +kernel)⟩
theorem lw_p53 : lw_okq (⟨"SixWallsModel", "winter", "(I)V"⟩, 44) := ⟨⟨by decide +kernel, by decide +kernel⟩, List.mem_of_getElem? (i := 987) (by decide +kernel), List.mem_of_getElem? (i := 1281) (by decide +kernel), List.mem_of_getElem? (i := 1282) (by decide +kernel)⟩
theorem lw_p54 : lw_okq (⟨"SixWallsModel", "dayGoes", "()Z"⟩, 44) := ⟨⟨by decide +kernel, by decide +kernel⟩, List.mem_of_getElem? (i := 987) (by decide +kernel), List.mem_of_getElem? (i := 1285) (by decide +kernel), List.mem_of_getElem? (i := 1286) (by decide +kernel)⟩
theorem lw_p55 : lw_okq (⟨"SixWallsModel", "allThen", "()I"⟩, 44) := ⟨⟨by decide +kernel, by decide +kernel⟩, List.mem_of_getElem? (i := 987) (by decide +kernel), List.mem_of_getElem? (i := 1289) (by decide +kernel), List.mem_of_getElem? (i := 1290) (by decide +kernel)⟩
theorem lw_p56 : lw_okq (⟨"SixWallsModel", "roundGoes", "()Z"⟩, 44) := ⟨⟨by decide +kernel, by decide +kernel⟩, List.mem_of_getElem? (i := 987) (by decide +kernel), List.mem_of_getElem? (i := 1322) (by decide +kernel), List.mem_of_getElem? (i := 1323) (by decide +kernel)⟩
theorem lw_p57 : lw_okq (⟨"SixWallsModel", "measures", "(IZ)V"⟩, 44) := ⟨⟨by decide +kernel, by decide +kernel⟩, List.mem_of_getElem? (i := 987) (by decide +kernel), List.mem_of_getElem? (i := 1330) (by decide +kernel), List.mem_of_getElem? (i := 1331) (by decide +kernel)⟩
theorem lw_p58 : lw_okq (⟨"SixWallsModel", "comesTo", "(II)Z"⟩, 44) := ⟨⟨by decide +kernel, by decide +kernel⟩, List.mem_of_getElem? (i := 987) (by decide +kernel), List.mem_of_getElem? (i := 1334) (by decide +kernel), List.mem_of_getElem? (i := 1335) (by decide +kernel)⟩
theorem lw_p59 : lw_okq (⟨"SixWallsModel", "livedIn", "()I"⟩, 44) := ⟨⟨by decide +kernel, by decide +kernel⟩, List.mem_of_getElem? (i := 987) (by decide +kernel), List.mem_of_getElem? (i := 1342) (by decide +kernel), List.mem_of_getElem? (i := 1343) (by decide +kernel)⟩
theorem lw_p60 : lw_okq (⟨"SixWallsModel", "outWith", "(J)I"⟩, 44) := ⟨⟨by decide +kernel, by decide +kernel⟩, List.mem_of_getElem? (i := 987) (by decide +kernel), List.mem_of_getElem? (i := 1346) (by decide +kernel), List.mem_of_getElem? (i := 1347) (by decide +kernel)⟩
theorem lw_p61 : lw_okq (⟨"SixWallsModel", "opens", "(IIJ)V"⟩, 44) := ⟨⟨by decide +kernel, by decide +kernel⟩, List.mem_of_getElem? (i := 987) (by decide +kernel), List.mem_of_getElem? (i := 1362) (by decide +kernel), List.mem_of_getElem? (i := 1363) (by decide +kernel)⟩
theorem lw_p62 : lw_okq (⟨"SixWallsModel", "asksColours", "()V"⟩, 44) := ⟨⟨by decide +kernel, by decide +kernel⟩, List.mem_of_getElem? (i := 987) (by decide +kernel), List.mem_of_getElem? (i := 1379) (by decide +kernel), List.mem_of_getElem? (i := 1380) (by decide +kernel)⟩
theorem lw_p63 : lw_okq (⟨"SixWallsModel", "bestColour", "(I)I"⟩, 44) := ⟨⟨by decide +kernel, by decide +kernel⟩, List.mem_of_getElem? (i := 987) (by decide +kernel), List.mem_of_getElem? (i := 1383) (by decide +kernel), List.mem_of_getElem? (i := 1384) (by decide +kernel)⟩
def lw_privs_4 : List (MethodName × Nat) := [(⟨"SixWallsModel", "product", "()I"⟩, 44), (⟨"SixWallsModel", "oneOf", "()I"⟩, 44), (⟨"SixWallsModel", "byteAt", "()I"⟩, 44), (⟨"SixWallsModel", "wrong", "()I"⟩, 44), (⟨"SixWallsModel", "takesByte", "(I)Z"⟩, 44), (⟨"SixWallsModel", "winter", "(I)V"⟩, 44), (⟨"SixWallsModel", "dayGoes", "()Z"⟩, 44), (⟨"SixWallsModel", "allThen", "()I"⟩, 44), (⟨"SixWallsModel", "roundGoes", "()Z"⟩, 44), (⟨"SixWallsModel", "measures", "(IZ)V"⟩, 44), (⟨"SixWallsModel", "comesTo", "(II)Z"⟩, 44), (⟨"SixWallsModel", "livedIn", "()I"⟩, 44), (⟨"SixWallsModel", "outWith", "(J)I"⟩, 44), (⟨"SixWallsModel", "opens", "(IIJ)V"⟩, 44), (⟨"SixWallsModel", "asksColours", "()V"⟩, 44), (⟨"SixWallsModel", "bestColour", "(I)I"⟩, 44)]
theorem lw_r4 : ∀ q ∈ lw_privs_4, lw_okq q := List.forall_mem_cons.mpr ⟨lw_p48, List.forall_mem_cons.mpr ⟨lw_p49, List.forall_mem_cons.mpr ⟨lw_p50, List.forall_mem_cons.mpr ⟨lw_p51, List.forall_mem_cons.mpr ⟨lw_p52, List.forall_mem_cons.mpr ⟨lw_p53, List.forall_mem_cons.mpr ⟨lw_p54, List.forall_mem_cons.mpr ⟨lw_p55, List.forall_mem_cons.mpr ⟨lw_p56, List.forall_mem_cons.mpr ⟨lw_p57, List.forall_mem_cons.mpr ⟨lw_p58, List.forall_mem_cons.mpr ⟨lw_p59, List.forall_mem_cons.mpr ⟨lw_p60, List.forall_mem_cons.mpr ⟨lw_p61, List.forall_mem_cons.mpr ⟨lw_p62, List.forall_mem_cons.mpr ⟨lw_p63, fun _ h => absurd h List.not_mem_nil⟩⟩⟩⟩⟩⟩⟩⟩⟩⟩⟩⟩⟩⟩⟩⟩
theorem lw_p64 : lw_okq (⟨"SixWallsModel", "clashes", "()I"⟩, 44) := ⟨⟨by decide +kernel, by decide +kernel⟩, List.mem_of_getElem? (i := 987) (by decide +kernel), List.mem_of_getElem? (i := 1387) (by decide +kernel), List.mem_of_getElem? (i := 1388) (by decide +kernel)⟩
theorem lw_p65 : lw_okq (⟨"SixWallsModel", "whoTakes", "(I)I"⟩, 44) := ⟨⟨by decide +kernel, by decide +kernel⟩, List.mem_of_getElem? (i := 987) (by decide +kernel), List.mem_of_getElem? (i := 1403) (by decide +kernel), List.mem_of_getElem? (i := 1404) (by decide +kernel)⟩
theorem lw_p66 : lw_okq (⟨"SixWallsModel", "isBorn", "(I)V"⟩, 44) := ⟨⟨by decide +kernel, by decide +kernel⟩, List.mem_of_getElem? (i := 987) (by decide +kernel), List.mem_of_getElem? (i := 1416) (by decide +kernel), List.mem_of_getElem? (i := 1417) (by decide +kernel)⟩
theorem lw_p67 : lw_okq (⟨"SixWallsModel", "feuds", "(I)V"⟩, 44) := ⟨⟨by decide +kernel, by decide +kernel⟩, List.mem_of_getElem? (i := 987) (by decide +kernel), List.mem_of_getElem? (i := 1420) (by decide +kernel), List.mem_of_getElem? (i := 1421) (by decide +kernel)⟩
theorem lw_p68 : lw_okq (⟨"SixWallsModel", "allWarmth", "()I"⟩, 44) := ⟨⟨by decide +kernel, by decide +kernel⟩, List.mem_of_getElem? (i := 987) (by decide +kernel), List.mem_of_getElem? (i := 1428) (by decide +kernel), List.mem_of_getElem? (i := 1429) (by decide +kernel)⟩
theorem lw_p69 : lw_okq (⟨"SixWallsModel", "isBody", "(I)Z"⟩, 44) := ⟨⟨by decide +kernel, by decide +kernel⟩, List.mem_of_getElem? (i := 987) (by decide +kernel), List.mem_of_getElem? (i := 1445) (by decide +kernel), List.mem_of_getElem? (i := 1446) (by decide +kernel)⟩
theorem lw_p70 : lw_okq (⟨"SixWallsModel", "warmsAs", "(II)I"⟩, 44) := ⟨⟨by decide +kernel, by decide +kernel⟩, List.mem_of_getElem? (i := 987) (by decide +kernel), List.mem_of_getElem? (i := 1449) (by decide +kernel), List.mem_of_getElem? (i := 1450) (by decide +kernel)⟩
theorem lw_p71 : lw_okq (⟨"SixWallsModel", "begins", "(I)V"⟩, 44) := ⟨⟨by decide +kernel, by decide +kernel⟩, List.mem_of_getElem? (i := 987) (by decide +kernel), List.mem_of_getElem? (i := 1453) (by decide +kernel), List.mem_of_getElem? (i := 1454) (by decide +kernel)⟩
theorem lw_p72 : lw_okq (⟨"SixWallsModel", "wallsAs", "(II)I"⟩, 44) := ⟨⟨by decide +kernel, by decide +kernel⟩, List.mem_of_getElem? (i := 987) (by decide +kernel), List.mem_of_getElem? (i := 1457) (by decide +kernel), List.mem_of_getElem? (i := 1458) (by decide +kernel)⟩
theorem lw_p73 : lw_okq (⟨"SixWallsModel", "pipesAs", "(II)I"⟩, 44) := ⟨⟨by decide +kernel, by decide +kernel⟩, List.mem_of_getElem? (i := 987) (by decide +kernel), List.mem_of_getElem? (i := 1461) (by decide +kernel), List.mem_of_getElem? (i := 1462) (by decide +kernel)⟩
theorem lw_p74 : lw_okq (⟨"SixWallsModel", "tellsAs", "(II)I"⟩, 44) := ⟨⟨by decide +kernel, by decide +kernel⟩, List.mem_of_getElem? (i := 987) (by decide +kernel), List.mem_of_getElem? (i := 1465) (by decide +kernel), List.mem_of_getElem? (i := 1466) (by decide +kernel)⟩
theorem lw_p75 : lw_okq (⟨"SixWallsModel", "refusal", "(II)I"⟩, 44) := ⟨⟨by decide +kernel, by decide +kernel⟩, List.mem_of_getElem? (i := 987) (by decide +kernel), List.mem_of_getElem? (i := 1486) (by decide +kernel), List.mem_of_getElem? (i := 1487) (by decide +kernel)⟩
theorem lw_p76 : lw_okq (⟨"SixWallsModel", "kindOf", "(I)I"⟩, 44) := ⟨⟨by decide +kernel, by decide +kernel⟩, List.mem_of_getElem? (i := 987) (by decide +kernel), List.mem_of_getElem? (i := 1505) (by decide +kernel), List.mem_of_getElem? (i := 1506) (by decide +kernel)⟩
theorem lw_p77 : lw_okq (⟨"SixWallsModel", "doorMany", "()I"⟩, 44) := ⟨⟨by decide +kernel, by decide +kernel⟩, List.mem_of_getElem? (i := 987) (by decide +kernel), List.mem_of_getElem? (i := 1516) (by decide +kernel), List.mem_of_getElem? (i := 1517) (by decide +kernel)⟩
def lw_privs_5 : List (MethodName × Nat) := [(⟨"SixWallsModel", "clashes", "()I"⟩, 44), (⟨"SixWallsModel", "whoTakes", "(I)I"⟩, 44), (⟨"SixWallsModel", "isBorn", "(I)V"⟩, 44), (⟨"SixWallsModel", "feuds", "(I)V"⟩, 44), (⟨"SixWallsModel", "allWarmth", "()I"⟩, 44), (⟨"SixWallsModel", "isBody", "(I)Z"⟩, 44), (⟨"SixWallsModel", "warmsAs", "(II)I"⟩, 44), (⟨"SixWallsModel", "begins", "(I)V"⟩, 44), (⟨"SixWallsModel", "wallsAs", "(II)I"⟩, 44), (⟨"SixWallsModel", "pipesAs", "(II)I"⟩, 44), (⟨"SixWallsModel", "tellsAs", "(II)I"⟩, 44), (⟨"SixWallsModel", "refusal", "(II)I"⟩, 44), (⟨"SixWallsModel", "kindOf", "(I)I"⟩, 44), (⟨"SixWallsModel", "doorMany", "()I"⟩, 44)]
theorem lw_r5 : ∀ q ∈ lw_privs_5, lw_okq q := List.forall_mem_cons.mpr ⟨lw_p64, List.forall_mem_cons.mpr ⟨lw_p65, List.forall_mem_cons.mpr ⟨lw_p66, List.forall_mem_cons.mpr ⟨lw_p67, List.forall_mem_cons.mpr ⟨lw_p68, List.forall_mem_cons.mpr ⟨lw_p69, List.forall_mem_cons.mpr ⟨lw_p70, List.forall_mem_cons.mpr ⟨lw_p71, List.forall_mem_cons.mpr ⟨lw_p72, List.forall_mem_cons.mpr ⟨lw_p73, List.forall_mem_cons.mpr ⟨lw_p74, List.forall_mem_cons.mpr ⟨lw_p75, List.forall_mem_cons.mpr ⟨lw_p76, List.forall_mem_cons.mpr ⟨lw_p77, fun _ h => absurd h List.not_mem_nil⟩⟩⟩⟩⟩⟩⟩⟩⟩⟩⟩⟩⟩⟩
def lw_privs : List (MethodName × Nat) := lw_privs_1 ++ (lw_privs_2 ++ (lw_privs_3 ++ (lw_privs_4 ++ (lw_privs_5))))
def lw_tbl : List Cond := k2_sels lw_privs ++ tables_1
theorem lw_privs_ok : ∀ q ∈ lw_privs, lw_okq q := by
  show ∀ q ∈ lw_privs_1 ++ (lw_privs_2 ++ (lw_privs_3 ++ (lw_privs_4 ++ (lw_privs_5)))), lw_okq q
  exact List.forall_mem_append.mpr ⟨lw_r1, List.forall_mem_append.mpr ⟨lw_r2, List.forall_mem_append.mpr ⟨lw_r3, List.forall_mem_append.mpr ⟨lw_r4, lw_r5⟩⟩⟩⟩
def zR0 : String := "SixWalls$Cells"
def zT0 : u_T := fun k => match k with
  | 0 => ("SixWalls$Cells", "kinds", "[I", true)
  | 1 => ("SixWalls$Cells", "many", "I", false)
  | 2 => ("SixWalls$Cells", "traced", "[I", true)
  | 3 => ("SixWalls$Cells", "ran", "I", false)
  | _ => ("SixWalls$Cells", "self", "I", false)
def zty0 : Nat → FieldType := fun k => match k with
  | 0 => .array .int
  | 1 => .int
  | 2 => .array .int
  | 3 => .int
  | _ => .int
theorem znm0 : ∀ a, a < 5 → ∀ b, b < 5 → a ≠ b → (zT0 a).2.1 ≠ (zT0 b).2.1 := by decide +kernel
theorem zty0_ok : ∀ k, k < 5 → parseFieldDescriptor (zT0 k).2.2.1 = some (zty0 k) := by decide +kernel
theorem zin0 : ∀ w ∈ u_ws zR0 zT0 5, w ∈ lw_tbl := by decide +kernel
def zR1 : String := "SixWalls$Comb"
def zT1 : u_T := fun k => match k with
  | 0 => ("SixWalls$Comb", "low", "[I", true)
  | 1 => ("SixWalls$Comb", "high", "[I", true)
  | 2 => ("SixWalls$Comb", "sides", "[I", true)
  | 3 => ("SixWalls$Comb", "wallAt", "[I", true)
  | 4 => ("SixWalls$Comb", "nextAt", "[I", true)
  | 5 => ("SixWalls$Comb", "lived", "[I", true)
  | 6 => ("SixWalls$Comb", "fire", "[I", true)
  | 7 => ("SixWalls$Comb", "warm", "[I", true)
  | 8 => ("SixWalls$Comb", "want", "[I", true)
  | 9 => ("SixWalls$Comb", "thick", "[I", true)
  | 10 => ("SixWalls$Comb", "door", "[I", true)
  | 11 => ("SixWalls$Comb", "colour", "[I", true)
  | 12 => ("SixWalls$Comb", "frost", "I", false)
  | _ => ("SixWalls$Comb", "bear", "I", false)
def zty1 : Nat → FieldType := fun k => match k with
  | 0 => .array .int
  | 1 => .array .int
  | 2 => .array .int
  | 3 => .array .int
  | 4 => .array .int
  | 5 => .array .int
  | 6 => .array .int
  | 7 => .array .int
  | 8 => .array .int
  | 9 => .array .int
  | 10 => .array .int
  | 11 => .array .int
  | 12 => .int
  | _ => .int
theorem znm1 : ∀ a, a < 14 → ∀ b, b < 14 → a ≠ b → (zT1 a).2.1 ≠ (zT1 b).2.1 := by decide +kernel
theorem zty1_ok : ∀ k, k < 14 → parseFieldDescriptor (zT1 k).2.2.1 = some (zty1 k) := by decide +kernel
theorem zin1 : ∀ w ∈ u_ws zR1 zT1 14, w ∈ lw_tbl := by decide +kernel
def zR2 : String := "SixWalls$Families"
def zT2 : u_T := fun k => match k with
  | 0 => ("SixWalls$Families", "comb", "LSixWalls$Comb;", true)
  | 1 => ("SixWalls$Families", "imageWarm", "[I", true)
  | 2 => ("SixWalls$Families", "imageLived", "[I", true)
  | _ => ("SixWalls$Families", "imaged", "Z", false)
def zty2 : Nat → FieldType := fun k => match k with
  | 0 => .object "SixWalls$Comb"
  | 1 => .array .int
  | 2 => .array .int
  | _ => .boolean
theorem znm2 : ∀ a, a < 4 → ∀ b, b < 4 → a ≠ b → (zT2 a).2.1 ≠ (zT2 b).2.1 := by decide +kernel
theorem zty2_ok : ∀ k, k < 4 → parseFieldDescriptor (zT2 k).2.2.1 = some (zty2 k) := by decide +kernel
theorem zin2 : ∀ w ∈ u_ws zR2 zT2 4, w ∈ lw_tbl := by decide +kernel
def zR3 : String := "SixWalls$History"
def zT3 : u_T := fun k => match k with
  | 0 => ("SixWalls$History", "comb", "LSixWalls$Comb;", true)
  | 1 => ("SixWalls$History", "number", "[I", true)
  | 2 => ("SixWalls$History", "what", "[I", true)
  | 3 => ("SixWalls$History", "before", "[I", true)
  | 4 => ("SixWalls$History", "after", "[I", true)
  | 5 => ("SixWalls$History", "standing", "I", false)
  | _ => ("SixWalls$History", "kept", "I", false)
def zty3 : Nat → FieldType := fun k => match k with
  | 0 => .object "SixWalls$Comb"
  | 1 => .array .int
  | 2 => .array .int
  | 3 => .array .int
  | 4 => .array .int
  | 5 => .int
  | _ => .int
theorem znm3 : ∀ a, a < 7 → ∀ b, b < 7 → a ≠ b → (zT3 a).2.1 ≠ (zT3 b).2.1 := by decide +kernel
theorem zty3_ok : ∀ k, k < 7 → parseFieldDescriptor (zT3 k).2.2.1 = some (zty3 k) := by decide +kernel
theorem zin3 : ∀ w ∈ u_ws zR3 zT3 7, w ∈ lw_tbl := by decide +kernel
def zR4 : String := "SixWalls$LawText"
def zT4 : u_T := fun k => match k with
  | 0 => ("SixWalls$LawText", "tape", "[I", true)
  | 1 => ("SixWalls$LawText", "fed", "I", false)
  | 2 => ("SixWalls$LawText", "at", "I", false)
  | 3 => ("SixWalls$LawText", "wrong", "Z", false)
  | 4 => ("SixWalls$LawText", "signs", "[I", false)
  | 5 => ("SixWalls$LawText", "numbers", "[I", false)
  | 6 => ("SixWalls$LawText", "size", "I", false)
  | 7 => ("SixWalls$LawText", "newSigns", "[I", false)
  | 8 => ("SixWalls$LawText", "newNumbers", "[I", false)
  | 9 => ("SixWalls$LawText", "newSize", "I", false)
  | _ => ("SixWalls$LawText", "stack", "[I", true)
def zty4 : Nat → FieldType := fun k => match k with
  | 0 => .array .int
  | 1 => .int
  | 2 => .int
  | 3 => .boolean
  | 4 => .array .int
  | 5 => .array .int
  | 6 => .int
  | 7 => .array .int
  | 8 => .array .int
  | 9 => .int
  | _ => .array .int
theorem znm4 : ∀ a, a < 11 → ∀ b, b < 11 → a ≠ b → (zT4 a).2.1 ≠ (zT4 b).2.1 := by decide +kernel
theorem zty4_ok : ∀ k, k < 11 → parseFieldDescriptor (zT4 k).2.2.1 = some (zty4 k) := by decide +kernel
theorem zin4 : ∀ w ∈ u_ws zR4 zT4 11, w ∈ lw_tbl := by decide +kernel
def zR5 : String := "SixWalls$Masonry"
def zT5 : u_T := fun k => match k with
  | 0 => ("SixWalls$Masonry", "comb", "LSixWalls$Comb;", true)
  | 1 => ("SixWalls$Masonry", "thick", "[I", true)
  | 2 => ("SixWalls$Masonry", "load", "[I", true)
  | _ => ("SixWalls$Masonry", "paints", "[I", true)
def zty5 : Nat → FieldType := fun k => match k with
  | 0 => .object "SixWalls$Comb"
  | 1 => .array .int
  | 2 => .array .int
  | _ => .array .int
theorem znm5 : ∀ a, a < 4 → ∀ b, b < 4 → a ≠ b → (zT5 a).2.1 ≠ (zT5 b).2.1 := by decide +kernel
theorem zty5_ok : ∀ k, k < 4 → parseFieldDescriptor (zT5 k).2.2.1 = some (zty5 k) := by decide +kernel
theorem zin5 : ∀ w ∈ u_ws zR5 zT5 4, w ∈ lw_tbl := by decide +kernel
def zR6 : String := "SixWalls$Shelves"
def zT6 : u_T := fun k => match k with
  | 0 => ("SixWalls$Shelves", "held", "[I", true)
  | 1 => ("SixWalls$Shelves", "cell", "[I", true)
  | 2 => ("SixWalls$Shelves", "size", "[I", true)
  | _ => ("SixWalls$Shelves", "rows", "[[J", true)
def zty6 : Nat → FieldType := fun k => match k with
  | 0 => .array .int
  | 1 => .array .int
  | 2 => .array .int
  | _ => .array (.array .long)
theorem znm6 : ∀ a, a < 4 → ∀ b, b < 4 → a ≠ b → (zT6 a).2.1 ≠ (zT6 b).2.1 := by decide +kernel
theorem zty6_ok : ∀ k, k < 4 → parseFieldDescriptor (zT6 k).2.2.1 = some (zty6 k) := by decide +kernel
theorem zin6 : ∀ w ∈ u_ws zR6 zT6 4, w ∈ lw_tbl := by decide +kernel
def zR7 : String := "SixWalls$Ways"
def zT7 : u_T := fun k => match k with
  | 0 => ("SixWalls$Ways", "comb", "LSixWalls$Comb;", true)
  | 1 => ("SixWalls$Ways", "company", "[I", true)
  | _ => ("SixWalls$Ways", "loss", "[I", true)
def zty7 : Nat → FieldType := fun k => match k with
  | 0 => .object "SixWalls$Comb"
  | 1 => .array .int
  | _ => .array .int
theorem znm7 : ∀ a, a < 3 → ∀ b, b < 3 → a ≠ b → (zT7 a).2.1 ≠ (zT7 b).2.1 := by decide +kernel
theorem zty7_ok : ∀ k, k < 3 → parseFieldDescriptor (zT7 k).2.2.1 = some (zty7 k) := by decide +kernel
theorem zin7 : ∀ w ∈ u_ws zR7 zT7 3, w ∈ lw_tbl := by decide +kernel
def zR8 : String := "SixWalls$Winter"
def zT8 : u_T := fun k => match k with
  | 0 => ("SixWalls$Winter", "comb", "LSixWalls$Comb;", true)
  | 1 => ("SixWalls$Winter", "text", "LSixWalls$LawText;", true)
  | 2 => ("SixWalls$Winter", "thought", "[I", true)
  | 3 => ("SixWalls$Winter", "hearth", "[I", true)
  | 4 => ("SixWalls$Winter", "went", "[I", true)
  | 5 => ("SixWalls$Winter", "gain", "[I", true)
  | 6 => ("SixWalls$Winter", "latest", "[I", true)
  | _ => ("SixWalls$Winter", "passed", "I", false)
def zty8 : Nat → FieldType := fun k => match k with
  | 0 => .object "SixWalls$Comb"
  | 1 => .object "SixWalls$LawText"
  | 2 => .array .int
  | 3 => .array .int
  | 4 => .array .int
  | 5 => .array .int
  | 6 => .array .int
  | _ => .int
theorem znm8 : ∀ a, a < 8 → ∀ b, b < 8 → a ≠ b → (zT8 a).2.1 ≠ (zT8 b).2.1 := by decide +kernel
theorem zty8_ok : ∀ k, k < 8 → parseFieldDescriptor (zT8 k).2.2.1 = some (zty8 k) := by decide +kernel
theorem zin8 : ∀ w ∈ u_ws zR8 zT8 8, w ∈ lw_tbl := by decide +kernel
def zR9 : String := "SixWalls"
def zT9 : u_T := fun k => match k with
  | 0 => ("SixWalls", "comb", "LSixWalls$Comb;", true)
  | 1 => ("SixWalls", "text", "LSixWalls$LawText;", true)
  | 2 => ("SixWalls", "winter", "LSixWalls$Winter;", true)
  | 3 => ("SixWalls", "masonry", "LSixWalls$Masonry;", true)
  | 4 => ("SixWalls", "ways", "LSixWalls$Ways;", true)
  | 5 => ("SixWalls", "families", "LSixWalls$Families;", true)
  | 6 => ("SixWalls", "history", "LSixWalls$History;", true)
  | 7 => ("SixWalls", "cells", "LSixWalls$Cells;", true)
  | _ => ("SixWalls", "shelves", "LSixWalls$Shelves;", true)
def zty9 : Nat → FieldType := fun k => match k with
  | 0 => .object "SixWalls$Comb"
  | 1 => .object "SixWalls$LawText"
  | 2 => .object "SixWalls$Winter"
  | 3 => .object "SixWalls$Masonry"
  | 4 => .object "SixWalls$Ways"
  | 5 => .object "SixWalls$Families"
  | 6 => .object "SixWalls$History"
  | 7 => .object "SixWalls$Cells"
  | _ => .object "SixWalls$Shelves"
theorem znm9 : ∀ a, a < 9 → ∀ b, b < 9 → a ≠ b → (zT9 a).2.1 ≠ (zT9 b).2.1 := by decide +kernel
theorem zty9_ok : ∀ k, k < 9 → parseFieldDescriptor (zT9 k).2.2.1 = some (zty9 k) := by decide +kernel
theorem zin9 : ∀ w ∈ u_ws zR9 zT9 9, w ∈ lw_tbl := by decide +kernel
def zR10 : String := "SixWallsModel"
def zT10 : u_T := fun k => match k with
  | 0 => ("SixWallsModel", "may", "[I", true)
  | 1 => ("SixWallsModel", "changeAt", "[I", true)
  | 2 => ("SixWallsModel", "changeWas", "[I", true)
  | 3 => ("SixWallsModel", "changeIs", "[I", true)
  | 4 => ("SixWallsModel", "keptMany", "I", false)
  | 5 => ("SixWallsModel", "done", "I", false)
  | 6 => ("SixWallsModel", "walls", "I", false)
  | 7 => ("SixWallsModel", "one", "[I", true)
  | 8 => ("SixWallsModel", "other", "[I", true)
  | 9 => ("SixWallsModel", "warmth", "[I", true)
  | 10 => ("SixWallsModel", "lives", "[Z", true)
  | 11 => ("SixWallsModel", "tape", "[I", true)
  | 12 => ("SixWallsModel", "tapeMany", "I", false)
  | 13 => ("SixWallsModel", "text", "[I", true)
  | 14 => ("SixWallsModel", "textMany", "I", false)
  | 15 => ("SixWallsModel", "base", "I", false)
  | 16 => ("SixWallsModel", "at", "I", false)
  | 17 => ("SixWallsModel", "ends", "I", false)
  | 18 => ("SixWallsModel", "fault", "I", false)
  | 19 => ("SixWallsModel", "opened1", "I", false)
  | 20 => ("SixWallsModel", "names", "[I", true)
  | 21 => ("SixWallsModel", "then", "[I", true)
  | 22 => ("SixWallsModel", "next", "[I", true)
  | 23 => ("SixWallsModel", "flows", "[I", true)
  | 24 => ("SixWallsModel", "gone", "[I", true)
  | 25 => ("SixWallsModel", "daysDone", "I", false)
  | 26 => ("SixWallsModel", "ledFlow", "[I", true)
  | 27 => ("SixWallsModel", "thick", "[I", true)
  | 28 => ("SixWallsModel", "far", "[I", true)
  | 29 => ("SixWallsModel", "openBest", "J", false)
  | 30 => ("SixWallsModel", "colour", "[I", true)
  | 31 => ("SixWallsModel", "isKept", "Z", false)
  | 32 => ("SixWallsModel", "imageWarmth", "[I", true)
  | 33 => ("SixWallsModel", "imageLives", "[Z", true)
  | 34 => ("SixWallsModel", "bodies", "I", false)
  | 35 => ("SixWallsModel", "bodyKind", "[I", true)
  | 36 => ("SixWallsModel", "trace", "[I", true)
  | 37 => ("SixWallsModel", "ran", "I", false)
  | 38 => ("SixWallsModel", "ownKind", "I", false)
  | 39 => ("SixWallsModel", "ownNumber", "I", false)
  | 40 => ("SixWallsModel", "shelf", "[I", true)
  | 41 => ("SixWallsModel", "many", "[I", true)
  | 42 => ("SixWallsModel", "items", "[J", true)
  | _ => ("SixWallsModel", "carried", "[J", true)
def zty10 : Nat → FieldType := fun k => match k with
  | 0 => .array .int
  | 1 => .array .int
  | 2 => .array .int
  | 3 => .array .int
  | 4 => .int
  | 5 => .int
  | 6 => .int
  | 7 => .array .int
  | 8 => .array .int
  | 9 => .array .int
  | 10 => .array .boolean
  | 11 => .array .int
  | 12 => .int
  | 13 => .array .int
  | 14 => .int
  | 15 => .int
  | 16 => .int
  | 17 => .int
  | 18 => .int
  | 19 => .int
  | 20 => .array .int
  | 21 => .array .int
  | 22 => .array .int
  | 23 => .array .int
  | 24 => .array .int
  | 25 => .int
  | 26 => .array .int
  | 27 => .array .int
  | 28 => .array .int
  | 29 => .long
  | 30 => .array .int
  | 31 => .boolean
  | 32 => .array .int
  | 33 => .array .boolean
  | 34 => .int
  | 35 => .array .int
  | 36 => .array .int
  | 37 => .int
  | 38 => .int
  | 39 => .int
  | 40 => .array .int
  | 41 => .array .int
  | 42 => .array .long
  | _ => .array .long
theorem znm10 : ∀ a, a < 44 → ∀ b, b < 44 → a ≠ b → (zT10 a).2.1 ≠ (zT10 b).2.1 := by decide +kernel
theorem zty10_ok : ∀ k, k < 44 → parseFieldDescriptor (zT10 k).2.2.1 = some (zty10 k) := by decide +kernel
theorem zin10 : ∀ w ∈ u_ws zR10 zT10 44, w ∈ lw_tbl := by decide +kernel
def zcl : List vw_C := [(zR0, zT0, 5), (zR1, zT1, 14), (zR2, zT2, 4), (zR3, zT3, 7), (zR4, zT4, 11), (zR5, zT5, 4), (zR6, zT6, 4), (zR7, zT7, 3), (zR8, zT8, 8), (zR9, zT9, 9), (zR10, zT10, 44)]
def zty : Nat → Nat → FieldType := fun c => match c with
  | 0 => zty0
  | 1 => zty1
  | 2 => zty2
  | 3 => zty3
  | 4 => zty4
  | 5 => zty5
  | 6 => zty6
  | 7 => zty7
  | 8 => zty8
  | 9 => zty9
  | _ => zty10
theorem zcl_ok : ∀ (ci : Nat) (q : vw_C), zcl[ci]? = some q → (∀ w ∈ u_ws q.1 q.2.1 q.2.2, w ∈ lw_tbl) ∧ (∀ k, k < q.2.2 → parseFieldDescriptor (q.2.1 k).2.2.1 = some (zty ci k)) ∧ (∀ a, a < q.2.2 → ∀ b, b < q.2.2 → a ≠ b → (q.2.1 a).2.1 ≠ (q.2.1 b).2.1) := by
  intro ci q h
  match ci, h with
  | 0, h => cases h; exact ⟨zin0, zty0_ok, znm0⟩
  | 1, h => cases h; exact ⟨zin1, zty1_ok, znm1⟩
  | 2, h => cases h; exact ⟨zin2, zty2_ok, znm2⟩
  | 3, h => cases h; exact ⟨zin3, zty3_ok, znm3⟩
  | 4, h => cases h; exact ⟨zin4, zty4_ok, znm4⟩
  | 5, h => cases h; exact ⟨zin5, zty5_ok, znm5⟩
  | 6, h => cases h; exact ⟨zin6, zty6_ok, znm6⟩
  | 7, h => cases h; exact ⟨zin7, zty7_ok, znm7⟩
  | 8, h => cases h; exact ⟨zin8, zty8_ok, znm8⟩
  | 9, h => cases h; exact ⟨zin9, zty9_ok, znm9⟩
  | 10, h => cases h; exact ⟨zin10, zty10_ok, znm10⟩
  | k + 11, h => simp [zcl] at h
theorem zgood : GoodIn lw_tbl (lw_tbl.filter goodWord) := by
  intro w hw
  obtain ⟨h1, h2⟩ := List.mem_filter.mp hw
  exact ⟨h1, good_of_word h2⟩
end
section
abbrev zM : Type := MethodName × ByteArray × Nat × Option FieldType
theorem zdec {l : List (Nat × Instr × Nat)} {c : ByteArray} (h : ∀ q ∈ l, decode c q.1 = .ok (q.2.1, q.2.2)) (i : Nat) {pc : Nat} {ins : Instr} {len : Nat} (hi : l[i]? = some (pc, ins, len)) : decode c pc = .ok (ins, len) := h (pc, ins, len) (List.mem_of_getElem? hi)
def mX0_init : zM := (⟨"SixWalls$Cells", "<init>", "()V"⟩, prog_2_method_1_code, 1, none)
def mX0_many : zM := (⟨"SixWalls$Cells", "many", "()I"⟩, prog_2_method_2_code, 1, some .int)
def mX0_ran : zM := (⟨"SixWalls$Cells", "ran", "()I"⟩, prog_2_method_3_code, 1, some .int)
def mX0_isKind : zM := (⟨"SixWalls$Cells", "isKind", "(I)Z"⟩, prog_2_method_4_code, 2, some .boolean)
def mX0_isBody : zM := (⟨"SixWalls$Cells", "isBody", "(I)Z"⟩, prog_2_method_5_code, 2, some .boolean)
def mX0_add : zM := (⟨"SixWalls$Cells", "add", "(I)I"⟩, prog_2_method_6_code, 2, some .int)
def mX0_kindOf : zM := (⟨"SixWalls$Cells", "kindOf", "(I)I"⟩, prog_2_method_7_code, 2, some .int)
def mX0_isUnder : zM := (⟨"SixWalls$Cells", "isUnder", "(II)Z"⟩, prog_2_method_8_code, 5, some .boolean)
def mX0_ranAt : zM := (⟨"SixWalls$Cells", "ranAt", "(I)I"⟩, prog_2_method_9_code, 2, some .int)
def mX0_run : zM := (⟨"SixWalls$Cells", "run", "(III)I"⟩, prog_2_method_10_code, 4, some .int)
def mX0_own : zM := (⟨"SixWalls$Cells", "own", "(III)I"⟩, prog_2_method_11_code, 4, some .int)
def mX0_from : zM := (⟨"SixWalls$Cells", "from", "(IIII)I"⟩, prog_2_method_12_code, 7, some .int)
def mX0_perform : zM := (⟨"SixWalls$Cells", "perform", "(IIII)I"⟩, prog_2_method_13_code, 5, some .int)
def mX1_init : zM := (⟨"SixWalls$Comb", "<init>", "()V"⟩, prog_3_method_1_code, 2, none)
def mX1_layWalls : zM := (⟨"SixWalls$Comb", "layWalls", "()V"⟩, prog_3_method_2_code, 4, none)
def mX1_addSide : zM := (⟨"SixWalls$Comb", "addSide", "(III)V"⟩, prog_3_method_3_code, 5, none)
def mX1_beside : zM := (⟨"SixWalls$Comb", "beside", "(II)Z"⟩, prog_3_method_4_code, 5, some .boolean)
def mX1_wallBetween : zM := (⟨"SixWalls$Comb", "wallBetween", "(II)I"⟩, prog_3_method_5_code, 4, some .int)
def mX1_atEdge : zM := (⟨"SixWalls$Comb", "atEdge", "(I)Z"⟩, prog_3_method_6_code, 2, some .boolean)
def mX1_load : zM := (⟨"SixWalls$Comb", "load", "(I[I)I"⟩, prog_3_method_7_code, 5, some .int)
def mX1_fits : zM := (⟨"SixWalls$Comb", "fits", "(III)Z"⟩, prog_3_method_8_code, 4, some .boolean)
def mX1_told : zM := (⟨"SixWalls$Comb", "told", "(II)I"⟩, prog_3_method_9_code, 3, some .int)
def mX1_tell : zM := (⟨"SixWalls$Comb", "tell", "(III)V"⟩, prog_3_method_10_code, 4, none)
def mX2_init : zM := (⟨"SixWalls$Families", "<init>", "(LSixWalls$Comb;)V"⟩, prog_4_method_1_code, 2, none)
def mX2_taker : zM := (⟨"SixWalls$Families", "taker", "(I)I"⟩, prog_4_method_2_code, 5, some .int)
def mX2_takeIn : zM := (⟨"SixWalls$Families", "takeIn", "(II)V"⟩, prog_4_method_3_code, 4, none)
def mX2_grow : zM := (⟨"SixWalls$Families", "grow", "(II)V"⟩, prog_4_method_4_code, 6, none)
def mX2_befall : zM := (⟨"SixWalls$Families", "befall", "(II)V"⟩, prog_4_method_5_code, 3, none)
def mX2_bear : zM := (⟨"SixWalls$Families", "bear", "(I)V"⟩, prog_4_method_6_code, 4, none)
def mX2_feud : zM := (⟨"SixWalls$Families", "feud", "(I)V"⟩, prog_4_method_7_code, 4, none)
def mX2_keepImage : zM := (⟨"SixWalls$Families", "keepImage", "()V"⟩, prog_4_method_8_code, 1, none)
def mX2_layBack : zM := (⟨"SixWalls$Families", "layBack", "()Z"⟩, prog_4_method_9_code, 1, some .boolean)
def mX3_init : zM := (⟨"SixWalls$History", "<init>", "(LSixWalls$Comb;)V"⟩, prog_5_method_1_code, 2, none)
def mX3_record : zM := (⟨"SixWalls$History", "record", "(IIII)V"⟩, prog_5_method_2_code, 5, none)
def mX3_dropOldest : zM := (⟨"SixWalls$History", "dropOldest", "([I)V"⟩, prog_5_method_3_code, 1, none)
def mX3_undoable : zM := (⟨"SixWalls$History", "undoable", "()I"⟩, prog_5_method_4_code, 1, some .int)
def mX3_takeBack : zM := (⟨"SixWalls$History", "takeBack", "()I"⟩, prog_5_method_5_code, 1, some .int)
def mX3_doAgain : zM := (⟨"SixWalls$History", "doAgain", "()I"⟩, prog_5_method_6_code, 1, some .int)
def mX4_init : zM := (⟨"SixWalls$LawText", "<init>", "()V"⟩, prog_6_method_1_code, 1, none)
def mX4_take : zM := (⟨"SixWalls$LawText", "take", "(I)Z"⟩, prog_6_method_2_code, 2, some .boolean)
def mX4_fed : zM := (⟨"SixWalls$LawText", "fed", "()I"⟩, prog_6_method_3_code, 1, some .int)
def mX4_isTold : zM := (⟨"SixWalls$LawText", "isTold", "()Z"⟩, prog_6_method_4_code, 1, some .boolean)
def mX4_read : zM := (⟨"SixWalls$LawText", "read", "()I"⟩, prog_6_method_5_code, 3, some .int)
def mX4_peek : zM := (⟨"SixWalls$LawText", "peek", "()I"⟩, prog_6_method_6_code, 1, some .int)
def mX4_emit : zM := (⟨"SixWalls$LawText", "emit", "(II)I"⟩, prog_6_method_7_code, 4, some .int)
def mX4_readLines : zM := (⟨"SixWalls$LawText", "readLines", "()V"⟩, prog_6_method_8_code, 2, none)
def mX4_readLine : zM := (⟨"SixWalls$LawText", "readLine", "()V"⟩, prog_6_method_9_code, 2, none)
def mX4_readLevel : zM := (⟨"SixWalls$LawText", "readLevel", "(II)V"⟩, prog_6_method_10_code, 6, none)
def mX4_levelOf : zM := (⟨"SixWalls$LawText", "levelOf", "(I)I"⟩, prog_6_method_11_code, 1, some .int)
def mX4_readOperand : zM := (⟨"SixWalls$LawText", "readOperand", "(I)V"⟩, prog_6_method_12_code, 3, none)
def mX4_isDigit : zM := (⟨"SixWalls$LawText", "isDigit", "(I)Z"⟩, prog_6_method_13_code, 1, some .boolean)
def mX4_isName : zM := (⟨"SixWalls$LawText", "isName", "(I)Z"⟩, prog_6_method_14_code, 1, some .boolean)
def mX4_readNumber : zM := (⟨"SixWalls$LawText", "readNumber", "()V"⟩, prog_6_method_15_code, 3, none)
def mX4_worth : zM := (⟨"SixWalls$LawText", "worth", "(IIIII)I"⟩, prog_6_method_16_code, 10, some .int)
def mX4_named : zM := (⟨"SixWalls$LawText", "named", "(IIIIII)I"⟩, prog_6_method_17_code, 6, some .int)
def mX4_truth : zM := (⟨"SixWalls$LawText", "truth", "(Z)I"⟩, prog_6_method_18_code, 1, some .int)
def mX4_joined : zM := (⟨"SixWalls$LawText", "joined", "(III)I"⟩, prog_6_method_19_code, 3, some .int)
def mX5_init : zM := (⟨"SixWalls$Masonry", "<init>", "(LSixWalls$Comb;)V"⟩, prog_7_method_1_code, 2, none)
def mX5_agreed : zM := (⟨"SixWalls$Masonry", "agreed", "(II)I"⟩, prog_7_method_2_code, 5, some .int)
def mX5_settle : zM := (⟨"SixWalls$Masonry", "settle", "()I"⟩, prog_7_method_3_code, 2, some .int)
def mX5_thickThen : zM := (⟨"SixWalls$Masonry", "thickThen", "(I)I"⟩, prog_7_method_4_code, 2, some .int)
def mX5_goRound : zM := (⟨"SixWalls$Masonry", "goRound", "()Z"⟩, prog_7_method_5_code, 6, some .boolean)
def mX5_clashes : zM := (⟨"SixWalls$Masonry", "clashes", "()I"⟩, prog_7_method_6_code, 1, some .int)
def mX5_clashesOf : zM := (⟨"SixWalls$Masonry", "clashesOf", "([I)I"⟩, prog_7_method_7_code, 4, some .int)
def mX5_alike : zM := (⟨"SixWalls$Masonry", "alike", "(II[I)I"⟩, prog_7_method_8_code, 4, some .int)
def mX5_alikeIn : zM := (⟨"SixWalls$Masonry", "alikeIn", "(III[I)I"⟩, prog_7_method_9_code, 8, some .int)
def mX5_calmest : zM := (⟨"SixWalls$Masonry", "calmest", "(I[I)I"⟩, prog_7_method_10_code, 5, some .int)
def mX5_calmed : zM := (⟨"SixWalls$Masonry", "calmed", "()I"⟩, prog_7_method_11_code, 2, some .int)
def mX5_pots : zM := (⟨"SixWalls$Masonry", "pots", "()I"⟩, prog_7_method_12_code, 3, some .int)
def mX6_init : zM := (⟨"SixWalls$Shelves", "<init>", "()V"⟩, prog_8_method_1_code, 2, none)
def mX6_isShelf : zM := (⟨"SixWalls$Shelves", "isShelf", "(I)Z"⟩, prog_8_method_2_code, 2, some .boolean)
def mX6_isSort : zM := (⟨"SixWalls$Shelves", "isSort", "(I)Z"⟩, prog_8_method_3_code, 2, some .boolean)
def mX6_isBare : zM := (⟨"SixWalls$Shelves", "isBare", "(I)Z"⟩, prog_8_method_4_code, 2, some .boolean)
def mX6_mayBeBytes : zM := (⟨"SixWalls$Shelves", "mayBeBytes", "(I)Z"⟩, prog_8_method_5_code, 2, some .boolean)
def mX6_cellOn : zM := (⟨"SixWalls$Shelves", "cellOn", "(I)I"⟩, prog_8_method_6_code, 2, some .int)
def mX6_hold : zM := (⟨"SixWalls$Shelves", "hold", "(II)V"⟩, prog_8_method_7_code, 3, none)
def mX6_lay : zM := (⟨"SixWalls$Shelves", "lay", "(III)V"⟩, prog_8_method_8_code, 5, none)
def mX6_hasPlace : zM := (⟨"SixWalls$Shelves", "hasPlace", "(II)Z"⟩, prog_8_method_9_code, 3, some .boolean)
def mX6_hasStretch : zM := (⟨"SixWalls$Shelves", "hasStretch", "(III)Z"⟩, prog_8_method_10_code, 4, some .boolean)
def mX6_refusalOfRow : zM := (⟨"SixWalls$Shelves", "refusalOfRow", "(I)I"⟩, prog_8_method_11_code, 2, some .int)
def mX6_refusal : zM := (⟨"SixWalls$Shelves", "refusal", "(II)I"⟩, prog_8_method_12_code, 4, some .int)
def mX6_refusalOfTwo : zM := (⟨"SixWalls$Shelves", "refusalOfTwo", "(II)I"⟩, prog_8_method_13_code, 5, some .int)
def mX6_at : zM := (⟨"SixWalls$Shelves", "at", "(II)J"⟩, prog_8_method_14_code, 3, some .long)
def mX6_set : zM := (⟨"SixWalls$Shelves", "set", "(IIJ)V"⟩, prog_8_method_15_code, 5, none)
def mX6_move : zM := (⟨"SixWalls$Shelves", "move", "(IIIII)V"⟩, prog_8_method_16_code, 6, none)
def mX6_narrowed : zM := (⟨"SixWalls$Shelves", "narrowed", "(IJ)J"⟩, prog_8_method_17_code, 3, some .long)
def mX7_init : zM := (⟨"SixWalls$Ways", "<init>", "(LSixWalls$Comb;)V"⟩, prog_9_method_1_code, 2, none)
def mX7_steps : zM := (⟨"SixWalls$Ways", "steps", "(II)I"⟩, prog_9_method_2_code, 5, some .int)
def mX7_besides : zM := (⟨"SixWalls$Ways", "besides", "(I)I"⟩, prog_9_method_3_code, 4, some .int)
def mX7_gather : zM := (⟨"SixWalls$Ways", "gather", "()V"⟩, prog_9_method_4_code, 2, none)
def mX7_join : zM := (⟨"SixWalls$Ways", "join", "(II)V"⟩, prog_9_method_5_code, 4, none)
def mX7_shutIn : zM := (⟨"SixWalls$Ways", "shutIn", "()I"⟩, prog_9_method_6_code, 3, some .int)
def mX7_friends : zM := (⟨"SixWalls$Ways", "friends", "()I"⟩, prog_9_method_7_code, 3, some .int)
def mX7_fewestMore : zM := (⟨"SixWalls$Ways", "fewestMore", "()J"⟩, prog_9_method_8_code, 7, some .long)
def mX7_listen : zM := (⟨"SixWalls$Ways", "listen", "(I)V"⟩, prog_9_method_9_code, 6, none)
def mX7_pass : zM := (⟨"SixWalls$Ways", "pass", "(III)Z"⟩, prog_9_method_10_code, 4, some .boolean)
def mX7_loudness : zM := (⟨"SixWalls$Ways", "loudness", "(III)I"⟩, prog_9_method_11_code, 4, some .int)
def mX7_sources : zM := (⟨"SixWalls$Ways", "sources", "(II)I"⟩, prog_9_method_12_code, 5, some .int)
def mX7_hearers : zM := (⟨"SixWalls$Ways", "hearers", "(II)I"⟩, prog_9_method_13_code, 5, some .int)
def mX8_init : zM := (⟨"SixWalls$Winter", "<init>", "(LSixWalls$Comb;LSixWalls$LawText;)V"⟩, prog_10_method_1_code, 3, none)
def mX8_flow : zM := (⟨"SixWalls$Winter", "flow", "(I[I)I"⟩, prog_10_method_2_code, 7, some .int)
def mX8_lawful : zM := (⟨"SixWalls$Winter", "lawful", "(IIII)I"⟩, prog_10_method_3_code, 7, some .int)
def mX8_begin : zM := (⟨"SixWalls$Winter", "begin", "()V"⟩, prog_10_method_4_code, 1, none)
def mX8_pass : zM := (⟨"SixWalls$Winter", "pass", "()Z"⟩, prog_10_method_5_code, 4, some .boolean)
def mX8_passAll : zM := (⟨"SixWalls$Winter", "passAll", "(I)V"⟩, prog_10_method_6_code, 4, none)
def mX8_think : zM := (⟨"SixWalls$Winter", "think", "(I)V"⟩, prog_10_method_7_code, 2, none)
def mX8_daysTillStill : zM := (⟨"SixWalls$Winter", "daysTillStill", "()I"⟩, prog_10_method_8_code, 2, some .int)
def mX8_goneThrough : zM := (⟨"SixWalls$Winter", "goneThrough", "(II)I"⟩, prog_10_method_9_code, 5, some .int)
def mX8_fireFor : zM := (⟨"SixWalls$Winter", "fireFor", "(III)I"⟩, prog_10_method_10_code, 5, some .int)
def mX8_live : zM := (⟨"SixWalls$Winter", "live", "(I)V"⟩, prog_10_method_11_code, 2, none)
def mX9_init : zM := (⟨"SixWalls", "<init>", "()V"⟩, prog_1_method_1_code, 1, none)
def mX9_within : zM := (⟨"SixWalls", "within", "(III)Z"⟩, prog_1_method_2_code, 3, some .boolean)
def mX9_isHouse : zM := (⟨"SixWalls", "isHouse", "(I)Z"⟩, prog_1_method_3_code, 1, some .boolean)
def mX9_isWall : zM := (⟨"SixWalls", "isWall", "(I)Z"⟩, prog_1_method_4_code, 1, some .boolean)
def mX9_isThought : zM := (⟨"SixWalls", "isThought", "(I)Z"⟩, prog_1_method_5_code, 1, some .boolean)
def mX9_isPair : zM := (⟨"SixWalls", "isPair", "(I)Z"⟩, prog_1_method_6_code, 1, some .boolean)
def mX9_sum : zM := (⟨"SixWalls", "sum", "([I)I"⟩, prog_1_method_7_code, 6, some .int)
def mX9_wall : zM := (⟨"SixWalls", "wall", "(I)I"⟩, prog_1_method_8_code, 3, some .int)
def mX9_mend : zM := (⟨"SixWalls", "mend", "(III)I"⟩, prog_1_method_9_code, 5, some .int)
def mX9_of : zM := (⟨"SixWalls", "of", "(II)I"⟩, prog_1_method_10_code, 3, some .int)
def mX9_ofHouse : zM := (⟨"SixWalls", "ofHouse", "(II)I"⟩, prog_1_method_11_code, 3, some .int)
def mX9_ofWall : zM := (⟨"SixWalls", "ofWall", "(II)I"⟩, prog_1_method_12_code, 3, some .int)
def mX9_fires : zM := (⟨"SixWalls", "fires", "(III)I"⟩, prog_1_method_13_code, 10, some .int)
def mX9_feed : zM := (⟨"SixWalls", "feed", "(I)I"⟩, prog_1_method_14_code, 2, some .int)
def mX9_law : zM := (⟨"SixWalls", "law", "()I"⟩, prog_1_method_15_code, 2, some .int)
def mX9_warmth : zM := (⟨"SixWalls", "warmth", "(II)I"⟩, prog_1_method_16_code, 3, some .int)
def mX9_cold : zM := (⟨"SixWalls", "cold", "(II)I"⟩, prog_1_method_17_code, 5, some .int)
def mX9_still : zM := (⟨"SixWalls", "still", "()I"⟩, prog_1_method_18_code, 1, some .int)
def mX9_gave : zM := (⟨"SixWalls", "gave", "(II)I"⟩, prog_1_method_19_code, 3, some .int)
def mX9_leastFire : zM := (⟨"SixWalls", "leastFire", "(II)I"⟩, prog_1_method_20_code, 3, some .int)
def mX9_days : zM := (⟨"SixWalls", "days", "(I)I"⟩, prog_1_method_21_code, 2, some .int)
def mX9_led : zM := (⟨"SixWalls", "led", "(I)I"⟩, prog_1_method_22_code, 2, some .int)
def mX9_rounds : zM := (⟨"SixWalls", "rounds", "(I)I"⟩, prog_1_method_23_code, 3, some .int)
def mX9_way : zM := (⟨"SixWalls", "way", "(I)I"⟩, prog_1_method_24_code, 2, some .int)
def mX9_doors : zM := (⟨"SixWalls", "doors", "(I)I"⟩, prog_1_method_25_code, 2, some .int)
def mX9_opened : zM := (⟨"SixWalls", "opened", "(I)J"⟩, prog_1_method_26_code, 4, some .long)
def mX9_heard : zM := (⟨"SixWalls", "heard", "(II)I"⟩, prog_1_method_27_code, 3, some .int)
def mX9_whose : zM := (⟨"SixWalls", "whose", "(II)I"⟩, prog_1_method_28_code, 3, some .int)
def mX9_colours : zM := (⟨"SixWalls", "colours", "(I)I"⟩, prog_1_method_29_code, 2, some .int)
def mX9_paint : zM := (⟨"SixWalls", "paint", "(I)I"⟩, prog_1_method_30_code, 2, some .int)
def mX9_empty : zM := (⟨"SixWalls", "empty", "(I)I"⟩, prog_1_method_31_code, 2, some .int)
def mX9_takes : zM := (⟨"SixWalls", "takes", "(II)I"⟩, prog_1_method_32_code, 4, some .int)
def mX9_where : zM := (⟨"SixWalls", "where", "(I)I"⟩, prog_1_method_33_code, 4, some .int)
def mX9_years : zM := (⟨"SixWalls", "years", "(II)I"⟩, prog_1_method_34_code, 3, some .int)
def mX9_image : zM := (⟨"SixWalls", "image", "()I"⟩, prog_1_method_35_code, 1, some .int)
def mX9_back : zM := (⟨"SixWalls", "back", "()I"⟩, prog_1_method_36_code, 1, some .int)
def mX9_undo : zM := (⟨"SixWalls", "undo", "()I"⟩, prog_1_method_37_code, 1, some .int)
def mX9_redo : zM := (⟨"SixWalls", "redo", "()I"⟩, prog_1_method_38_code, 1, some .int)
def mX9_body : zM := (⟨"SixWalls", "body", "(I)I"⟩, prog_1_method_39_code, 2, some .int)
def mX9_act : zM := (⟨"SixWalls", "act", "(III)I"⟩, prog_1_method_40_code, 4, some .int)
def mX9_trace : zM := (⟨"SixWalls", "trace", "(I)I"⟩, prog_1_method_41_code, 2, some .int)
def mX9_keep : zM := (⟨"SixWalls", "keep", "(II)I"⟩, prog_1_method_42_code, 3, some .int)
def mX9_row : zM := (⟨"SixWalls", "row", "(III)I"⟩, prog_1_method_43_code, 4, some .int)
def mX9_put : zM := (⟨"SixWalls", "put", "(IIJ)I"⟩, prog_1_method_44_code, 6, some .int)
def mX9_element : zM := (⟨"SixWalls", "element", "(II)J"⟩, prog_1_method_45_code, 3, some .long)
def mX9_shift : zM := (⟨"SixWalls", "shift", "(IIIII)I"⟩, prog_1_method_46_code, 7, some .int)
def mX9_taken : zM := (⟨"SixWalls", "taken", "(II)I"⟩, prog_1_method_47_code, 4, some .int)
def mX9_count : zM := (⟨"SixWalls", "count", "(I)I"⟩, prog_1_method_48_code, 2, some .int)
def mX10_within : zM := (⟨"SixWallsModel", "within", "(JJJ)Z"⟩, prog_12_method_1_code, 6, some .boolean)
def mX10_isIn : zM := (⟨"SixWallsModel", "isIn", "(JI)Z"⟩, prog_12_method_2_code, 3, some .boolean)
def mX10_init : zM := (⟨"SixWallsModel", "<init>", "()V"⟩, prog_12_method_3_code, 3, none)
def mX10_becomes : zM := (⟨"SixWallsModel", "becomes", "(II)I"⟩, prog_12_method_4_code, 5, some .int)
def mX10_undo : zM := (⟨"SixWallsModel", "undo", "()I"⟩, prog_12_method_5_code, 1, some .int)
def mX10_redo : zM := (⟨"SixWallsModel", "redo", "()I"⟩, prog_12_method_6_code, 1, some .int)
def mX10_isHouse : zM := (⟨"SixWallsModel", "isHouse", "(I)Z"⟩, prog_12_method_7_code, 1, some .boolean)
def mX10_isWall : zM := (⟨"SixWallsModel", "isWall", "(I)Z"⟩, prog_12_method_8_code, 1, some .boolean)
def mX10_areNeighbours : zM := (⟨"SixWallsModel", "areNeighbours", "(II)Z"⟩, prog_12_method_9_code, 5, some .boolean)
def mX10_wallOf : zM := (⟨"SixWallsModel", "wallOf", "(II)I"⟩, prog_12_method_10_code, 4, some .int)
def mX10_isAb : zM := (⟨"SixWallsModel", "isAb", "(I)Z"⟩, prog_12_method_11_code, 1, some .boolean)
def mX10_wall : zM := (⟨"SixWallsModel", "wall", "(I)I"⟩, prog_12_method_12_code, 2, some .int)
def mX10_mend : zM := (⟨"SixWallsModel", "mend", "(III)I"⟩, prog_12_method_13_code, 4, some .int)
def mX10_neighboursOf : zM := (⟨"SixWallsModel", "neighboursOf", "(I)I"⟩, prog_12_method_14_code, 4, some .int)
def mX10_agreedOf : zM := (⟨"SixWallsModel", "agreedOf", "(I)I"⟩, prog_12_method_15_code, 6, some .int)
def mX10_ofHouse : zM := (⟨"SixWallsModel", "ofHouse", "(II)I"⟩, prog_12_method_16_code, 3, some .int)
def mX10_ofWall : zM := (⟨"SixWallsModel", "ofWall", "(II)I"⟩, prog_12_method_17_code, 3, some .int)
def mX10_of : zM := (⟨"SixWallsModel", "of", "(II)I"⟩, prog_12_method_18_code, 3, some .int)
def mX10_fires : zM := (⟨"SixWallsModel", "fires", "(III)I"⟩, prog_12_method_19_code, 6, some .int)
def mX10_feed : zM := (⟨"SixWallsModel", "feed", "(I)I"⟩, prog_12_method_20_code, 2, some .int)
def mX10_byteAt : zM := (⟨"SixWallsModel", "byteAt", "()I"⟩, prog_12_method_21_code, 1, some .int)
def mX10_wrong : zM := (⟨"SixWallsModel", "wrong", "()I"⟩, prog_12_method_22_code, 1, some .int)
def mX10_takesByte : zM := (⟨"SixWallsModel", "takesByte", "(I)Z"⟩, prog_12_method_23_code, 2, some .boolean)
def mX10_either : zM := (⟨"SixWallsModel", "either", "()I"⟩, prog_12_method_24_code, 3, some .int)
def mX10_both : zM := (⟨"SixWallsModel", "both", "()I"⟩, prog_12_method_25_code, 3, some .int)
def mX10_compared : zM := (⟨"SixWallsModel", "compared", "()I"⟩, prog_12_method_26_code, 4, some .int)
def mX10_sums : zM := (⟨"SixWallsModel", "sums", "()I"⟩, prog_12_method_27_code, 4, some .int)
def mX10_product : zM := (⟨"SixWallsModel", "product", "()I"⟩, prog_12_method_28_code, 4, some .int)
def mX10_nameOf : zM := (⟨"SixWallsModel", "nameOf", "(I)I"⟩, prog_12_method_29_code, 1, some .int)
def mX10_oneOf : zM := (⟨"SixWallsModel", "oneOf", "()I"⟩, prog_12_method_30_code, 5, some .int)
def mX10_workOut : zM := (⟨"SixWallsModel", "workOut", "(II)I"⟩, prog_12_method_31_code, 8, some .int)
def mX10_law : zM := (⟨"SixWallsModel", "law", "()I"⟩, prog_12_method_32_code, 4, some .int)
def mX10_begins1 : zM := (⟨"SixWallsModel", "begins1", "()V"⟩, prog_12_method_33_code, 2, none)
def mX10_throughOf : zM := (⟨"SixWallsModel", "throughOf", "(III)I"⟩, prog_12_method_34_code, 7, some .int)
def mX10_flowOf : zM := (⟨"SixWallsModel", "flowOf", "(I)I"⟩, prog_12_method_35_code, 4, some .int)
def mX10_dayGoes : zM := (⟨"SixWallsModel", "dayGoes", "()Z"⟩, prog_12_method_36_code, 4, some .boolean)
def mX10_winter : zM := (⟨"SixWallsModel", "winter", "(I)V"⟩, prog_12_method_37_code, 3, none)
def mX10_allThen : zM := (⟨"SixWallsModel", "allThen", "()I"⟩, prog_12_method_38_code, 3, some .int)
def mX10_warmth : zM := (⟨"SixWallsModel", "warmth", "(II)I"⟩, prog_12_method_39_code, 3, some .int)
def mX10_cold : zM := (⟨"SixWallsModel", "cold", "(II)I"⟩, prog_12_method_40_code, 5, some .int)
def mX10_still : zM := (⟨"SixWallsModel", "still", "()I"⟩, prog_12_method_41_code, 2, some .int)
def mX10_gave : zM := (⟨"SixWallsModel", "gave", "(II)I"⟩, prog_12_method_42_code, 3, some .int)
def mX10_leastFire : zM := (⟨"SixWallsModel", "leastFire", "(II)I"⟩, prog_12_method_43_code, 6, some .int)
def mX10_days : zM := (⟨"SixWallsModel", "days", "(I)I"⟩, prog_12_method_44_code, 3, some .int)
def mX10_led : zM := (⟨"SixWallsModel", "led", "(I)I"⟩, prog_12_method_45_code, 2, some .int)
def mX10_asksThick : zM := (⟨"SixWallsModel", "asksThick", "()V"⟩, prog_12_method_46_code, 2, none)
def mX10_borne : zM := (⟨"SixWallsModel", "borne", "(I)I"⟩, prog_12_method_47_code, 4, some .int)
def mX10_roundGoes : zM := (⟨"SixWallsModel", "roundGoes", "()Z"⟩, prog_12_method_48_code, 4, some .boolean)
def mX10_rounds : zM := (⟨"SixWallsModel", "rounds", "(I)I"⟩, prog_12_method_49_code, 3, some .int)
def mX10_measures : zM := (⟨"SixWallsModel", "measures", "(IZ)V"⟩, prog_12_method_50_code, 7, none)
def mX10_comesTo : zM := (⟨"SixWallsModel", "comesTo", "(II)Z"⟩, prog_12_method_51_code, 4, some .boolean)
def mX10_way : zM := (⟨"SixWallsModel", "way", "(I)I"⟩, prog_12_method_52_code, 3, some .int)
def mX10_outWith : zM := (⟨"SixWallsModel", "outWith", "(J)I"⟩, prog_12_method_53_code, 8, some .int)
def mX10_livedIn : zM := (⟨"SixWallsModel", "livedIn", "()I"⟩, prog_12_method_54_code, 3, some .int)
def mX10_bitsOf : zM := (⟨"SixWallsModel", "bitsOf", "(J)I"⟩, prog_12_method_55_code, 5, some .int)
def mX10_doors : zM := (⟨"SixWallsModel", "doors", "(I)I"⟩, prog_12_method_56_code, 4, some .int)
def mX10_opens : zM := (⟨"SixWallsModel", "opens", "(IIJ)V"⟩, prog_12_method_57_code, 6, none)
def mX10_opened : zM := (⟨"SixWallsModel", "opened", "(I)J"⟩, prog_12_method_58_code, 3, some .long)
def mX10_heard : zM := (⟨"SixWallsModel", "heard", "(II)I"⟩, prog_12_method_59_code, 4, some .int)
def mX10_whose : zM := (⟨"SixWallsModel", "whose", "(II)I"⟩, prog_12_method_60_code, 7, some .int)
def mX10_asksColours : zM := (⟨"SixWallsModel", "asksColours", "()V"⟩, prog_12_method_61_code, 2, none)
def mX10_clashes : zM := (⟨"SixWallsModel", "clashes", "()I"⟩, prog_12_method_62_code, 5, some .int)
def mX10_bestColour : zM := (⟨"SixWallsModel", "bestColour", "(I)I"⟩, prog_12_method_63_code, 7, some .int)
def mX10_paint : zM := (⟨"SixWallsModel", "paint", "(I)I"⟩, prog_12_method_64_code, 2, some .int)
def mX10_colours : zM := (⟨"SixWallsModel", "colours", "(I)I"⟩, prog_12_method_65_code, 4, some .int)
def mX10_empty : zM := (⟨"SixWallsModel", "empty", "(I)I"⟩, prog_12_method_66_code, 2, some .int)
def mX10_whoTakes : zM := (⟨"SixWallsModel", "whoTakes", "(I)I"⟩, prog_12_method_67_code, 5, some .int)
def mX10_takes : zM := (⟨"SixWallsModel", "takes", "(II)I"⟩, prog_12_method_68_code, 4, some .int)
def mX10_where : zM := (⟨"SixWallsModel", "where", "(I)I"⟩, prog_12_method_69_code, 4, some .int)
def mX10_isBorn : zM := (⟨"SixWallsModel", "isBorn", "(I)V"⟩, prog_12_method_70_code, 3, none)
def mX10_feuds : zM := (⟨"SixWallsModel", "feuds", "(I)V"⟩, prog_12_method_71_code, 3, none)
def mX10_years : zM := (⟨"SixWallsModel", "years", "(II)I"⟩, prog_12_method_72_code, 6, some .int)
def mX10_allWarmth : zM := (⟨"SixWallsModel", "allWarmth", "()I"⟩, prog_12_method_73_code, 3, some .int)
def mX10_image : zM := (⟨"SixWallsModel", "image", "()I"⟩, prog_12_method_74_code, 2, some .int)
def mX10_back : zM := (⟨"SixWallsModel", "back", "()I"⟩, prog_12_method_75_code, 2, some .int)
def mX10_doorMany : zM := (⟨"SixWallsModel", "doorMany", "()I"⟩, prog_12_method_76_code, 3, some .int)
def mX10_isBody : zM := (⟨"SixWallsModel", "isBody", "(I)Z"⟩, prog_12_method_77_code, 2, some .boolean)
def mX10_kindOf : zM := (⟨"SixWallsModel", "kindOf", "(I)I"⟩, prog_12_method_78_code, 2, some .int)
def mX10_body : zM := (⟨"SixWallsModel", "body", "(I)I"⟩, prog_12_method_79_code, 2, some .int)
def mX10_above : zM := (⟨"SixWallsModel", "above", "(I)I"⟩, prog_12_method_80_code, 1, some .int)
def mX10_begins : zM := (⟨"SixWallsModel", "begins", "(I)V"⟩, prog_12_method_81_code, 2, none)
def mX10_warmsAs : zM := (⟨"SixWallsModel", "warmsAs", "(II)I"⟩, prog_12_method_82_code, 3, some .int)
def mX10_wallsAs : zM := (⟨"SixWallsModel", "wallsAs", "(II)I"⟩, prog_12_method_83_code, 4, some .int)
def mX10_pipesAs : zM := (⟨"SixWallsModel", "pipesAs", "(II)I"⟩, prog_12_method_84_code, 4, some .int)
def mX10_tellsAs : zM := (⟨"SixWallsModel", "tellsAs", "(II)I"⟩, prog_12_method_85_code, 4, some .int)
def mX10_act : zM := (⟨"SixWallsModel", "act", "(III)I"⟩, prog_12_method_86_code, 4, some .int)
def mX10_trace : zM := (⟨"SixWallsModel", "trace", "(I)I"⟩, prog_12_method_87_code, 2, some .int)
def mX10_isShelf : zM := (⟨"SixWallsModel", "isShelf", "(I)Z"⟩, prog_12_method_88_code, 1, some .boolean)
def mX10_keep : zM := (⟨"SixWallsModel", "keep", "(II)I"⟩, prog_12_method_89_code, 3, some .int)
def mX10_row : zM := (⟨"SixWallsModel", "row", "(III)I"⟩, prog_12_method_90_code, 5, some .int)
def mX10_refusal : zM := (⟨"SixWallsModel", "refusal", "(II)I"⟩, prog_12_method_91_code, 3, some .int)
def mX10_asSort : zM := (⟨"SixWallsModel", "asSort", "(IJ)J"⟩, prog_12_method_92_code, 3, some .long)
def mX10_put : zM := (⟨"SixWallsModel", "put", "(IIJ)I"⟩, prog_12_method_93_code, 6, some .int)
def mX10_element : zM := (⟨"SixWallsModel", "element", "(II)J"⟩, prog_12_method_94_code, 3, some .long)
def mX10_shift : zM := (⟨"SixWallsModel", "shift", "(IIIII)I"⟩, prog_12_method_95_code, 7, some .int)
def mX10_taken : zM := (⟨"SixWallsModel", "taken", "(II)I"⟩, prog_12_method_96_code, 4, some .int)
def mX10_count : zM := (⟨"SixWallsModel", "count", "(I)I"⟩, prog_12_method_97_code, 2, some .int)
def mJ6_compare_7cf53 : zM := (⟨"java/lang/Integer", "compare", "(II)I"⟩, prog_13_method_40_code, 2, some .int)
def mJ6_bitCount_0f7a4 : zM := (⟨"java/lang/Integer", "bitCount", "(I)I"⟩, prog_13_method_49_code, 1, some .int)
def mJ13_bitCount_95d88 : zM := (⟨"java/lang/Long", "bitCount", "(J)I"⟩, prog_14_method_50_code, 2, some .int)
def mJ9_abs_0f7a4 : zM := (⟨"java/lang/Math", "abs", "(I)I"⟩, prog_15_method_59_code, 1, some .int)
def mJ9_max_7cf53 : zM := (⟨"java/lang/Math", "max", "(II)I"⟩, prog_15_method_65_code, 2, some .int)
def mJ9_min_7cf53 : zM := (⟨"java/lang/Math", "min", "(II)I"⟩, prog_15_method_69_code, 2, some .int)
end
section
/-! the instructions of each method, by program -/
def kX0_init : List (Nat × Instr × Nat) := [(0, .aload_n 0, 1), (1, .invokespecial 3, 3), (4, .aload_n 0, 1), (5, .bipush 50, 2), (7, .newarray .int, 2), (9, .putfield 11, 3), (12, .aload_n 0, 1), (13, .iconst 0, 1), (14, .putfield 15, 3), (17, .aload_n 0, 1), (18, .bipush 24, 2), (20, .newarray .int, 2), (22, .putfield 19, 3), (25, .aload_n 0, 1), (26, .iconst 0, 1), (27, .putfield 22, 3), (30, .aload_n 0, 1), (31, .iconst 0, 1), (32, .putfield 25, 3), (35, .return_, 1)]
set_option maxRecDepth 20000 in
theorem DX0_init : ∀ q ∈ kX0_init, decode mX0_init.2.1 q.1 = .ok (q.2.1, q.2.2) := by decide +kernel
def kX0_many : List (Nat × Instr × Nat) := [(0, .aload_n 0, 1), (1, .getfield 15, 3), (4, .ireturn, 1)]
set_option maxRecDepth 20000 in
theorem DX0_many : ∀ q ∈ kX0_many, decode mX0_many.2.1 q.1 = .ok (q.2.1, q.2.2) := by decide +kernel
def kX0_ran : List (Nat × Instr × Nat) := [(0, .aload_n 0, 1), (1, .getfield 22, 3), (4, .ireturn, 1)]
set_option maxRecDepth 20000 in
theorem DX0_ran : ∀ q ∈ kX0_ran, decode mX0_ran.2.1 q.1 = .ok (q.2.1, q.2.2) := by decide +kernel
def kX0_isKind : List (Nat × Instr × Nat) := [(0, .iload_n 1, 1), (1, .ifCond .lt 15, 3), (4, .iload_n 1, 1), (5, .getstatic 28, 3), (8, .arraylength, 1), (9, .if_icmp .ge 7, 3), (12, .iconst 1, 1), (13, .goto 4, 3), (16, .iconst 0, 1), (17, .ireturn, 1)]
set_option maxRecDepth 20000 in
theorem DX0_isKind : ∀ q ∈ kX0_isKind, decode mX0_isKind.2.1 q.1 = .ok (q.2.1, q.2.2) := by decide +kernel
def kX0_isBody : List (Nat × Instr × Nat) := [(0, .iload_n 1, 1), (1, .ifCond .lt 15, 3), (4, .iload_n 1, 1), (5, .aload_n 0, 1), (6, .getfield 15, 3), (9, .if_icmp .ge 7, 3), (12, .iconst 1, 1), (13, .goto 4, 3), (16, .iconst 0, 1), (17, .ireturn, 1)]
set_option maxRecDepth 20000 in
theorem DX0_isBody : ∀ q ∈ kX0_isBody, decode mX0_isBody.2.1 q.1 = .ok (q.2.1, q.2.2) := by decide +kernel
def kX0_add : List (Nat × Instr × Nat) := [(0, .aload_n 0, 1), (1, .getfield 15, 3), (4, .bipush 50, 2), (6, .if_icmp .lt 6, 3), (9, .bipush (-3), 2), (11, .ireturn, 1), (12, .aload_n 0, 1), (13, .getfield 11, 3), (16, .aload_n 0, 1), (17, .getfield 15, 3), (20, .iload_n 1, 1), (21, .iastore, 1), (22, .aload_n 0, 1), (23, .dup, 1), (24, .getfield 15, 3), (27, .iconst 1, 1), (28, .iadd, 1), (29, .putfield 15, 3), (32, .aload_n 0, 1), (33, .getfield 15, 3), (36, .iconst 1, 1), (37, .isub, 1), (38, .ireturn, 1)]
set_option maxRecDepth 20000 in
theorem DX0_add : ∀ q ∈ kX0_add, decode mX0_add.2.1 q.1 = .ok (q.2.1, q.2.2) := by decide +kernel
def kX0_kindOf : List (Nat × Instr × Nat) := [(0, .aload_n 0, 1), (1, .iload_n 1, 1), (2, .invokevirtual 31, 3), (5, .ifCond .eq 12, 3), (8, .aload_n 0, 1), (9, .getfield 11, 3), (12, .iload_n 1, 1), (13, .iaload, 1), (14, .goto 4, 3), (17, .iconst (-1), 1), (18, .ireturn, 1)]
set_option maxRecDepth 20000 in
theorem DX0_kindOf : ∀ q ∈ kX0_kindOf, decode mX0_kindOf.2.1 q.1 = .ok (q.2.1, q.2.2) := by decide +kernel
def kX0_isUnder : List (Nat × Instr × Nat) := [(0, .aload_n 0, 1), (1, .iload_n 1, 1), (2, .invokevirtual 35, 3), (5, .istore_n 3, 1), (6, .iconst 0, 1), (7, .istore 4, 2), (9, .iload 4, 2), (11, .getstatic 28, 3), (14, .arraylength, 1), (15, .if_icmp .ge 26, 3), (18, .iload_n 3, 1), (19, .ifCond .lt 22, 3), (22, .iload_n 3, 1), (23, .iload_n 2, 1), (24, .if_icmp .ne 5, 3), (27, .iconst 1, 1), (28, .ireturn, 1), (29, .getstatic 28, 3), (32, .iload_n 3, 1), (33, .iaload, 1), (34, .istore_n 3, 1), (35, .iinc 4 1, 3), (38, .goto (-29), 3), (41, .iconst 0, 1), (42, .ireturn, 1)]
set_option maxRecDepth 20000 in
theorem DX0_isUnder : ∀ q ∈ kX0_isUnder, decode mX0_isUnder.2.1 q.1 = .ok (q.2.1, q.2.2) := by decide +kernel
def kX0_ranAt : List (Nat × Instr × Nat) := [(0, .iload_n 1, 1), (1, .ifCond .lt 25, 3), (4, .iload_n 1, 1), (5, .aload_n 0, 1), (6, .getfield 22, 3), (9, .bipush 24, 2), (11, .invokestatic 39, 3), (14, .if_icmp .ge 12, 3), (17, .aload_n 0, 1), (18, .getfield 19, 3), (21, .iload_n 1, 1), (22, .iaload, 1), (23, .goto 4, 3), (26, .iconst (-1), 1), (27, .ireturn, 1)]
set_option maxRecDepth 20000 in
theorem DX0_ranAt : ∀ q ∈ kX0_ranAt, decode mX0_ranAt.2.1 q.1 = .ok (q.2.1, q.2.2) := by decide +kernel
def kX0_run : List (Nat × Instr × Nat) := [(0, .aload_n 0, 1), (1, .iconst 0, 1), (2, .putfield 22, 3), (5, .aload_n 0, 1), (6, .iload_n 1, 1), (7, .invokevirtual 31, 3), (10, .ifCond .eq 12, 3), (13, .iload_n 2, 1), (14, .ifCond .lt 8, 3), (17, .iload_n 2, 1), (18, .iconst 4, 1), (19, .if_icmp .lt 5, 3), (22, .iconst 0, 1), (23, .ireturn, 1), (24, .aload_n 0, 1), (25, .iload_n 1, 1), (26, .putfield 25, 3), (29, .aload_n 0, 1), (30, .aload_n 0, 1), (31, .getfield 11, 3), (34, .iload_n 1, 1), (35, .iaload, 1), (36, .iload_n 2, 1), (37, .iload_n 3, 1), (38, .iconst 0, 1), (39, .invokevirtual 45, 3), (42, .ireturn, 1)]
set_option maxRecDepth 20000 in
theorem DX0_run : ∀ q ∈ kX0_run, decode mX0_run.2.1 q.1 = .ok (q.2.1, q.2.2) := by decide +kernel
def kX0_own : List (Nat × Instr × Nat) := [(0, .aload_n 0, 1), (1, .aload_n 0, 1), (2, .getfield 11, 3), (5, .aload_n 0, 1), (6, .getfield 25, 3), (9, .iaload, 1), (10, .iload_n 1, 1), (11, .iload_n 2, 1), (12, .iload_n 3, 1), (13, .invokevirtual 45, 3), (16, .ireturn, 1)]
set_option maxRecDepth 20000 in
theorem DX0_own : ∀ q ∈ kX0_own, decode mX0_own.2.1 q.1 = .ok (q.2.1, q.2.2) := by decide +kernel
def kX0_from : List (Nat × Instr × Nat) := [(0, .iload_n 1, 1), (1, .istore 5, 2), (3, .iconst 0, 1), (4, .istore 6, 2), (6, .iload 6, 2), (8, .getstatic 28, 3), (11, .arraylength, 1), (12, .if_icmp .ge 35, 3), (15, .iload 5, 2), (17, .ifCond .lt 30, 3), (20, .getstatic 49, 3), (23, .iload 5, 2), (25, .iconst 4, 1), (26, .imul, 1), (27, .iload_n 2, 1), (28, .iadd, 1), (29, .iaload, 1), (30, .ifCond .ne 17, 3), (33, .getstatic 28, 3), (36, .iload 5, 2), (38, .iaload, 1), (39, .istore 5, 2), (41, .iinc 6 1, 3), (44, .goto (-38), 3), (47, .iload 5, 2), (49, .ifCond .lt 10, 3), (52, .iload 4, 2), (54, .bipush 40, 2), (56, .if_icmp .lt 5, 3), (59, .iconst 0, 1), (60, .ireturn, 1), (61, .getstatic 49, 3), (64, .iload 5, 2), (66, .iconst 4, 1), (67, .imul, 1), (68, .iload_n 2, 1), (69, .iadd, 1), (70, .iaload, 1), (71, .istore 6, 2), (73, .aload_n 0, 1), (74, .getfield 22, 3), (77, .bipush 24, 2), (79, .if_icmp .ge 14, 3), (82, .aload_n 0, 1), (83, .getfield 19, 3), (86, .aload_n 0, 1), (87, .getfield 22, 3), (90, .iload 6, 2), (92, .iastore, 1), (93, .aload_n 0, 1), (94, .dup, 1), (95, .getfield 22, 3), (98, .iconst 1, 1), (99, .iadd, 1), (100, .putfield 22, 3), (103, .aload_n 0, 1), (104, .iload 6, 2), (106, .getstatic 28, 3), (109, .iload 5, 2), (111, .iaload, 1), (112, .iload_n 3, 1), (113, .iload 4, 2), (115, .iconst 1, 1), (116, .iadd, 1), (117, .invokevirtual 52, 3), (120, .ireturn, 1)]
set_option maxRecDepth 20000 in
theorem DX0_from : ∀ q ∈ kX0_from, decode mX0_from.2.1 q.1 = .ok (q.2.1, q.2.2) := by decide +kernel
def kX0_perform : List (Nat × Instr × Nat) := [(0, .iload_n 1, 1), (1, .lookupswitch 279 #[(1, 115), (2, 122), (10, 140), (11, 151), (20, 158), (30, 170), (40, 181), (41, 193), (50, 205), (60, 224), (70, 236), (80, 248), (81, 267)], 115), (116, .iload_n 3, 1), (117, .aload_n 0, 1), (118, .getfield 25, 3), (121, .iadd, 1), (122, .ireturn, 1), (123, .aload_n 0, 1), (124, .iconst 1, 1), (125, .iload_n 3, 1), (126, .iload 4, 2), (128, .invokevirtual 55, 3), (131, .aload_n 0, 1), (132, .iconst 2, 1), (133, .iconst 1, 1), (134, .iload 4, 2), (136, .invokevirtual 55, 3), (139, .isub, 1), (140, .ireturn, 1), (141, .aload_n 0, 1), (142, .iconst 0, 1), (143, .iload_n 3, 1), (144, .iload 4, 2), (146, .invokevirtual 55, 3), (149, .iconst 2, 1), (150, .imul, 1), (151, .ireturn, 1), (152, .iload_n 3, 1), (153, .aload_n 0, 1), (154, .getfield 25, 3), (157, .ixor, 1), (158, .ireturn, 1), (159, .aload_n 0, 1), (160, .iload_n 2, 1), (161, .iconst 0, 1), (162, .iload_n 3, 1), (163, .iload 4, 2), (165, .invokevirtual 45, 3), (168, .iconst 3, 1), (169, .iadd, 1), (170, .ireturn, 1), (171, .aload_n 0, 1), (172, .iload_n 2, 1), (173, .iconst 1, 1), (174, .iload_n 3, 1), (175, .iload 4, 2), (177, .invokevirtual 45, 3), (180, .ineg, 1), (181, .ireturn, 1), (182, .aload_n 0, 1), (183, .iload_n 2, 1), (184, .iconst 2, 1), (185, .iload_n 3, 1), (186, .iload 4, 2), (188, .invokevirtual 45, 3), (191, .iconst 3, 1), (192, .imul, 1), (193, .ireturn, 1), (194, .aload_n 0, 1), (195, .iload_n 2, 1), (196, .iconst 1, 1), (197, .iload_n 3, 1), (198, .iconst 1, 1), (199, .iadd, 1), (200, .iload 4, 2), (202, .invokevirtual 45, 3), (205, .ireturn, 1), (206, .aload_n 0, 1), (207, .iload_n 2, 1), (208, .iconst 2, 1), (209, .iload_n 3, 1), (210, .iload 4, 2), (212, .invokevirtual 45, 3), (215, .aload_n 0, 1), (216, .iconst 0, 1), (217, .iconst 2, 1), (218, .iload 4, 2), (220, .invokevirtual 55, 3), (223, .isub, 1), (224, .ireturn, 1), (225, .aload_n 0, 1), (226, .iload_n 2, 1), (227, .iconst 3, 1), (228, .iload_n 3, 1), (229, .iload 4, 2), (231, .invokevirtual 45, 3), (234, .iconst 5, 1), (235, .ixor, 1), (236, .ireturn, 1), (237, .aload_n 0, 1), (238, .iload_n 2, 1), (239, .iconst 0, 1), (240, .iload_n 3, 1), (241, .iload 4, 2), (243, .invokevirtual 45, 3), (246, .iconst 2, 1), (247, .imul, 1), (248, .ireturn, 1), (249, .aload_n 0, 1), (250, .iload_n 2, 1), (251, .iconst 1, 1), (252, .iload_n 3, 1), (253, .iload 4, 2), (255, .invokevirtual 45, 3), (258, .aload_n 0, 1), (259, .iconst 2, 1), (260, .iconst 2, 1), (261, .iload 4, 2), (263, .invokevirtual 55, 3), (266, .iadd, 1), (267, .ireturn, 1), (268, .aload_n 0, 1), (269, .iload_n 2, 1), (270, .iconst 3, 1), (271, .iload_n 3, 1), (272, .iload 4, 2), (274, .invokevirtual 45, 3), (277, .iconst 1, 1), (278, .isub, 1), (279, .ireturn, 1), (280, .iconst 0, 1), (281, .ireturn, 1)]
set_option maxRecDepth 20000 in
theorem DX0_perform : ∀ q ∈ kX0_perform, decode mX0_perform.2.1 q.1 = .ok (q.2.1, q.2.2) := by decide +kernel
def kX1_init : List (Nat × Instr × Nat) := [(0, .aload_n 0, 1), (1, .invokespecial 3, 3), (4, .aload_n 0, 1), (5, .bipush 33, 2), (7, .newarray .int, 2), (9, .putfield 9, 3), (12, .aload_n 0, 1), (13, .bipush 33, 2), (15, .newarray .int, 2), (17, .putfield 15, 3), (20, .aload_n 0, 1), (21, .bipush 16, 2), (23, .newarray .int, 2), (25, .putfield 18, 3), (28, .aload_n 0, 1), (29, .bipush 96, 2), (31, .newarray .int, 2), (33, .putfield 21, 3), (36, .aload_n 0, 1), (37, .bipush 96, 2), (39, .newarray .int, 2), (41, .putfield 24, 3), (44, .aload_n 0, 1), (45, .bipush 16, 2), (47, .newarray .int, 2), (49, .putfield 27, 3), (52, .aload_n 0, 1), (53, .bipush 16, 2), (55, .newarray .int, 2), (57, .putfield 30, 3), (60, .aload_n 0, 1), (61, .bipush 16, 2), (63, .newarray .int, 2), (65, .putfield 33, 3), (68, .aload_n 0, 1), (69, .bipush 16, 2), (71, .newarray .int, 2), (73, .putfield 36, 3), (76, .aload_n 0, 1), (77, .bipush 33, 2), (79, .newarray .int, 2), (81, .putfield 39, 3), (84, .aload_n 0, 1), (85, .bipush 33, 2), (87, .newarray .int, 2), (89, .putfield 42, 3), (92, .aload_n 0, 1), (93, .bipush 33, 2), (95, .newarray .int, 2), (97, .putfield 45, 3), (100, .aload_n 0, 1), (101, .iconst 2, 1), (102, .putfield 48, 3), (105, .aload_n 0, 1), (106, .bipush 30, 2), (108, .putfield 52, 3), (111, .iconst 0, 1), (112, .istore_n 1, 1), (113, .iload_n 1, 1), (114, .bipush 16, 2), (116, .if_icmp .ge 31, 3), (119, .aload_n 0, 1), (120, .getfield 27, 3), (123, .iload_n 1, 1), (124, .iconst 1, 1), (125, .iastore, 1), (126, .aload_n 0, 1), (127, .getfield 33, 3), (130, .iload_n 1, 1), (131, .bipush 20, 2), (133, .iastore, 1), (134, .aload_n 0, 1), (135, .getfield 36, 3), (138, .iload_n 1, 1), (139, .iconst 4, 1), (140, .iastore, 1), (141, .iinc 1 1, 3), (144, .goto (-31), 3), (147, .iconst 0, 1), (148, .istore_n 1, 1), (149, .iload_n 1, 1), (150, .bipush 33, 2), (152, .if_icmp .ge 16, 3), (155, .aload_n 0, 1), (156, .getfield 39, 3), (159, .iload_n 1, 1), (160, .iconst 3, 1), (161, .iastore, 1), (162, .iinc 1 1, 3), (165, .goto (-16), 3), (168, .aload_n 0, 1), (169, .invokevirtual 55, 3), (172, .return_, 1)]
set_option maxRecDepth 20000 in
theorem DX1_init : ∀ q ∈ kX1_init, decode mX1_init.2.1 q.1 = .ok (q.2.1, q.2.2) := by decide +kernel
def kX1_layWalls : List (Nat × Instr × Nat) := [(0, .iconst 0, 1), (1, .istore_n 1, 1), (2, .iconst 0, 1), (3, .istore_n 2, 1), (4, .iload_n 2, 1), (5, .bipush 16, 2), (7, .if_icmp .ge 59, 3), (10, .iload_n 2, 1), (11, .iconst 1, 1), (12, .iadd, 1), (13, .istore_n 3, 1), (14, .iload_n 3, 1), (15, .bipush 16, 2), (17, .if_icmp .ge 43, 3), (20, .iload_n 1, 1), (21, .bipush 33, 2), (23, .if_icmp .ge 31, 3), (26, .iload_n 2, 1), (27, .iload_n 3, 1), (28, .invokestatic 58, 3), (31, .ifCond .ne 6, 3), (34, .goto 20, 3), (37, .aload_n 0, 1), (38, .getfield 9, 3), (41, .iload_n 1, 1), (42, .iload_n 2, 1), (43, .iastore, 1), (44, .aload_n 0, 1), (45, .getfield 15, 3), (48, .iload_n 1, 1), (49, .iload_n 3, 1), (50, .iastore, 1), (51, .iinc 1 1, 3), (54, .iinc 3 1, 3), (57, .goto (-43), 3), (60, .iinc 2 1, 3), (63, .goto (-59), 3), (66, .iconst 0, 1), (67, .istore_n 2, 1), (68, .iload_n 2, 1), (69, .bipush 33, 2), (71, .if_icmp .ge 43, 3), (74, .aload_n 0, 1), (75, .aload_n 0, 1), (76, .getfield 9, 3), (79, .iload_n 2, 1), (80, .iaload, 1), (81, .iload_n 2, 1), (82, .aload_n 0, 1), (83, .getfield 15, 3), (86, .iload_n 2, 1), (87, .iaload, 1), (88, .invokevirtual 62, 3), (91, .aload_n 0, 1), (92, .aload_n 0, 1), (93, .getfield 15, 3), (96, .iload_n 2, 1), (97, .iaload, 1), (98, .iload_n 2, 1), (99, .aload_n 0, 1), (100, .getfield 9, 3), (103, .iload_n 2, 1), (104, .iaload, 1), (105, .invokevirtual 62, 3), (108, .iinc 2 1, 3), (111, .goto (-43), 3), (114, .return_, 1)]
set_option maxRecDepth 20000 in
theorem DX1_layWalls : ∀ q ∈ kX1_layWalls, decode mX1_layWalls.2.1 q.1 = .ok (q.2.1, q.2.2) := by decide +kernel
def kX1_addSide : List (Nat × Instr × Nat) := [(0, .aload_n 0, 1), (1, .getfield 18, 3), (4, .iload_n 1, 1), (5, .iaload, 1), (6, .bipush 6, 2), (8, .if_icmp .lt 4, 3), (11, .return_, 1), (12, .iload_n 1, 1), (13, .bipush 6, 2), (15, .imul, 1), (16, .aload_n 0, 1), (17, .getfield 18, 3), (20, .iload_n 1, 1), (21, .iaload, 1), (22, .iadd, 1), (23, .istore 4, 2), (25, .aload_n 0, 1), (26, .getfield 21, 3), (29, .iload 4, 2), (31, .iload_n 2, 1), (32, .iastore, 1), (33, .aload_n 0, 1), (34, .getfield 24, 3), (37, .iload 4, 2), (39, .iload_n 3, 1), (40, .iastore, 1), (41, .aload_n 0, 1), (42, .getfield 18, 3), (45, .iload_n 1, 1), (46, .dup2, 1), (47, .iaload, 1), (48, .iconst 1, 1), (49, .iadd, 1), (50, .iastore, 1), (51, .return_, 1)]
set_option maxRecDepth 20000 in
theorem DX1_addSide : ∀ q ∈ kX1_addSide, decode mX1_addSide.2.1 q.1 = .ok (q.2.1, q.2.2) := by decide +kernel
def kX1_beside : List (Nat × Instr × Nat) := [(0, .iload_n 0, 1), (1, .iconst 4, 1), (2, .idiv, 1), (3, .istore_n 2, 1), (4, .iload_n 0, 1), (5, .iconst 4, 1), (6, .irem, 1), (7, .istore_n 3, 1), (8, .iload_n 1, 1), (9, .iconst 4, 1), (10, .irem, 1), (11, .istore 4, 2), (13, .iload_n 2, 1), (14, .iload_n 1, 1), (15, .iconst 4, 1), (16, .idiv, 1), (17, .if_icmp .ne 20, 3), (20, .iload_n 3, 1), (21, .iload 4, 2), (23, .isub, 1), (24, .invokestatic 66, 3), (27, .iconst 1, 1), (28, .if_icmp .ne 7, 3), (31, .iconst 1, 1), (32, .goto 4, 3), (35, .iconst 0, 1), (36, .ireturn, 1), (37, .iload_n 2, 1), (38, .iload_n 1, 1), (39, .iconst 4, 1), (40, .idiv, 1), (41, .isub, 1), (42, .invokestatic 66, 3), (45, .iconst 1, 1), (46, .if_icmp .eq 5, 3), (49, .iconst 0, 1), (50, .ireturn, 1), (51, .iload 4, 2), (53, .iload_n 3, 1), (54, .if_icmp .eq 23, 3), (57, .iload 4, 2), (59, .iload_n 2, 1), (60, .iconst 2, 1), (61, .irem, 1), (62, .ifCond .ne 9, 3), (65, .iload_n 3, 1), (66, .iconst 1, 1), (67, .isub, 1), (68, .goto 6, 3), (71, .iload_n 3, 1), (72, .iconst 1, 1), (73, .iadd, 1), (74, .if_icmp .ne 7, 3), (77, .iconst 1, 1), (78, .goto 4, 3), (81, .iconst 0, 1), (82, .ireturn, 1)]
set_option maxRecDepth 20000 in
theorem DX1_beside : ∀ q ∈ kX1_beside, decode mX1_beside.2.1 q.1 = .ok (q.2.1, q.2.2) := by decide +kernel
def kX1_wallBetween : List (Nat × Instr × Nat) := [(0, .iconst 0, 1), (1, .istore_n 3, 1), (2, .iload_n 3, 1), (3, .aload_n 0, 1), (4, .getfield 18, 3), (7, .iload_n 1, 1), (8, .iaload, 1), (9, .if_icmp .ge 36, 3), (12, .aload_n 0, 1), (13, .getfield 24, 3), (16, .iload_n 1, 1), (17, .bipush 6, 2), (19, .imul, 1), (20, .iload_n 3, 1), (21, .iadd, 1), (22, .iaload, 1), (23, .iload_n 2, 1), (24, .if_icmp .ne 15, 3), (27, .aload_n 0, 1), (28, .getfield 21, 3), (31, .iload_n 1, 1), (32, .bipush 6, 2), (34, .imul, 1), (35, .iload_n 3, 1), (36, .iadd, 1), (37, .iaload, 1), (38, .ireturn, 1), (39, .iinc 3 1, 3), (42, .goto (-40), 3), (45, .iconst (-1), 1), (46, .ireturn, 1)]
set_option maxRecDepth 20000 in
theorem DX1_wallBetween : ∀ q ∈ kX1_wallBetween, decode mX1_wallBetween.2.1 q.1 = .ok (q.2.1, q.2.2) := by decide +kernel
def kX1_atEdge : List (Nat × Instr × Nat) := [(0, .aload_n 0, 1), (1, .getfield 18, 3), (4, .iload_n 1, 1), (5, .iaload, 1), (6, .bipush 6, 2), (8, .if_icmp .ge 7, 3), (11, .iconst 1, 1), (12, .goto 4, 3), (15, .iconst 0, 1), (16, .ireturn, 1)]
set_option maxRecDepth 20000 in
theorem DX1_atEdge : ∀ q ∈ kX1_atEdge, decode mX1_atEdge.2.1 q.1 = .ok (q.2.1, q.2.2) := by decide +kernel
def kX1_load : List (Nat × Instr × Nat) := [(0, .iconst 0, 1), (1, .istore_n 3, 1), (2, .iconst 0, 1), (3, .istore 4, 2), (5, .iload 4, 2), (7, .aload_n 0, 1), (8, .getfield 18, 3), (11, .iload_n 1, 1), (12, .iaload, 1), (13, .if_icmp .ge 26, 3), (16, .iload_n 3, 1), (17, .aload_n 2, 1), (18, .aload_n 0, 1), (19, .getfield 21, 3), (22, .iload_n 1, 1), (23, .bipush 6, 2), (25, .imul, 1), (26, .iload 4, 2), (28, .iadd, 1), (29, .iaload, 1), (30, .iaload, 1), (31, .iadd, 1), (32, .istore_n 3, 1), (33, .iinc 4 1, 3), (36, .goto (-31), 3), (39, .iload_n 3, 1), (40, .ireturn, 1)]
set_option maxRecDepth 20000 in
theorem DX1_load : ∀ q ∈ kX1_load, decode mX1_load.2.1 q.1 = .ok (q.2.1, q.2.2) := by decide +kernel
def kX1_fits : List (Nat × Instr × Nat) := [(0, .iload_n 2, 1), (1, .tableswitch 197 0 6 #[43, 66, 89, 112, 134, 156, 176], 43), (44, .iload_n 1, 1), (45, .invokestatic 72, 3), (48, .ifCond .eq 17, 3), (51, .iload_n 3, 1), (52, .iconst 0, 1), (53, .bipush 9, 2), (55, .invokestatic 76, 3), (58, .ifCond .eq 7, 3), (61, .iconst 1, 1), (62, .goto 4, 3), (65, .iconst 0, 1), (66, .ireturn, 1), (67, .iload_n 1, 1), (68, .invokestatic 72, 3), (71, .ifCond .eq 17, 3), (74, .iload_n 3, 1), (75, .iconst 0, 1), (76, .bipush 9, 2), (78, .invokestatic 76, 3), (81, .ifCond .eq 7, 3), (84, .iconst 1, 1), (85, .goto 4, 3), (88, .iconst 0, 1), (89, .ireturn, 1), (90, .iload_n 1, 1), (91, .invokestatic 80, 3), (94, .ifCond .eq 17, 3), (97, .iload_n 3, 1), (98, .iconst 0, 1), (99, .bipush 9, 2), (101, .invokestatic 76, 3), (104, .ifCond .eq 7, 3), (107, .iconst 1, 1), (108, .goto 4, 3), (111, .iconst 0, 1), (112, .ireturn, 1), (113, .iload_n 1, 1), (114, .invokestatic 80, 3), (117, .ifCond .eq 16, 3), (120, .iload_n 3, 1), (121, .iconst 0, 1), (122, .iconst 1, 1), (123, .invokestatic 76, 3), (126, .ifCond .eq 7, 3), (129, .iconst 1, 1), (130, .goto 4, 3), (133, .iconst 0, 1), (134, .ireturn, 1), (135, .iload_n 1, 1), (136, .invokestatic 80, 3), (139, .ifCond .eq 16, 3), (142, .iload_n 3, 1), (143, .iconst 0, 1), (144, .iconst 5, 1), (145, .invokestatic 76, 3), (148, .ifCond .eq 7, 3), (151, .iconst 1, 1), (152, .goto 4, 3), (155, .iconst 0, 1), (156, .ireturn, 1), (157, .iload_n 1, 1), (158, .ifCond .ne 17, 3), (161, .iload_n 3, 1), (162, .iconst 0, 1), (163, .bipush 9, 2), (165, .invokestatic 76, 3), (168, .ifCond .eq 7, 3), (171, .iconst 1, 1), (172, .goto 4, 3), (175, .iconst 0, 1), (176, .ireturn, 1), (177, .iload_n 1, 1), (178, .ifCond .ne 18, 3), (181, .iload_n 3, 1), (182, .bipush 6, 2), (184, .bipush 54, 2), (186, .invokestatic 76, 3), (189, .ifCond .eq 7, 3), (192, .iconst 1, 1), (193, .goto 4, 3), (196, .iconst 0, 1), (197, .ireturn, 1), (198, .iconst 0, 1), (199, .ireturn, 1)]
set_option maxRecDepth 20000 in
theorem DX1_fits : ∀ q ∈ kX1_fits, decode mX1_fits.2.1 q.1 = .ok (q.2.1, q.2.2) := by decide +kernel
def kX1_told : List (Nat × Instr × Nat) := [(0, .iload_n 2, 1), (1, .tableswitch 79 0 5 #[39, 46, 53, 60, 67, 74], 39), (40, .aload_n 0, 1), (41, .getfield 30, 3), (44, .iload_n 1, 1), (45, .iaload, 1), (46, .ireturn, 1), (47, .aload_n 0, 1), (48, .getfield 36, 3), (51, .iload_n 1, 1), (52, .iaload, 1), (53, .ireturn, 1), (54, .aload_n 0, 1), (55, .getfield 39, 3), (58, .iload_n 1, 1), (59, .iaload, 1), (60, .ireturn, 1), (61, .aload_n 0, 1), (62, .getfield 42, 3), (65, .iload_n 1, 1), (66, .iaload, 1), (67, .ireturn, 1), (68, .aload_n 0, 1), (69, .getfield 45, 3), (72, .iload_n 1, 1), (73, .iaload, 1), (74, .ireturn, 1), (75, .aload_n 0, 1), (76, .getfield 48, 3), (79, .ireturn, 1), (80, .aload_n 0, 1), (81, .getfield 52, 3), (84, .ireturn, 1)]
set_option maxRecDepth 20000 in
theorem DX1_told : ∀ q ∈ kX1_told, decode mX1_told.2.1 q.1 = .ok (q.2.1, q.2.2) := by decide +kernel
def kX1_tell : List (Nat × Instr × Nat) := [(0, .iload_n 2, 1), (1, .tableswitch 97 0 5 #[39, 49, 59, 69, 79, 89], 39), (40, .aload_n 0, 1), (41, .getfield 30, 3), (44, .iload_n 1, 1), (45, .iload_n 3, 1), (46, .iastore, 1), (47, .goto 56, 3), (50, .aload_n 0, 1), (51, .getfield 36, 3), (54, .iload_n 1, 1), (55, .iload_n 3, 1), (56, .iastore, 1), (57, .goto 46, 3), (60, .aload_n 0, 1), (61, .getfield 39, 3), (64, .iload_n 1, 1), (65, .iload_n 3, 1), (66, .iastore, 1), (67, .goto 36, 3), (70, .aload_n 0, 1), (71, .getfield 42, 3), (74, .iload_n 1, 1), (75, .iload_n 3, 1), (76, .iastore, 1), (77, .goto 26, 3), (80, .aload_n 0, 1), (81, .getfield 45, 3), (84, .iload_n 1, 1), (85, .iload_n 3, 1), (86, .iastore, 1), (87, .goto 16, 3), (90, .aload_n 0, 1), (91, .iload_n 3, 1), (92, .putfield 48, 3), (95, .goto 8, 3), (98, .aload_n 0, 1), (99, .iload_n 3, 1), (100, .putfield 52, 3), (103, .return_, 1)]
set_option maxRecDepth 20000 in
theorem DX1_tell : ∀ q ∈ kX1_tell, decode mX1_tell.2.1 q.1 = .ok (q.2.1, q.2.2) := by decide +kernel
def kX2_init : List (Nat × Instr × Nat) := [(0, .aload_n 0, 1), (1, .invokespecial 3, 3), (4, .aload_n 0, 1), (5, .bipush 16, 2), (7, .newarray .int, 2), (9, .putfield 9, 3), (12, .aload_n 0, 1), (13, .bipush 16, 2), (15, .newarray .int, 2), (17, .putfield 15, 3), (20, .aload_n 0, 1), (21, .iconst 0, 1), (22, .putfield 18, 3), (25, .aload_n 0, 1), (26, .aload_n 1, 1), (27, .putfield 22, 3), (30, .return_, 1)]
set_option maxRecDepth 20000 in
theorem DX2_init : ∀ q ∈ kX2_init, decode mX2_init.2.1 q.1 = .ok (q.2.1, q.2.2) := by decide +kernel
def kX2_taker : List (Nat × Instr × Nat) := [(0, .iconst (-1), 1), (1, .istore_n 2, 1), (2, .iconst 0, 1), (3, .istore_n 3, 1), (4, .iload_n 3, 1), (5, .aload_n 0, 1), (6, .getfield 22, 3), (9, .getfield 26, 3), (12, .iload_n 1, 1), (13, .iaload, 1), (14, .if_icmp .ge 68, 3), (17, .aload_n 0, 1), (18, .getfield 22, 3), (21, .getfield 31, 3), (24, .iload_n 1, 1), (25, .bipush 6, 2), (27, .imul, 1), (28, .iload_n 3, 1), (29, .iadd, 1), (30, .iaload, 1), (31, .istore 4, 2), (33, .aload_n 0, 1), (34, .getfield 22, 3), (37, .getfield 34, 3), (40, .iload 4, 2), (42, .iaload, 1), (43, .iconst 1, 1), (44, .if_icmp .ne 32, 3), (47, .iload_n 2, 1), (48, .ifCond .lt 25, 3), (51, .aload_n 0, 1), (52, .getfield 22, 3), (55, .getfield 37, 3), (58, .iload 4, 2), (60, .iaload, 1), (61, .aload_n 0, 1), (62, .getfield 22, 3), (65, .getfield 37, 3), (68, .iload_n 2, 1), (69, .iaload, 1), (70, .if_icmp .le 6, 3), (73, .iload 4, 2), (75, .istore_n 2, 1), (76, .iinc 3 1, 3), (79, .goto (-75), 3), (82, .iload_n 2, 1), (83, .ireturn, 1)]
set_option maxRecDepth 20000 in
theorem DX2_taker : ∀ q ∈ kX2_taker, decode mX2_taker.2.1 q.1 = .ok (q.2.1, q.2.2) := by decide +kernel
def kX2_takeIn : List (Nat × Instr × Nat) := [(0, .aload_n 0, 1), (1, .getfield 22, 3), (4, .getfield 34, 3), (7, .iload_n 1, 1), (8, .iconst 1, 1), (9, .iastore, 1), (10, .aload_n 0, 1), (11, .getfield 22, 3), (14, .getfield 37, 3), (17, .iload_n 1, 1), (18, .aload_n 0, 1), (19, .getfield 22, 3), (22, .getfield 37, 3), (25, .iload_n 2, 1), (26, .iaload, 1), (27, .iastore, 1), (28, .aload_n 0, 1), (29, .getfield 22, 3), (32, .iload_n 1, 1), (33, .iload_n 2, 1), (34, .invokevirtual 40, 3), (37, .istore_n 3, 1), (38, .iload_n 3, 1), (39, .ifCond .lt 13, 3), (42, .aload_n 0, 1), (43, .getfield 22, 3), (46, .getfield 44, 3), (49, .iload_n 3, 1), (50, .iconst 1, 1), (51, .iastore, 1), (52, .return_, 1)]
set_option maxRecDepth 20000 in
theorem DX2_takeIn : ∀ q ∈ kX2_takeIn, decode mX2_takeIn.2.1 q.1 = .ok (q.2.1, q.2.2) := by decide +kernel
def kX2_grow : List (Nat × Instr × Nat) := [(0, .iload_n 1, 1), (1, .istore_n 3, 1), (2, .iconst 0, 1), (3, .istore 4, 2), (5, .iload 4, 2), (7, .iload_n 2, 1), (8, .if_icmp .ge 63, 3), (11, .iconst 0, 1), (12, .istore 5, 2), (14, .iload 5, 2), (16, .bipush 16, 2), (18, .if_icmp .ge 47, 3), (21, .aload_n 0, 1), (22, .getfield 22, 3), (25, .getfield 34, 3), (28, .iload 5, 2), (30, .iaload, 1), (31, .ifCond .ne 6, 3), (34, .goto 25, 3), (37, .iload_n 3, 1), (38, .ldc 47, 2), (40, .imul, 1), (41, .sipush 12345, 3), (44, .iadd, 1), (45, .istore_n 3, 1), (46, .aload_n 0, 1), (47, .iload 5, 2), (49, .iload_n 3, 1), (50, .bipush 8, 2), (52, .iushr, 1), (53, .bipush 12, 2), (55, .irem, 1), (56, .invokevirtual 48, 3), (59, .iinc 5 1, 3), (62, .goto (-48), 3), (65, .iinc 4 1, 3), (68, .goto (-63), 3), (71, .return_, 1)]
set_option maxRecDepth 20000 in
theorem DX2_grow : ∀ q ∈ kX2_grow, decode mX2_grow.2.1 q.1 = .ok (q.2.1, q.2.2) := by decide +kernel
def kX2_befall : List (Nat × Instr × Nat) := [(0, .iload_n 2, 1), (1, .tableswitch 102 0 3 #[31, 39, 47, 75], 31), (32, .aload_n 0, 1), (33, .iload_n 1, 1), (34, .invokevirtual 52, 3), (37, .goto 66, 3), (40, .aload_n 0, 1), (41, .iload_n 1, 1), (42, .invokevirtual 56, 3), (45, .goto 58, 3), (48, .aload_n 0, 1), (49, .getfield 22, 3), (52, .getfield 59, 3), (55, .iload_n 1, 1), (56, .bipush 9, 2), (58, .aload_n 0, 1), (59, .getfield 22, 3), (62, .getfield 59, 3), (65, .iload_n 1, 1), (66, .iaload, 1), (67, .iconst 1, 1), (68, .iadd, 1), (69, .invokestatic 62, 3), (72, .iastore, 1), (73, .goto 30, 3), (76, .aload_n 0, 1), (77, .getfield 22, 3), (80, .getfield 59, 3), (83, .iload_n 1, 1), (84, .iconst 0, 1), (85, .aload_n 0, 1), (86, .getfield 22, 3), (89, .getfield 59, 3), (92, .iload_n 1, 1), (93, .iaload, 1), (94, .iconst 1, 1), (95, .isub, 1), (96, .invokestatic 67, 3), (99, .iastore, 1), (100, .goto 3, 3), (103, .return_, 1)]
set_option maxRecDepth 20000 in
theorem DX2_befall : ∀ q ∈ kX2_befall, decode mX2_befall.2.1 q.1 = .ok (q.2.1, q.2.2) := by decide +kernel
def kX2_bear : List (Nat × Instr × Nat) := [(0, .iconst 0, 1), (1, .istore_n 2, 1), (2, .iload_n 2, 1), (3, .aload_n 0, 1), (4, .getfield 22, 3), (7, .getfield 26, 3), (10, .iload_n 1, 1), (11, .iaload, 1), (12, .if_icmp .ge 69, 3), (15, .aload_n 0, 1), (16, .getfield 22, 3), (19, .getfield 31, 3), (22, .iload_n 1, 1), (23, .bipush 6, 2), (25, .imul, 1), (26, .iload_n 2, 1), (27, .iadd, 1), (28, .iaload, 1), (29, .istore_n 3, 1), (30, .aload_n 0, 1), (31, .getfield 22, 3), (34, .getfield 34, 3), (37, .iload_n 3, 1), (38, .iaload, 1), (39, .iconst 1, 1), (40, .if_icmp .ne 6, 3), (43, .goto 32, 3), (46, .aload_n 0, 1), (47, .getfield 22, 3), (50, .getfield 34, 3), (53, .iload_n 3, 1), (54, .iconst 1, 1), (55, .iastore, 1), (56, .aload_n 0, 1), (57, .getfield 22, 3), (60, .getfield 37, 3), (63, .iload_n 3, 1), (64, .aload_n 0, 1), (65, .getfield 22, 3), (68, .getfield 37, 3), (71, .iload_n 1, 1), (72, .iaload, 1), (73, .iastore, 1), (74, .return_, 1), (75, .iinc 2 1, 3), (78, .goto (-76), 3), (81, .return_, 1)]
set_option maxRecDepth 20000 in
theorem DX2_bear : ∀ q ∈ kX2_bear, decode mX2_bear.2.1 q.1 = .ok (q.2.1, q.2.2) := by decide +kernel
def kX2_feud : List (Nat × Instr × Nat) := [(0, .iconst 0, 1), (1, .istore_n 2, 1), (2, .iload_n 2, 1), (3, .aload_n 0, 1), (4, .getfield 22, 3), (7, .getfield 26, 3), (10, .iload_n 1, 1), (11, .iaload, 1), (12, .if_icmp .ge 50, 3), (15, .aload_n 0, 1), (16, .getfield 22, 3), (19, .getfield 70, 3), (22, .iload_n 1, 1), (23, .bipush 6, 2), (25, .imul, 1), (26, .iload_n 2, 1), (27, .iadd, 1), (28, .iaload, 1), (29, .istore_n 3, 1), (30, .aload_n 0, 1), (31, .getfield 22, 3), (34, .getfield 44, 3), (37, .iload_n 3, 1), (38, .iaload, 1), (39, .ifCond .ne 6, 3), (42, .goto 14, 3), (45, .aload_n 0, 1), (46, .getfield 22, 3), (49, .getfield 44, 3), (52, .iload_n 3, 1), (53, .iconst 0, 1), (54, .iastore, 1), (55, .return_, 1), (56, .iinc 2 1, 3), (59, .goto (-57), 3), (62, .return_, 1)]
set_option maxRecDepth 20000 in
theorem DX2_feud : ∀ q ∈ kX2_feud, decode mX2_feud.2.1 q.1 = .ok (q.2.1, q.2.2) := by decide +kernel
def kX2_keepImage : List (Nat × Instr × Nat) := [(0, .aload_n 0, 1), (1, .getfield 22, 3), (4, .getfield 73, 3), (7, .iconst 0, 1), (8, .aload_n 0, 1), (9, .getfield 9, 3), (12, .iconst 0, 1), (13, .bipush 16, 2), (15, .invokestatic 76, 3), (18, .aload_n 0, 1), (19, .getfield 22, 3), (22, .getfield 34, 3), (25, .iconst 0, 1), (26, .aload_n 0, 1), (27, .getfield 15, 3), (30, .iconst 0, 1), (31, .bipush 16, 2), (33, .invokestatic 76, 3), (36, .aload_n 0, 1), (37, .iconst 1, 1), (38, .putfield 18, 3), (41, .return_, 1)]
set_option maxRecDepth 20000 in
theorem DX2_keepImage : ∀ q ∈ kX2_keepImage, decode mX2_keepImage.2.1 q.1 = .ok (q.2.1, q.2.2) := by decide +kernel
def kX2_layBack : List (Nat × Instr × Nat) := [(0, .aload_n 0, 1), (1, .getfield 18, 3), (4, .ifCond .ne 5, 3), (7, .iconst 0, 1), (8, .ireturn, 1), (9, .aload_n 0, 1), (10, .getfield 9, 3), (13, .iconst 0, 1), (14, .aload_n 0, 1), (15, .getfield 22, 3), (18, .getfield 73, 3), (21, .iconst 0, 1), (22, .bipush 16, 2), (24, .invokestatic 76, 3), (27, .aload_n 0, 1), (28, .getfield 15, 3), (31, .iconst 0, 1), (32, .aload_n 0, 1), (33, .getfield 22, 3), (36, .getfield 34, 3), (39, .iconst 0, 1), (40, .bipush 16, 2), (42, .invokestatic 76, 3), (45, .iconst 1, 1), (46, .ireturn, 1)]
set_option maxRecDepth 20000 in
theorem DX2_layBack : ∀ q ∈ kX2_layBack, decode mX2_layBack.2.1 q.1 = .ok (q.2.1, q.2.2) := by decide +kernel
def kX3_init : List (Nat × Instr × Nat) := [(0, .aload_n 0, 1), (1, .invokespecial 3, 3), (4, .aload_n 0, 1), (5, .bipush 40, 2), (7, .newarray .int, 2), (9, .putfield 11, 3), (12, .aload_n 0, 1), (13, .bipush 40, 2), (15, .newarray .int, 2), (17, .putfield 15, 3), (20, .aload_n 0, 1), (21, .bipush 40, 2), (23, .newarray .int, 2), (25, .putfield 18, 3), (28, .aload_n 0, 1), (29, .bipush 40, 2), (31, .newarray .int, 2), (33, .putfield 21, 3), (36, .aload_n 0, 1), (37, .iconst 0, 1), (38, .putfield 24, 3), (41, .aload_n 0, 1), (42, .iconst 0, 1), (43, .putfield 28, 3), (46, .aload_n 0, 1), (47, .aload_n 1, 1), (48, .putfield 31, 3), (51, .return_, 1)]
set_option maxRecDepth 20000 in
theorem DX3_init : ∀ q ∈ kX3_init, decode mX3_init.2.1 q.1 = .ok (q.2.1, q.2.2) := by decide +kernel
def kX3_record : List (Nat × Instr × Nat) := [(0, .aload_n 0, 1), (1, .getfield 24, 3), (4, .bipush 40, 2), (6, .if_icmp .lt 37, 3), (9, .aload_n 0, 1), (10, .getfield 11, 3), (13, .invokestatic 35, 3), (16, .aload_n 0, 1), (17, .getfield 15, 3), (20, .invokestatic 35, 3), (23, .aload_n 0, 1), (24, .getfield 18, 3), (27, .invokestatic 35, 3), (30, .aload_n 0, 1), (31, .getfield 21, 3), (34, .invokestatic 35, 3), (37, .aload_n 0, 1), (38, .bipush 39, 2), (40, .putfield 24, 3), (43, .aload_n 0, 1), (44, .getfield 11, 3), (47, .aload_n 0, 1), (48, .getfield 24, 3), (51, .iload_n 1, 1), (52, .iastore, 1), (53, .aload_n 0, 1), (54, .getfield 15, 3), (57, .aload_n 0, 1), (58, .getfield 24, 3), (61, .iload_n 2, 1), (62, .iastore, 1), (63, .aload_n 0, 1), (64, .getfield 18, 3), (67, .aload_n 0, 1), (68, .getfield 24, 3), (71, .iload_n 3, 1), (72, .iastore, 1), (73, .aload_n 0, 1), (74, .getfield 21, 3), (77, .aload_n 0, 1), (78, .getfield 24, 3), (81, .iload 4, 2), (83, .iastore, 1), (84, .aload_n 0, 1), (85, .dup, 1), (86, .getfield 24, 3), (89, .iconst 1, 1), (90, .iadd, 1), (91, .putfield 24, 3), (94, .aload_n 0, 1), (95, .aload_n 0, 1), (96, .getfield 24, 3), (99, .putfield 28, 3), (102, .return_, 1)]
set_option maxRecDepth 20000 in
theorem DX3_record : ∀ q ∈ kX3_record, decode mX3_record.2.1 q.1 = .ok (q.2.1, q.2.2) := by decide +kernel
def kX3_dropOldest : List (Nat × Instr × Nat) := [(0, .aload_n 0, 1), (1, .iconst 1, 1), (2, .aload_n 0, 1), (3, .iconst 0, 1), (4, .bipush 39, 2), (6, .invokestatic 39, 3), (9, .return_, 1)]
set_option maxRecDepth 20000 in
theorem DX3_dropOldest : ∀ q ∈ kX3_dropOldest, decode mX3_dropOldest.2.1 q.1 = .ok (q.2.1, q.2.2) := by decide +kernel
def kX3_undoable : List (Nat × Instr × Nat) := [(0, .aload_n 0, 1), (1, .getfield 24, 3), (4, .ireturn, 1)]
set_option maxRecDepth 20000 in
theorem DX3_undoable : ∀ q ∈ kX3_undoable, decode mX3_undoable.2.1 q.1 = .ok (q.2.1, q.2.2) := by decide +kernel
def kX3_takeBack : List (Nat × Instr × Nat) := [(0, .aload_n 0, 1), (1, .getfield 24, 3), (4, .ifCond .ne 6, 3), (7, .bipush (-5), 2), (9, .ireturn, 1), (10, .aload_n 0, 1), (11, .dup, 1), (12, .getfield 24, 3), (15, .iconst 1, 1), (16, .isub, 1), (17, .putfield 24, 3), (20, .aload_n 0, 1), (21, .getfield 31, 3), (24, .aload_n 0, 1), (25, .getfield 11, 3), (28, .aload_n 0, 1), (29, .getfield 24, 3), (32, .iaload, 1), (33, .aload_n 0, 1), (34, .getfield 15, 3), (37, .aload_n 0, 1), (38, .getfield 24, 3), (41, .iaload, 1), (42, .aload_n 0, 1), (43, .getfield 18, 3), (46, .aload_n 0, 1), (47, .getfield 24, 3), (50, .iaload, 1), (51, .invokevirtual 45, 3), (54, .aload_n 0, 1), (55, .getfield 24, 3), (58, .ireturn, 1)]
set_option maxRecDepth 20000 in
theorem DX3_takeBack : ∀ q ∈ kX3_takeBack, decode mX3_takeBack.2.1 q.1 = .ok (q.2.1, q.2.2) := by decide +kernel
def kX3_doAgain : List (Nat × Instr × Nat) := [(0, .aload_n 0, 1), (1, .getfield 24, 3), (4, .aload_n 0, 1), (5, .getfield 28, 3), (8, .if_icmp .lt 6, 3), (11, .bipush (-5), 2), (13, .ireturn, 1), (14, .aload_n 0, 1), (15, .getfield 31, 3), (18, .aload_n 0, 1), (19, .getfield 11, 3), (22, .aload_n 0, 1), (23, .getfield 24, 3), (26, .iaload, 1), (27, .aload_n 0, 1), (28, .getfield 15, 3), (31, .aload_n 0, 1), (32, .getfield 24, 3), (35, .iaload, 1), (36, .aload_n 0, 1), (37, .getfield 21, 3), (40, .aload_n 0, 1), (41, .getfield 24, 3), (44, .iaload, 1), (45, .invokevirtual 45, 3), (48, .aload_n 0, 1), (49, .dup, 1), (50, .getfield 24, 3), (53, .iconst 1, 1), (54, .iadd, 1), (55, .putfield 24, 3), (58, .aload_n 0, 1), (59, .getfield 28, 3), (62, .aload_n 0, 1), (63, .getfield 24, 3), (66, .isub, 1), (67, .ireturn, 1)]
set_option maxRecDepth 20000 in
theorem DX3_doAgain : ∀ q ∈ kX3_doAgain, decode mX3_doAgain.2.1 q.1 = .ok (q.2.1, q.2.2) := by decide +kernel
def kX4_init : List (Nat × Instr × Nat) := [(0, .aload_n 0, 1), (1, .invokespecial 1, 3), (4, .aload_n 0, 1), (5, .bipush 120, 2), (7, .newarray .int, 2), (9, .putfield 9, 3), (12, .aload_n 0, 1), (13, .iconst 0, 1), (14, .putfield 13, 3), (17, .aload_n 0, 1), (18, .iconst 0, 1), (19, .putfield 17, 3), (22, .aload_n 0, 1), (23, .iconst 0, 1), (24, .putfield 20, 3), (27, .aload_n 0, 1), (28, .bipush 121, 2), (30, .newarray .int, 2), (32, .putfield 24, 3), (35, .aload_n 0, 1), (36, .bipush 121, 2), (38, .newarray .int, 2), (40, .putfield 27, 3), (43, .aload_n 0, 1), (44, .iconst 0, 1), (45, .putfield 30, 3), (48, .aload_n 0, 1), (49, .bipush 121, 2), (51, .newarray .int, 2), (53, .putfield 33, 3), (56, .aload_n 0, 1), (57, .bipush 121, 2), (59, .newarray .int, 2), (61, .putfield 36, 3), (64, .aload_n 0, 1), (65, .iconst 0, 1), (66, .putfield 39, 3), (69, .aload_n 0, 1), (70, .bipush 121, 2), (72, .newarray .int, 2), (74, .putfield 42, 3), (77, .return_, 1)]
set_option maxRecDepth 20000 in
theorem DX4_init : ∀ q ∈ kX4_init, decode mX4_init.2.1 q.1 = .ok (q.2.1, q.2.2) := by decide +kernel
def kX4_take : List (Nat × Instr × Nat) := [(0, .aload_n 0, 1), (1, .getfield 13, 3), (4, .bipush 120, 2), (6, .if_icmp .lt 5, 3), (9, .iconst 0, 1), (10, .ireturn, 1), (11, .aload_n 0, 1), (12, .getfield 9, 3), (15, .aload_n 0, 1), (16, .getfield 13, 3), (19, .iload_n 1, 1), (20, .iastore, 1), (21, .aload_n 0, 1), (22, .dup, 1), (23, .getfield 13, 3), (26, .iconst 1, 1), (27, .iadd, 1), (28, .putfield 13, 3), (31, .iconst 1, 1), (32, .ireturn, 1)]
set_option maxRecDepth 20000 in
theorem DX4_take : ∀ q ∈ kX4_take, decode mX4_take.2.1 q.1 = .ok (q.2.1, q.2.2) := by decide +kernel
def kX4_fed : List (Nat × Instr × Nat) := [(0, .aload_n 0, 1), (1, .getfield 13, 3), (4, .ireturn, 1)]
set_option maxRecDepth 20000 in
theorem DX4_fed : ∀ q ∈ kX4_fed, decode mX4_fed.2.1 q.1 = .ok (q.2.1, q.2.2) := by decide +kernel
def kX4_isTold : List (Nat × Instr × Nat) := [(0, .aload_n 0, 1), (1, .getfield 30, 3), (4, .ifCond .le 7, 3), (7, .iconst 1, 1), (8, .goto 4, 3), (11, .iconst 0, 1), (12, .ireturn, 1)]
set_option maxRecDepth 20000 in
theorem DX4_isTold : ∀ q ∈ kX4_isTold, decode mX4_isTold.2.1 q.1 = .ok (q.2.1, q.2.2) := by decide +kernel
def kX4_read : List (Nat × Instr × Nat) := [(0, .aload_n 0, 1), (1, .iconst 0, 1), (2, .putfield 17, 3), (5, .aload_n 0, 1), (6, .iconst 0, 1), (7, .putfield 20, 3), (10, .aload_n 0, 1), (11, .iconst 0, 1), (12, .putfield 39, 3), (15, .aload_n 0, 1), (16, .invokevirtual 45, 3), (19, .aload_n 0, 1), (20, .iconst 0, 1), (21, .putfield 13, 3), (24, .aload_n 0, 1), (25, .getfield 20, 3), (28, .ifCond .eq 8, 3), (31, .aload_n 0, 1), (32, .getfield 17, 3), (35, .ireturn, 1), (36, .aload_n 0, 1), (37, .getfield 24, 3), (40, .astore_n 1, 1), (41, .aload_n 0, 1), (42, .getfield 27, 3), (45, .astore_n 2, 1), (46, .aload_n 0, 1), (47, .aload_n 0, 1), (48, .getfield 33, 3), (51, .putfield 24, 3), (54, .aload_n 0, 1), (55, .aload_n 0, 1), (56, .getfield 36, 3), (59, .putfield 27, 3), (62, .aload_n 0, 1), (63, .aload_n 0, 1), (64, .getfield 39, 3), (67, .putfield 30, 3), (70, .aload_n 0, 1), (71, .aload_n 1, 1), (72, .putfield 33, 3), (75, .aload_n 0, 1), (76, .aload_n 2, 1), (77, .putfield 36, 3), (80, .iconst (-1), 1), (81, .ireturn, 1)]
set_option maxRecDepth 20000 in
theorem DX4_read : ∀ q ∈ kX4_read, decode mX4_read.2.1 q.1 = .ok (q.2.1, q.2.2) := by decide +kernel
def kX4_peek : List (Nat × Instr × Nat) := [(0, .aload_n 0, 1), (1, .getfield 17, 3), (4, .aload_n 0, 1), (5, .getfield 13, 3), (8, .if_icmp .ge 15, 3), (11, .aload_n 0, 1), (12, .getfield 9, 3), (15, .aload_n 0, 1), (16, .getfield 17, 3), (19, .iaload, 1), (20, .goto 4, 3), (23, .iconst (-1), 1), (24, .ireturn, 1)]
set_option maxRecDepth 20000 in
theorem DX4_peek : ∀ q ∈ kX4_peek, decode mX4_peek.2.1 q.1 = .ok (q.2.1, q.2.2) := by decide +kernel
def kX4_emit : List (Nat × Instr × Nat) := [(0, .aload_n 0, 1), (1, .getfield 39, 3), (4, .bipush 120, 2), (6, .invokestatic 48, 3), (9, .istore_n 3, 1), (10, .aload_n 0, 1), (11, .getfield 33, 3), (14, .iload_n 3, 1), (15, .iload_n 1, 1), (16, .iastore, 1), (17, .aload_n 0, 1), (18, .getfield 36, 3), (21, .iload_n 3, 1), (22, .iload_n 2, 1), (23, .iastore, 1), (24, .aload_n 0, 1), (25, .iload_n 3, 1), (26, .iconst 1, 1), (27, .iadd, 1), (28, .putfield 39, 3), (31, .iload_n 3, 1), (32, .ireturn, 1)]
set_option maxRecDepth 20000 in
theorem DX4_emit : ∀ q ∈ kX4_emit, decode mX4_emit.2.1 q.1 = .ok (q.2.1, q.2.2) := by decide +kernel
def kX4_readLines : List (Nat × Instr × Nat) := [(0, .iconst 0, 1), (1, .istore_n 1, 1), (2, .iload_n 1, 1), (3, .bipush 120, 2), (5, .if_icmp .gt 57, 3), (8, .aload_n 0, 1), (9, .invokevirtual 54, 3), (12, .aload_n 0, 1), (13, .getfield 20, 3), (16, .ifCond .ne 14, 3), (19, .aload_n 0, 1), (20, .getfield 17, 3), (23, .aload_n 0, 1), (24, .getfield 13, 3), (27, .if_icmp .lt 4, 3), (30, .return_, 1), (31, .aload_n 0, 1), (32, .invokevirtual 57, 3), (35, .bipush 59, 2), (37, .if_icmp .eq 9, 3), (40, .aload_n 0, 1), (41, .iconst 1, 1), (42, .putfield 20, 3), (45, .return_, 1), (46, .aload_n 0, 1), (47, .dup, 1), (48, .getfield 17, 3), (51, .iconst 1, 1), (52, .iadd, 1), (53, .putfield 17, 3), (56, .iinc 1 1, 3), (59, .goto (-57), 3), (62, .return_, 1)]
set_option maxRecDepth 20000 in
theorem DX4_readLines : ∀ q ∈ kX4_readLines, decode mX4_readLines.2.1 q.1 = .ok (q.2.1, q.2.2) := by decide +kernel
def kX4_readLine : List (Nat × Instr × Nat) := [(0, .aload_n 0, 1), (1, .iconst 0, 1), (2, .iconst 0, 1), (3, .invokevirtual 61, 3), (6, .aload_n 0, 1), (7, .getfield 20, 3), (10, .ifCond .eq 4, 3), (13, .return_, 1), (14, .aload_n 0, 1), (15, .invokevirtual 57, 3), (18, .bipush 63, 2), (20, .if_icmp .eq 12, 3), (23, .aload_n 0, 1), (24, .bipush 59, 2), (26, .iconst 0, 1), (27, .invokevirtual 65, 3), (30, .pop, 1), (31, .return_, 1), (32, .aload_n 0, 1), (33, .dup, 1), (34, .getfield 17, 3), (37, .iconst 1, 1), (38, .iadd, 1), (39, .putfield 17, 3), (42, .aload_n 0, 1), (43, .bipush 63, 2), (45, .iconst 0, 1), (46, .invokevirtual 65, 3), (49, .istore_n 1, 1), (50, .aload_n 0, 1), (51, .iconst 0, 1), (52, .iconst 0, 1), (53, .invokevirtual 61, 3), (56, .aload_n 0, 1), (57, .getfield 36, 3), (60, .iload_n 1, 1), (61, .aload_n 0, 1), (62, .bipush 59, 2), (64, .iconst 0, 1), (65, .invokevirtual 65, 3), (68, .iastore, 1), (69, .return_, 1)]
set_option maxRecDepth 20000 in
theorem DX4_readLine : ∀ q ∈ kX4_readLine, decode mX4_readLine.2.1 q.1 = .ok (q.2.1, q.2.2) := by decide +kernel
def kX4_readLevel : List (Nat × Instr × Nat) := [(0, .iload_n 1, 1), (1, .iconst 5, 1), (2, .if_icmp .lt 9, 3), (5, .aload_n 0, 1), (6, .iload_n 2, 1), (7, .invokevirtual 68, 3), (10, .return_, 1), (11, .aload_n 0, 1), (12, .iload_n 1, 1), (13, .iconst 1, 1), (14, .iadd, 1), (15, .iload_n 2, 1), (16, .invokevirtual 61, 3), (19, .iload_n 1, 1), (20, .iconst 2, 1), (21, .if_icmp .ne 7, 3), (24, .iconst 1, 1), (25, .goto 5, 3), (28, .bipush 120, 2), (30, .istore_n 3, 1), (31, .iconst 0, 1), (32, .istore 4, 2), (34, .iload 4, 2), (36, .iload_n 3, 1), (37, .if_icmp .ge 58, 3), (40, .aload_n 0, 1), (41, .invokevirtual 57, 3), (44, .istore 5, 2), (46, .aload_n 0, 1), (47, .getfield 20, 3), (50, .ifCond .ne 12, 3), (53, .iload 5, 2), (55, .invokestatic 72, 3), (58, .iload_n 1, 1), (59, .if_icmp .eq 4, 3), (62, .return_, 1), (63, .aload_n 0, 1), (64, .dup, 1), (65, .getfield 17, 3), (68, .iconst 1, 1), (69, .iadd, 1), (70, .putfield 17, 3), (73, .aload_n 0, 1), (74, .iload_n 1, 1), (75, .iconst 1, 1), (76, .iadd, 1), (77, .iload_n 2, 1), (78, .invokevirtual 61, 3), (81, .aload_n 0, 1), (82, .iload 5, 2), (84, .iconst 0, 1), (85, .invokevirtual 65, 3), (88, .pop, 1), (89, .iinc 4 1, 3), (92, .goto (-58), 3), (95, .return_, 1)]
set_option maxRecDepth 20000 in
theorem DX4_readLevel : ∀ q ∈ kX4_readLevel, decode mX4_readLevel.2.1 q.1 = .ok (q.2.1, q.2.2) := by decide +kernel
def kX4_levelOf : List (Nat × Instr × Nat) := [(0, .iload_n 0, 1), (1, .lookupswitch 101 #[(37, 99), (38, 93), (42, 99), (43, 97), (45, 97), (47, 99), (60, 95), (61, 95), (62, 95), (124, 91)], 91), (92, .iconst 0, 1), (93, .ireturn, 1), (94, .iconst 1, 1), (95, .ireturn, 1), (96, .iconst 2, 1), (97, .ireturn, 1), (98, .iconst 3, 1), (99, .ireturn, 1), (100, .iconst 4, 1), (101, .ireturn, 1), (102, .iconst (-1), 1), (103, .ireturn, 1)]
set_option maxRecDepth 20000 in
theorem DX4_levelOf : ∀ q ∈ kX4_levelOf, decode mX4_levelOf.2.1 q.1 = .ok (q.2.1, q.2.2) := by decide +kernel
def kX4_readOperand : List (Nat × Instr × Nat) := [(0, .aload_n 0, 1), (1, .invokevirtual 57, 3), (4, .istore_n 2, 1), (5, .iload_n 2, 1), (6, .invokestatic 76, 3), (9, .ifCond .eq 10, 3), (12, .aload_n 0, 1), (13, .invokevirtual 80, 3), (16, .goto 158, 3), (19, .iload_n 2, 1), (20, .invokestatic 83, 3), (23, .ifCond .eq 23, 3), (26, .aload_n 0, 1), (27, .dup, 1), (28, .getfield 17, 3), (31, .iconst 1, 1), (32, .iadd, 1), (33, .putfield 17, 3), (36, .aload_n 0, 1), (37, .iload_n 2, 1), (38, .iconst 0, 1), (39, .invokevirtual 65, 3), (42, .pop, 1), (43, .goto 131, 3), (46, .iload_n 1, 1), (47, .bipush 6, 2), (49, .if_icmp .ge 21, 3), (52, .iload_n 2, 1), (53, .bipush 40, 2), (55, .if_icmp .eq 23, 3), (58, .iload_n 2, 1), (59, .bipush 33, 2), (61, .if_icmp .eq 17, 3), (64, .iload_n 2, 1), (65, .bipush 45, 2), (67, .if_icmp .eq 11, 3), (70, .aload_n 0, 1), (71, .iconst 1, 1), (72, .putfield 20, 3), (75, .goto 99, 3), (78, .iload_n 2, 1), (79, .bipush 40, 2), (81, .if_icmp .ne 58, 3), (84, .aload_n 0, 1), (85, .dup, 1), (86, .getfield 17, 3), (89, .iconst 1, 1), (90, .iadd, 1), (91, .putfield 17, 3), (94, .aload_n 0, 1), (95, .iconst 0, 1), (96, .iload_n 1, 1), (97, .iconst 1, 1), (98, .iadd, 1), (99, .invokevirtual 61, 3), (102, .aload_n 0, 1), (103, .getfield 20, 3), (106, .ifCond .ne 12, 3), (109, .aload_n 0, 1), (110, .invokevirtual 57, 3), (113, .bipush 41, 2), (115, .if_icmp .eq 11, 3), (118, .aload_n 0, 1), (119, .iconst 1, 1), (120, .putfield 20, 3), (123, .goto 51, 3), (126, .aload_n 0, 1), (127, .dup, 1), (128, .getfield 17, 3), (131, .iconst 1, 1), (132, .iadd, 1), (133, .putfield 17, 3), (136, .goto 38, 3), (139, .aload_n 0, 1), (140, .dup, 1), (141, .getfield 17, 3), (144, .iconst 1, 1), (145, .iadd, 1), (146, .putfield 17, 3), (149, .aload_n 0, 1), (150, .iload_n 1, 1), (151, .iconst 1, 1), (152, .iadd, 1), (153, .invokevirtual 68, 3), (156, .aload_n 0, 1), (157, .iload_n 2, 1), (158, .bipush 45, 2), (160, .if_icmp .ne 8, 3), (163, .bipush 109, 2), (165, .goto 4, 3), (168, .iload_n 2, 1), (169, .iconst 0, 1), (170, .invokevirtual 65, 3), (173, .pop, 1), (174, .return_, 1)]
set_option maxRecDepth 20000 in
theorem DX4_readOperand : ∀ q ∈ kX4_readOperand, decode mX4_readOperand.2.1 q.1 = .ok (q.2.1, q.2.2) := by decide +kernel
def kX4_isDigit : List (Nat × Instr × Nat) := [(0, .iload_n 0, 1), (1, .bipush 48, 2), (3, .bipush 57, 2), (5, .invokestatic 86, 3), (8, .ireturn, 1)]
set_option maxRecDepth 20000 in
theorem DX4_isDigit : ∀ q ∈ kX4_isDigit, decode mX4_isDigit.2.1 q.1 = .ok (q.2.1, q.2.2) := by decide +kernel
def kX4_isName : List (Nat × Instr × Nat) := [(0, .iload_n 0, 1), (1, .bipush 100, 2), (3, .if_icmp .eq 27, 3), (6, .iload_n 0, 1), (7, .bipush 116, 2), (9, .if_icmp .eq 21, 3), (12, .iload_n 0, 1), (13, .bipush 111, 2), (15, .if_icmp .eq 15, 3), (18, .iload_n 0, 1), (19, .bipush 97, 2), (21, .if_icmp .eq 9, 3), (24, .iload_n 0, 1), (25, .bipush 98, 2), (27, .if_icmp .ne 7, 3), (30, .iconst 1, 1), (31, .goto 4, 3), (34, .iconst 0, 1), (35, .ireturn, 1)]
set_option maxRecDepth 20000 in
theorem DX4_isName : ∀ q ∈ kX4_isName, decode mX4_isName.2.1 q.1 = .ok (q.2.1, q.2.2) := by decide +kernel
def kX4_readNumber : List (Nat × Instr × Nat) := [(0, .iconst 0, 1), (1, .istore_n 1, 1), (2, .iconst 0, 1), (3, .istore_n 2, 1), (4, .iload_n 2, 1), (5, .iconst 4, 1), (6, .if_icmp .ge 42, 3), (9, .aload_n 0, 1), (10, .invokevirtual 57, 3), (13, .invokestatic 76, 3), (16, .ifCond .eq 32, 3), (19, .iload_n 1, 1), (20, .bipush 10, 2), (22, .imul, 1), (23, .aload_n 0, 1), (24, .invokevirtual 57, 3), (27, .iadd, 1), (28, .bipush 48, 2), (30, .isub, 1), (31, .istore_n 1, 1), (32, .aload_n 0, 1), (33, .dup, 1), (34, .getfield 17, 3), (37, .iconst 1, 1), (38, .iadd, 1), (39, .putfield 17, 3), (42, .iinc 2 1, 3), (45, .goto (-41), 3), (48, .aload_n 0, 1), (49, .bipush 110, 2), (51, .iload_n 1, 1), (52, .invokevirtual 65, 3), (55, .pop, 1), (56, .return_, 1)]
set_option maxRecDepth 20000 in
theorem DX4_readNumber : ∀ q ∈ kX4_readNumber, decode mX4_readNumber.2.1 q.1 = .ok (q.2.1, q.2.2) := by decide +kernel
def kX4_worth : List (Nat × Instr × Nat) := [(0, .iconst 0, 1), (1, .istore 6, 2), (3, .iconst 0, 1), (4, .istore 7, 2), (6, .iload 7, 2), (8, .aload_n 0, 1), (9, .getfield 30, 3), (12, .if_icmp .ge 270, 3), (15, .aload_n 0, 1), (16, .getfield 24, 3), (19, .iload 7, 2), (21, .iaload, 1), (22, .istore 8, 2), (24, .iload 8, 2), (26, .bipush 59, 2), (28, .if_icmp .ne 22, 3), (31, .iload 6, 2), (33, .ifCond .le 15, 3), (36, .aload_n 0, 1), (37, .getfield 42, 3), (40, .iload 6, 2), (42, .iconst 1, 1), (43, .isub, 1), (44, .iaload, 1), (45, .goto 4, 3), (48, .iconst 0, 1), (49, .ireturn, 1), (50, .iload 8, 2), (52, .bipush 63, 2), (54, .if_icmp .ne 52, 3), (57, .iload 6, 2), (59, .ifCond .le 19, 3), (62, .aload_n 0, 1), (63, .getfield 42, 3), (66, .iload 6, 2), (68, .iconst 1, 1), (69, .isub, 1), (70, .iaload, 1), (71, .ifCond .eq 7, 3), (74, .iconst 1, 1), (75, .goto 4, 3), (78, .iconst 0, 1), (79, .istore 9, 2), (81, .iconst 0, 1), (82, .istore 6, 2), (84, .iload 9, 2), (86, .ifCond .ne 17, 3), (89, .iload 7, 2), (91, .aload_n 0, 1), (92, .getfield 27, 3), (95, .iload 7, 2), (97, .iaload, 1), (98, .invokestatic 92, 3), (101, .istore 7, 2), (103, .goto 173, 3), (106, .iload 8, 2), (108, .bipush 109, 2), (110, .if_icmp .eq 10, 3), (113, .iload 8, 2), (115, .bipush 33, 2), (117, .if_icmp .ne 60, 3), (120, .iload 6, 2), (122, .ifCond .le 154, 3), (125, .aload_n 0, 1), (126, .getfield 42, 3), (129, .iload 6, 2), (131, .iconst 1, 1), (132, .isub, 1), (133, .iload 8, 2), (135, .bipush 33, 2), (137, .if_icmp .ne 26, 3), (140, .aload_n 0, 1), (141, .getfield 42, 3), (144, .iload 6, 2), (146, .iconst 1, 1), (147, .isub, 1), (148, .iaload, 1), (149, .ifCond .ne 7, 3), (152, .iconst 1, 1), (153, .goto 4, 3), (156, .iconst 0, 1), (157, .invokestatic 95, 3), (160, .goto 13, 3), (163, .aload_n 0, 1), (164, .getfield 42, 3), (167, .iload 6, 2), (169, .iconst 1, 1), (170, .isub, 1), (171, .iaload, 1), (172, .ineg, 1), (173, .iastore, 1), (174, .goto 102, 3), (177, .iload 8, 2), (179, .invokestatic 72, 3), (182, .ifCond .lt 45, 3), (185, .iload 6, 2), (187, .iconst 1, 1), (188, .if_icmp .le 88, 3), (191, .iinc 6 (-1), 3), (194, .aload_n 0, 1), (195, .getfield 42, 3), (198, .iload 6, 2), (200, .iconst 1, 1), (201, .isub, 1), (202, .iload 8, 2), (204, .aload_n 0, 1), (205, .getfield 42, 3), (208, .iload 6, 2), (210, .iconst 1, 1), (211, .isub, 1), (212, .iaload, 1), (213, .aload_n 0, 1), (214, .getfield 42, 3), (217, .iload 6, 2), (219, .iaload, 1), (220, .invokestatic 99, 3), (223, .iastore, 1), (224, .goto 52, 3), (227, .iload 6, 2), (229, .aload_n 0, 1), (230, .getfield 42, 3), (233, .arraylength, 1), (234, .if_icmp .ge 42, 3), (237, .aload_n 0, 1), (238, .getfield 42, 3), (241, .iload 6, 2), (243, .iload 8, 2), (245, .bipush 110, 2), (247, .if_icmp .ne 13, 3), (250, .aload_n 0, 1), (251, .getfield 27, 3), (254, .iload 7, 2), (256, .iaload, 1), (257, .goto 15, 3), (260, .iload 8, 2), (262, .iload_n 1, 1), (263, .iload_n 2, 1), (264, .iload_n 3, 1), (265, .iload 4, 2), (267, .iload 5, 2), (269, .invokestatic 103, 3), (272, .iastore, 1), (273, .iinc 6 1, 3), (276, .iinc 7 1, 3), (279, .goto (-273), 3), (282, .iconst 0, 1), (283, .ireturn, 1)]
set_option maxRecDepth 20000 in
theorem DX4_worth : ∀ q ∈ kX4_worth, decode mX4_worth.2.1 q.1 = .ok (q.2.1, q.2.2) := by decide +kernel
def kX4_named : List (Nat × Instr × Nat) := [(0, .iload_n 0, 1), (1, .lookupswitch 52 #[(97, 49), (100, 43), (111, 47), (116, 45)], 43), (44, .iload_n 1, 1), (45, .ireturn, 1), (46, .iload_n 2, 1), (47, .ireturn, 1), (48, .iload_n 3, 1), (49, .ireturn, 1), (50, .iload 4, 2), (52, .ireturn, 1), (53, .iload 5, 2), (55, .ireturn, 1)]
set_option maxRecDepth 20000 in
theorem DX4_named : ∀ q ∈ kX4_named, decode mX4_named.2.1 q.1 = .ok (q.2.1, q.2.2) := by decide +kernel
def kX4_truth : List (Nat × Instr × Nat) := [(0, .iload_n 0, 1), (1, .ifCond .eq 7, 3), (4, .iconst 1, 1), (5, .goto 4, 3), (8, .iconst 0, 1), (9, .ireturn, 1)]
set_option maxRecDepth 20000 in
theorem DX4_truth : ∀ q ∈ kX4_truth, decode mX4_truth.2.1 q.1 = .ok (q.2.1, q.2.2) := by decide +kernel
def kX4_joined : List (Nat × Instr × Nat) := [(0, .iload_n 0, 1), (1, .lookupswitch 183 #[(38, 100), (42, 167), (43, 159), (45, 163), (47, 171), (60, 117), (61, 131), (62, 145), (124, 83)], 83), (84, .iload_n 1, 1), (85, .ifCond .ne 7, 3), (88, .iload_n 2, 1), (89, .ifCond .eq 7, 3), (92, .iconst 1, 1), (93, .goto 4, 3), (96, .iconst 0, 1), (97, .invokestatic 95, 3), (100, .ireturn, 1), (101, .iload_n 1, 1), (102, .ifCond .eq 11, 3), (105, .iload_n 2, 1), (106, .ifCond .eq 7, 3), (109, .iconst 1, 1), (110, .goto 4, 3), (113, .iconst 0, 1), (114, .invokestatic 95, 3), (117, .ireturn, 1), (118, .iload_n 1, 1), (119, .iload_n 2, 1), (120, .if_icmp .ge 7, 3), (123, .iconst 1, 1), (124, .goto 4, 3), (127, .iconst 0, 1), (128, .invokestatic 95, 3), (131, .ireturn, 1), (132, .iload_n 1, 1), (133, .iload_n 2, 1), (134, .if_icmp .ne 7, 3), (137, .iconst 1, 1), (138, .goto 4, 3), (141, .iconst 0, 1), (142, .invokestatic 95, 3), (145, .ireturn, 1), (146, .iload_n 1, 1), (147, .iload_n 2, 1), (148, .if_icmp .le 7, 3), (151, .iconst 1, 1), (152, .goto 4, 3), (155, .iconst 0, 1), (156, .invokestatic 95, 3), (159, .ireturn, 1), (160, .iload_n 1, 1), (161, .iload_n 2, 1), (162, .iadd, 1), (163, .ireturn, 1), (164, .iload_n 1, 1), (165, .iload_n 2, 1), (166, .isub, 1), (167, .ireturn, 1), (168, .iload_n 1, 1), (169, .iload_n 2, 1), (170, .imul, 1), (171, .ireturn, 1), (172, .iload_n 2, 1), (173, .ifCond .ne 7, 3), (176, .iconst 0, 1), (177, .goto 6, 3), (180, .iload_n 1, 1), (181, .iload_n 2, 1), (182, .idiv, 1), (183, .ireturn, 1), (184, .iload_n 2, 1), (185, .ifCond .ne 7, 3), (188, .iconst 0, 1), (189, .goto 6, 3), (192, .iload_n 1, 1), (193, .iload_n 2, 1), (194, .irem, 1), (195, .ireturn, 1)]
set_option maxRecDepth 20000 in
theorem DX4_joined : ∀ q ∈ kX4_joined, decode mX4_joined.2.1 q.1 = .ok (q.2.1, q.2.2) := by decide +kernel
def kX5_init : List (Nat × Instr × Nat) := [(0, .aload_n 0, 1), (1, .invokespecial 3, 3), (4, .aload_n 0, 1), (5, .bipush 33, 2), (7, .newarray .int, 2), (9, .putfield 9, 3), (12, .aload_n 0, 1), (13, .bipush 16, 2), (15, .newarray .int, 2), (17, .putfield 15, 3), (20, .aload_n 0, 1), (21, .bipush 33, 2), (23, .newarray .int, 2), (25, .putfield 18, 3), (28, .aload_n 0, 1), (29, .aload_n 1, 1), (30, .putfield 21, 3), (33, .return_, 1)]
set_option maxRecDepth 20000 in
theorem DX5_init : ∀ q ∈ kX5_init, decode mX5_init.2.1 q.1 = .ok (q.2.1, q.2.2) := by decide +kernel
def kX5_agreed : List (Nat × Instr × Nat) := [(0, .aload_n 0, 1), (1, .getfield 21, 3), (4, .getfield 25, 3), (7, .iload_n 1, 1), (8, .iaload, 1), (9, .istore_n 3, 1), (10, .aload_n 0, 1), (11, .getfield 21, 3), (14, .getfield 30, 3), (17, .iload_n 1, 1), (18, .iaload, 1), (19, .istore 4, 2), (21, .aload_n 0, 1), (22, .getfield 21, 3), (25, .getfield 33, 3), (28, .iload_n 3, 1), (29, .iaload, 1), (30, .iconst 1, 1), (31, .if_icmp .ne 40, 3), (34, .aload_n 0, 1), (35, .getfield 21, 3), (38, .getfield 33, 3), (41, .iload 4, 2), (43, .iaload, 1), (44, .iconst 1, 1), (45, .if_icmp .ne 26, 3), (48, .aload_n 0, 1), (49, .getfield 21, 3), (52, .getfield 36, 3), (55, .iload_n 3, 1), (56, .iaload, 1), (57, .aload_n 0, 1), (58, .getfield 21, 3), (61, .getfield 36, 3), (64, .iload 4, 2), (66, .iaload, 1), (67, .iadd, 1), (68, .iconst 2, 1), (69, .idiv, 1), (70, .ireturn, 1), (71, .aload_n 0, 1), (72, .getfield 21, 3), (75, .getfield 33, 3), (78, .iload_n 3, 1), (79, .iaload, 1), (80, .iconst 1, 1), (81, .if_icmp .ne 13, 3), (84, .aload_n 0, 1), (85, .getfield 21, 3), (88, .getfield 36, 3), (91, .iload_n 3, 1), (92, .iaload, 1), (93, .ireturn, 1), (94, .aload_n 0, 1), (95, .getfield 21, 3), (98, .getfield 33, 3), (101, .iload 4, 2), (103, .iaload, 1), (104, .iconst 1, 1), (105, .if_icmp .ne 16, 3), (108, .aload_n 0, 1), (109, .getfield 21, 3), (112, .getfield 36, 3), (115, .iload 4, 2), (117, .iaload, 1), (118, .goto 4, 3), (121, .iload_n 2, 1), (122, .ireturn, 1)]
set_option maxRecDepth 20000 in
theorem DX5_agreed : ∀ q ∈ kX5_agreed, decode mX5_agreed.2.1 q.1 = .ok (q.2.1, q.2.2) := by decide +kernel
def kX5_settle : List (Nat × Instr × Nat) := [(0, .aload_n 0, 1), (1, .getfield 21, 3), (4, .getfield 39, 3), (7, .iconst 0, 1), (8, .aload_n 0, 1), (9, .getfield 9, 3), (12, .iconst 0, 1), (13, .bipush 33, 2), (15, .invokestatic 40, 3), (18, .iconst 0, 1), (19, .istore_n 1, 1), (20, .iload_n 1, 1), (21, .bipush 16, 2), (23, .if_icmp .ge 27, 3), (26, .aload_n 0, 1), (27, .getfield 15, 3), (30, .iload_n 1, 1), (31, .aload_n 0, 1), (32, .getfield 21, 3), (35, .iload_n 1, 1), (36, .aload_n 0, 1), (37, .getfield 9, 3), (40, .invokevirtual 46, 3), (43, .iastore, 1), (44, .iinc 1 1, 3), (47, .goto (-27), 3), (50, .iconst 0, 1), (51, .istore_n 1, 1), (52, .iload_n 1, 1), (53, .bipush 99, 2), (55, .if_icmp .gt 18, 3), (58, .aload_n 0, 1), (59, .invokevirtual 49, 3), (62, .ifCond .ne 5, 3), (65, .iload_n 1, 1), (66, .ireturn, 1), (67, .iinc 1 1, 3), (70, .goto (-18), 3), (73, .bipush (-2), 2), (75, .ireturn, 1)]
set_option maxRecDepth 20000 in
theorem DX5_settle : ∀ q ∈ kX5_settle, decode mX5_settle.2.1 q.1 = .ok (q.2.1, q.2.2) := by decide +kernel
def kX5_thickThen : List (Nat × Instr × Nat) := [(0, .aload_n 0, 1), (1, .getfield 9, 3), (4, .iload_n 1, 1), (5, .iaload, 1), (6, .ireturn, 1)]
set_option maxRecDepth 20000 in
theorem DX5_thickThen : ∀ q ∈ kX5_thickThen, decode mX5_thickThen.2.1 q.1 = .ok (q.2.1, q.2.2) := by decide +kernel
def kX5_goRound : List (Nat × Instr × Nat) := [(0, .iconst 0, 1), (1, .istore_n 1, 1), (2, .iconst 0, 1), (3, .istore_n 2, 1), (4, .iload_n 2, 1), (5, .bipush 33, 2), (7, .if_icmp .ge 130, 3), (10, .aload_n 0, 1), (11, .iload_n 2, 1), (12, .aload_n 0, 1), (13, .getfield 9, 3), (16, .iload_n 2, 1), (17, .iaload, 1), (18, .invokevirtual 53, 3), (21, .aload_n 0, 1), (22, .getfield 9, 3), (25, .iload_n 2, 1), (26, .iaload, 1), (27, .invokestatic 57, 3), (30, .istore_n 3, 1), (31, .aload_n 0, 1), (32, .getfield 21, 3), (35, .getfield 25, 3), (38, .iload_n 2, 1), (39, .iaload, 1), (40, .istore 4, 2), (42, .aload_n 0, 1), (43, .getfield 21, 3), (46, .getfield 30, 3), (49, .iload_n 2, 1), (50, .iaload, 1), (51, .istore 5, 2), (53, .iload_n 3, 1), (54, .ifCond .le 39, 3), (57, .aload_n 0, 1), (58, .getfield 15, 3), (61, .iload 4, 2), (63, .iaload, 1), (64, .aload_n 0, 1), (65, .getfield 21, 3), (68, .getfield 62, 3), (71, .if_icmp .ge 20, 3), (74, .aload_n 0, 1), (75, .getfield 15, 3), (78, .iload 5, 2), (80, .iaload, 1), (81, .aload_n 0, 1), (82, .getfield 21, 3), (85, .getfield 62, 3), (88, .if_icmp .lt 5, 3), (91, .iconst 0, 1), (92, .istore_n 3, 1), (93, .aload_n 0, 1), (94, .getfield 9, 3), (97, .iload_n 2, 1), (98, .dup2, 1), (99, .iaload, 1), (100, .iload_n 3, 1), (101, .iadd, 1), (102, .iastore, 1), (103, .aload_n 0, 1), (104, .getfield 15, 3), (107, .iload 4, 2), (109, .dup2, 1), (110, .iaload, 1), (111, .iload_n 3, 1), (112, .iadd, 1), (113, .iastore, 1), (114, .aload_n 0, 1), (115, .getfield 15, 3), (118, .iload 5, 2), (120, .dup2, 1), (121, .iaload, 1), (122, .iload_n 3, 1), (123, .iadd, 1), (124, .iastore, 1), (125, .iload_n 3, 1), (126, .ifCond .eq 5, 3), (129, .iconst 1, 1), (130, .istore_n 1, 1), (131, .iinc 2 1, 3), (134, .goto (-130), 3), (137, .iload_n 1, 1), (138, .ireturn, 1)]
set_option maxRecDepth 20000 in
theorem DX5_goRound : ∀ q ∈ kX5_goRound, decode mX5_goRound.2.1 q.1 = .ok (q.2.1, q.2.2) := by decide +kernel
def kX5_clashes : List (Nat × Instr × Nat) := [(0, .aload_n 0, 1), (1, .aload_n 0, 1), (2, .getfield 21, 3), (5, .getfield 66, 3), (8, .invokevirtual 69, 3), (11, .ireturn, 1)]
set_option maxRecDepth 20000 in
theorem DX5_clashes : ∀ q ∈ kX5_clashes, decode mX5_clashes.2.1 q.1 = .ok (q.2.1, q.2.2) := by decide +kernel
def kX5_clashesOf : List (Nat × Instr × Nat) := [(0, .iconst 0, 1), (1, .istore_n 2, 1), (2, .iconst 0, 1), (3, .istore_n 3, 1), (4, .iload_n 3, 1), (5, .bipush 33, 2), (7, .if_icmp .ge 21, 3), (10, .iload_n 2, 1), (11, .aload_n 0, 1), (12, .iload_n 3, 1), (13, .aload_n 1, 1), (14, .iload_n 3, 1), (15, .iaload, 1), (16, .aload_n 1, 1), (17, .invokevirtual 73, 3), (20, .iadd, 1), (21, .istore_n 2, 1), (22, .iinc 3 1, 3), (25, .goto (-21), 3), (28, .iload_n 2, 1), (29, .iconst 2, 1), (30, .idiv, 1), (31, .ireturn, 1)]
set_option maxRecDepth 20000 in
theorem DX5_clashesOf : ∀ q ∈ kX5_clashesOf, decode mX5_clashesOf.2.1 q.1 = .ok (q.2.1, q.2.2) := by decide +kernel
def kX5_alike : List (Nat × Instr × Nat) := [(0, .aload_n 0, 1), (1, .aload_n 0, 1), (2, .getfield 21, 3), (5, .getfield 25, 3), (8, .iload_n 1, 1), (9, .iaload, 1), (10, .iload_n 1, 1), (11, .iload_n 2, 1), (12, .aload_n 3, 1), (13, .invokevirtual 77, 3), (16, .aload_n 0, 1), (17, .aload_n 0, 1), (18, .getfield 21, 3), (21, .getfield 30, 3), (24, .iload_n 1, 1), (25, .iaload, 1), (26, .iload_n 1, 1), (27, .iload_n 2, 1), (28, .aload_n 3, 1), (29, .invokevirtual 77, 3), (32, .iadd, 1), (33, .ireturn, 1)]
set_option maxRecDepth 20000 in
theorem DX5_alike : ∀ q ∈ kX5_alike, decode mX5_alike.2.1 q.1 = .ok (q.2.1, q.2.2) := by decide +kernel
def kX5_alikeIn : List (Nat × Instr × Nat) := [(0, .iconst 0, 1), (1, .istore 5, 2), (3, .iconst 0, 1), (4, .istore 6, 2), (6, .iload 6, 2), (8, .aload_n 0, 1), (9, .getfield 21, 3), (12, .getfield 81, 3), (15, .iload_n 1, 1), (16, .iaload, 1), (17, .if_icmp .ge 44, 3), (20, .aload_n 0, 1), (21, .getfield 21, 3), (24, .getfield 84, 3), (27, .iload_n 1, 1), (28, .bipush 6, 2), (30, .imul, 1), (31, .iload 6, 2), (33, .iadd, 1), (34, .iaload, 1), (35, .istore 7, 2), (37, .iload 7, 2), (39, .iload_n 2, 1), (40, .if_icmp .eq 15, 3), (43, .aload 4, 2), (45, .iload 7, 2), (47, .iaload, 1), (48, .iload_n 3, 1), (49, .if_icmp .ne 6, 3), (52, .iinc 5 1, 3), (55, .iinc 6 1, 3), (58, .goto (-52), 3), (61, .iload 5, 2), (63, .ireturn, 1)]
set_option maxRecDepth 20000 in
theorem DX5_alikeIn : ∀ q ∈ kX5_alikeIn, decode mX5_alikeIn.2.1 q.1 = .ok (q.2.1, q.2.2) := by decide +kernel
def kX5_calmest : List (Nat × Instr × Nat) := [(0, .iconst 0, 1), (1, .istore_n 3, 1), (2, .iconst 1, 1), (3, .istore 4, 2), (5, .iload 4, 2), (7, .bipush 6, 2), (9, .if_icmp .ge 30, 3), (12, .aload_n 0, 1), (13, .iload_n 1, 1), (14, .iload 4, 2), (16, .aload_n 2, 1), (17, .invokevirtual 73, 3), (20, .aload_n 0, 1), (21, .iload_n 1, 1), (22, .iload_n 3, 1), (23, .aload_n 2, 1), (24, .invokevirtual 73, 3), (27, .if_icmp .ge 6, 3), (30, .iload 4, 2), (32, .istore_n 3, 1), (33, .iinc 4 1, 3), (36, .goto (-31), 3), (39, .iload_n 3, 1), (40, .ireturn, 1)]
set_option maxRecDepth 20000 in
theorem DX5_calmest : ∀ q ∈ kX5_calmest, decode mX5_calmest.2.1 q.1 = .ok (q.2.1, q.2.2) := by decide +kernel
def kX5_calmed : List (Nat × Instr × Nat) := [(0, .aload_n 0, 1), (1, .getfield 21, 3), (4, .getfield 66, 3), (7, .iconst 0, 1), (8, .aload_n 0, 1), (9, .getfield 18, 3), (12, .iconst 0, 1), (13, .bipush 33, 2), (15, .invokestatic 40, 3), (18, .iconst 0, 1), (19, .istore_n 1, 1), (20, .iload_n 1, 1), (21, .bipush 33, 2), (23, .if_icmp .ge 24, 3), (26, .aload_n 0, 1), (27, .getfield 18, 3), (30, .iload_n 1, 1), (31, .aload_n 0, 1), (32, .iload_n 1, 1), (33, .aload_n 0, 1), (34, .getfield 18, 3), (37, .invokevirtual 87, 3), (40, .iastore, 1), (41, .iinc 1 1, 3), (44, .goto (-24), 3), (47, .aload_n 0, 1), (48, .aload_n 0, 1), (49, .getfield 18, 3), (52, .invokevirtual 69, 3), (55, .ireturn, 1)]
set_option maxRecDepth 20000 in
theorem DX5_calmed : ∀ q ∈ kX5_calmed, decode mX5_calmed.2.1 q.1 = .ok (q.2.1, q.2.2) := by decide +kernel
def kX5_pots : List (Nat × Instr × Nat) := [(0, .iconst 0, 1), (1, .istore_n 1, 1), (2, .iconst 0, 1), (3, .istore_n 2, 1), (4, .iload_n 2, 1), (5, .bipush 33, 2), (7, .if_icmp .ge 23, 3), (10, .iload_n 1, 1), (11, .iconst 1, 1), (12, .aload_n 0, 1), (13, .getfield 21, 3), (16, .getfield 66, 3), (19, .iload_n 2, 1), (20, .iaload, 1), (21, .ishl, 1), (22, .ior, 1), (23, .istore_n 1, 1), (24, .iinc 2 1, 3), (27, .goto (-23), 3), (30, .iload_n 1, 1), (31, .invokestatic 90, 3), (34, .ireturn, 1)]
set_option maxRecDepth 20000 in
theorem DX5_pots : ∀ q ∈ kX5_pots, decode mX5_pots.2.1 q.1 = .ok (q.2.1, q.2.2) := by decide +kernel
def kX6_init : List (Nat × Instr × Nat) := [(0, .aload_n 0, 1), (1, .invokespecial 3, 3), (4, .aload_n 0, 1), (5, .bipush 6, 2), (7, .newarray .int, 2), (9, .putfield 11, 3), (12, .aload_n 0, 1), (13, .bipush 6, 2), (15, .newarray .int, 2), (17, .putfield 15, 3), (20, .aload_n 0, 1), (21, .bipush 6, 2), (23, .newarray .int, 2), (25, .putfield 18, 3), (28, .aload_n 0, 1), (29, .bipush 6, 2), (31, .bipush 60, 2), (33, .multianewarray 21 2, 4), (37, .putfield 23, 3), (40, .iconst 0, 1), (41, .istore_n 1, 1), (42, .iload_n 1, 1), (43, .bipush 6, 2), (45, .if_icmp .ge 16, 3), (48, .aload_n 0, 1), (49, .getfield 11, 3), (52, .iload_n 1, 1), (53, .iconst (-1), 1), (54, .iastore, 1), (55, .iinc 1 1, 3), (58, .goto (-16), 3), (61, .return_, 1)]
set_option maxRecDepth 20000 in
theorem DX6_init : ∀ q ∈ kX6_init, decode mX6_init.2.1 q.1 = .ok (q.2.1, q.2.2) := by decide +kernel
def kX6_isShelf : List (Nat × Instr × Nat) := [(0, .iload_n 1, 1), (1, .ifCond .lt 13, 3), (4, .iload_n 1, 1), (5, .bipush 6, 2), (7, .if_icmp .ge 7, 3), (10, .iconst 1, 1), (11, .goto 4, 3), (14, .iconst 0, 1), (15, .ireturn, 1)]
set_option maxRecDepth 20000 in
theorem DX6_isShelf : ∀ q ∈ kX6_isShelf, decode mX6_isShelf.2.1 q.1 = .ok (q.2.1, q.2.2) := by decide +kernel
def kX6_isSort : List (Nat × Instr × Nat) := [(0, .iload_n 1, 1), (1, .ifCond .lt 12, 3), (4, .iload_n 1, 1), (5, .iconst 4, 1), (6, .if_icmp .gt 7, 3), (9, .iconst 1, 1), (10, .goto 4, 3), (13, .iconst 0, 1), (14, .ireturn, 1)]
set_option maxRecDepth 20000 in
theorem DX6_isSort : ∀ q ∈ kX6_isSort, decode mX6_isSort.2.1 q.1 = .ok (q.2.1, q.2.2) := by decide +kernel
def kX6_isBare : List (Nat × Instr × Nat) := [(0, .aload_n 0, 1), (1, .getfield 11, 3), (4, .iload_n 1, 1), (5, .iaload, 1), (6, .iconst (-1), 1), (7, .if_icmp .ne 7, 3), (10, .iconst 1, 1), (11, .goto 4, 3), (14, .iconst 0, 1), (15, .ireturn, 1)]
set_option maxRecDepth 20000 in
theorem DX6_isBare : ∀ q ∈ kX6_isBare, decode mX6_isBare.2.1 q.1 = .ok (q.2.1, q.2.2) := by decide +kernel
def kX6_mayBeBytes : List (Nat × Instr × Nat) := [(0, .aload_n 0, 1), (1, .getfield 11, 3), (4, .iload_n 1, 1), (5, .iaload, 1), (6, .iconst (-1), 1), (7, .if_icmp .eq 12, 3), (10, .aload_n 0, 1), (11, .getfield 11, 3), (14, .iload_n 1, 1), (15, .iaload, 1), (16, .ifCond .ne 7, 3), (19, .iconst 1, 1), (20, .goto 4, 3), (23, .iconst 0, 1), (24, .ireturn, 1)]
set_option maxRecDepth 20000 in
theorem DX6_mayBeBytes : ∀ q ∈ kX6_mayBeBytes, decode mX6_mayBeBytes.2.1 q.1 = .ok (q.2.1, q.2.2) := by decide +kernel
def kX6_cellOn : List (Nat × Instr × Nat) := [(0, .aload_n 0, 1), (1, .getfield 11, 3), (4, .iload_n 1, 1), (5, .iaload, 1), (6, .iconst 5, 1), (7, .if_icmp .ne 12, 3), (10, .aload_n 0, 1), (11, .getfield 15, 3), (14, .iload_n 1, 1), (15, .iaload, 1), (16, .goto 4, 3), (19, .iconst (-1), 1), (20, .ireturn, 1)]
set_option maxRecDepth 20000 in
theorem DX6_cellOn : ∀ q ∈ kX6_cellOn, decode mX6_cellOn.2.1 q.1 = .ok (q.2.1, q.2.2) := by decide +kernel
def kX6_hold : List (Nat × Instr × Nat) := [(0, .aload_n 0, 1), (1, .getfield 11, 3), (4, .iload_n 1, 1), (5, .iload_n 2, 1), (6, .ifCond .ge 7, 3), (9, .iconst (-1), 1), (10, .goto 4, 3), (13, .iconst 5, 1), (14, .iastore, 1), (15, .aload_n 0, 1), (16, .getfield 15, 3), (19, .iload_n 1, 1), (20, .iload_n 2, 1), (21, .iastore, 1), (22, .aload_n 0, 1), (23, .getfield 18, 3), (26, .iload_n 1, 1), (27, .iconst 0, 1), (28, .iastore, 1), (29, .return_, 1)]
set_option maxRecDepth 20000 in
theorem DX6_hold : ∀ q ∈ kX6_hold, decode mX6_hold.2.1 q.1 = .ok (q.2.1, q.2.2) := by decide +kernel
def kX6_lay : List (Nat × Instr × Nat) := [(0, .aload_n 0, 1), (1, .getfield 11, 3), (4, .iload_n 1, 1), (5, .iload_n 2, 1), (6, .iastore, 1), (7, .aload_n 0, 1), (8, .getfield 18, 3), (11, .iload_n 1, 1), (12, .iload_n 3, 1), (13, .iastore, 1), (14, .iconst 0, 1), (15, .istore 4, 2), (17, .iload 4, 2), (19, .bipush 60, 2), (21, .if_icmp .ge 19, 3), (24, .aload_n 0, 1), (25, .getfield 23, 3), (28, .iload_n 1, 1), (29, .aaload, 1), (30, .iload 4, 2), (32, .lconst 0, 1), (33, .lastore, 1), (34, .iinc 4 1, 3), (37, .goto (-20), 3), (40, .return_, 1)]
set_option maxRecDepth 20000 in
theorem DX6_lay : ∀ q ∈ kX6_lay, decode mX6_lay.2.1 q.1 = .ok (q.2.1, q.2.2) := by decide +kernel
def kX6_hasPlace : List (Nat × Instr × Nat) := [(0, .iload_n 2, 1), (1, .ifCond .lt 17, 3), (4, .iload_n 2, 1), (5, .aload_n 0, 1), (6, .getfield 18, 3), (9, .iload_n 1, 1), (10, .iaload, 1), (11, .if_icmp .ge 7, 3), (14, .iconst 1, 1), (15, .goto 4, 3), (18, .iconst 0, 1), (19, .ireturn, 1)]
set_option maxRecDepth 20000 in
theorem DX6_hasPlace : ∀ q ∈ kX6_hasPlace, decode mX6_hasPlace.2.1 q.1 = .ok (q.2.1, q.2.2) := by decide +kernel
def kX6_hasStretch : List (Nat × Instr × Nat) := [(0, .iload_n 2, 1), (1, .ifCond .lt 33, 3), (4, .iload_n 3, 1), (5, .ifCond .lt 29, 3), (8, .iload_n 3, 1), (9, .aload_n 0, 1), (10, .getfield 18, 3), (13, .iload_n 1, 1), (14, .iaload, 1), (15, .if_icmp .gt 19, 3), (18, .iload_n 2, 1), (19, .aload_n 0, 1), (20, .getfield 18, 3), (23, .iload_n 1, 1), (24, .iaload, 1), (25, .iload_n 3, 1), (26, .isub, 1), (27, .if_icmp .gt 7, 3), (30, .iconst 1, 1), (31, .goto 4, 3), (34, .iconst 0, 1), (35, .ireturn, 1)]
set_option maxRecDepth 20000 in
theorem DX6_hasStretch : ∀ q ∈ kX6_hasStretch, decode mX6_hasStretch.2.1 q.1 = .ok (q.2.1, q.2.2) := by decide +kernel
def kX6_refusalOfRow : List (Nat × Instr × Nat) := [(0, .aload_n 0, 1), (1, .iload_n 1, 1), (2, .invokevirtual 26, 3), (5, .ifCond .ne 5, 3), (8, .iconst (-1), 1), (9, .ireturn, 1), (10, .aload_n 0, 1), (11, .getfield 11, 3), (14, .iload_n 1, 1), (15, .iaload, 1), (16, .iconst (-1), 1), (17, .if_icmp .ne 6, 3), (20, .bipush (-11), 2), (22, .ireturn, 1), (23, .aload_n 0, 1), (24, .getfield 11, 3), (27, .iload_n 1, 1), (28, .iaload, 1), (29, .iconst 5, 1), (30, .if_icmp .ne 8, 3), (33, .bipush (-12), 2), (35, .goto 4, 3), (38, .iconst 0, 1), (39, .ireturn, 1)]
set_option maxRecDepth 20000 in
theorem DX6_refusalOfRow : ∀ q ∈ kX6_refusalOfRow, decode mX6_refusalOfRow.2.1 q.1 = .ok (q.2.1, q.2.2) := by decide +kernel
def kX6_refusal : List (Nat × Instr × Nat) := [(0, .aload_n 0, 1), (1, .iload_n 1, 1), (2, .invokevirtual 30, 3), (5, .istore_n 3, 1), (6, .iload_n 3, 1), (7, .ifCond .eq 5, 3), (10, .iload_n 3, 1), (11, .ireturn, 1), (12, .aload_n 0, 1), (13, .iload_n 1, 1), (14, .iload_n 2, 1), (15, .invokevirtual 34, 3), (18, .ifCond .eq 7, 3), (21, .iconst 0, 1), (22, .goto 5, 3), (25, .bipush (-13), 2), (27, .ireturn, 1)]
set_option maxRecDepth 20000 in
theorem DX6_refusal : ∀ q ∈ kX6_refusal, decode mX6_refusal.2.1 q.1 = .ok (q.2.1, q.2.2) := by decide +kernel
def kX6_refusalOfTwo : List (Nat × Instr × Nat) := [(0, .aload_n 0, 1), (1, .iload_n 1, 1), (2, .invokevirtual 30, 3), (5, .istore_n 3, 1), (6, .aload_n 0, 1), (7, .iload_n 2, 1), (8, .invokevirtual 30, 3), (11, .istore 4, 2), (13, .iload_n 3, 1), (14, .iconst (-1), 1), (15, .if_icmp .eq 9, 3), (18, .iload 4, 2), (20, .iconst (-1), 1), (21, .if_icmp .ne 5, 3), (24, .iconst (-1), 1), (25, .ireturn, 1), (26, .iload_n 3, 1), (27, .bipush (-11), 2), (29, .if_icmp .eq 10, 3), (32, .iload 4, 2), (34, .bipush (-11), 2), (36, .if_icmp .ne 6, 3), (39, .bipush (-11), 2), (41, .ireturn, 1), (42, .iload_n 3, 1), (43, .ifCond .ne 23, 3), (46, .iload 4, 2), (48, .ifCond .ne 18, 3), (51, .aload_n 0, 1), (52, .getfield 11, 3), (55, .iload_n 1, 1), (56, .iaload, 1), (57, .aload_n 0, 1), (58, .getfield 11, 3), (61, .iload_n 2, 1), (62, .iaload, 1), (63, .if_icmp .eq 6, 3), (66, .bipush (-12), 2), (68, .ireturn, 1), (69, .iconst 0, 1), (70, .ireturn, 1)]
set_option maxRecDepth 20000 in
theorem DX6_refusalOfTwo : ∀ q ∈ kX6_refusalOfTwo, decode mX6_refusalOfTwo.2.1 q.1 = .ok (q.2.1, q.2.2) := by decide +kernel
def kX6_at : List (Nat × Instr × Nat) := [(0, .aload_n 0, 1), (1, .getfield 23, 3), (4, .iload_n 1, 1), (5, .aaload, 1), (6, .iload_n 2, 1), (7, .laload, 1), (8, .lreturn, 1)]
set_option maxRecDepth 20000 in
theorem DX6_at : ∀ q ∈ kX6_at, decode mX6_at.2.1 q.1 = .ok (q.2.1, q.2.2) := by decide +kernel
def kX6_set : List (Nat × Instr × Nat) := [(0, .aload_n 0, 1), (1, .getfield 23, 3), (4, .iload_n 1, 1), (5, .aaload, 1), (6, .iload_n 2, 1), (7, .aload_n 0, 1), (8, .getfield 11, 3), (11, .iload_n 1, 1), (12, .iaload, 1), (13, .lload_n 3, 1), (14, .invokestatic 38, 3), (17, .lastore, 1), (18, .return_, 1)]
set_option maxRecDepth 20000 in
theorem DX6_set : ∀ q ∈ kX6_set, decode mX6_set.2.1 q.1 = .ok (q.2.1, q.2.2) := by decide +kernel
def kX6_move : List (Nat × Instr × Nat) := [(0, .aload_n 0, 1), (1, .getfield 23, 3), (4, .iload_n 1, 1), (5, .aaload, 1), (6, .iload_n 2, 1), (7, .aload_n 0, 1), (8, .getfield 23, 3), (11, .iload_n 3, 1), (12, .aaload, 1), (13, .iload 4, 2), (15, .iload 5, 2), (17, .invokestatic 42, 3), (20, .return_, 1)]
set_option maxRecDepth 20000 in
theorem DX6_move : ∀ q ∈ kX6_move, decode mX6_move.2.1 q.1 = .ok (q.2.1, q.2.2) := by decide +kernel
def kX6_narrowed : List (Nat × Instr × Nat) := [(0, .iload_n 0, 1), (1, .tableswitch 47 0 3 #[31, 36, 41, 45], 31), (32, .lload_n 1, 1), (33, .l2i, 1), (34, .i2b, 1), (35, .i2l, 1), (36, .lreturn, 1), (37, .lload_n 1, 1), (38, .l2i, 1), (39, .i2s, 1), (40, .i2l, 1), (41, .lreturn, 1), (42, .lload_n 1, 1), (43, .l2i, 1), (44, .i2l, 1), (45, .lreturn, 1), (46, .lload_n 1, 1), (47, .lreturn, 1), (48, .lload_n 1, 1), (49, .lconst 0, 1), (50, .lcmp, 1), (51, .ifCond .eq 7, 3), (54, .lconst 1, 1), (55, .goto 4, 3), (58, .lconst 0, 1), (59, .lreturn, 1)]
set_option maxRecDepth 20000 in
theorem DX6_narrowed : ∀ q ∈ kX6_narrowed, decode mX6_narrowed.2.1 q.1 = .ok (q.2.1, q.2.2) := by decide +kernel
def kX7_init : List (Nat × Instr × Nat) := [(0, .aload_n 0, 1), (1, .invokespecial 3, 3), (4, .aload_n 0, 1), (5, .bipush 16, 2), (7, .newarray .int, 2), (9, .putfield 9, 3), (12, .aload_n 0, 1), (13, .bipush 16, 2), (15, .newarray .int, 2), (17, .putfield 15, 3), (20, .aload_n 0, 1), (21, .aload_n 1, 1), (22, .putfield 18, 3), (25, .return_, 1)]
set_option maxRecDepth 20000 in
theorem DX7_init : ∀ q ∈ kX7_init, decode mX7_init.2.1 q.1 = .ok (q.2.1, q.2.2) := by decide +kernel
def kX7_steps : List (Nat × Instr × Nat) := [(0, .iconst 1, 1), (1, .iload_n 1, 1), (2, .ishl, 1), (3, .istore_n 3, 1), (4, .iconst 0, 1), (5, .istore 4, 2), (7, .iload 4, 2), (9, .bipush 16, 2), (11, .if_icmp .ge 29, 3), (14, .iload_n 3, 1), (15, .iload_n 2, 1), (16, .ishr, 1), (17, .iconst 1, 1), (18, .iand, 1), (19, .iconst 1, 1), (20, .if_icmp .ne 6, 3), (23, .iload 4, 2), (25, .ireturn, 1), (26, .iload_n 3, 1), (27, .aload_n 0, 1), (28, .iload_n 3, 1), (29, .invokevirtual 22, 3), (32, .ior, 1), (33, .istore_n 3, 1), (34, .iinc 4 1, 3), (37, .goto (-30), 3), (40, .bipush (-2), 2), (42, .ireturn, 1)]
set_option maxRecDepth 20000 in
theorem DX7_steps : ∀ q ∈ kX7_steps, decode mX7_steps.2.1 q.1 = .ok (q.2.1, q.2.2) := by decide +kernel
def kX7_besides : List (Nat × Instr × Nat) := [(0, .iconst 0, 1), (1, .istore_n 2, 1), (2, .iconst 0, 1), (3, .istore_n 3, 1), (4, .iload_n 3, 1), (5, .bipush 33, 2), (7, .if_icmp .ge 86, 3), (10, .aload_n 0, 1), (11, .getfield 18, 3), (14, .getfield 26, 3), (17, .iload_n 3, 1), (18, .iaload, 1), (19, .ifCond .ne 6, 3), (22, .goto 65, 3), (25, .iload_n 1, 1), (26, .aload_n 0, 1), (27, .getfield 18, 3), (30, .getfield 31, 3), (33, .iload_n 3, 1), (34, .iaload, 1), (35, .ishr, 1), (36, .iconst 1, 1), (37, .iand, 1), (38, .iconst 1, 1), (39, .if_icmp .ne 17, 3), (42, .iload_n 2, 1), (43, .iconst 1, 1), (44, .aload_n 0, 1), (45, .getfield 18, 3), (48, .getfield 34, 3), (51, .iload_n 3, 1), (52, .iaload, 1), (53, .ishl, 1), (54, .ior, 1), (55, .istore_n 2, 1), (56, .iload_n 1, 1), (57, .aload_n 0, 1), (58, .getfield 18, 3), (61, .getfield 34, 3), (64, .iload_n 3, 1), (65, .iaload, 1), (66, .ishr, 1), (67, .iconst 1, 1), (68, .iand, 1), (69, .iconst 1, 1), (70, .if_icmp .ne 17, 3), (73, .iload_n 2, 1), (74, .iconst 1, 1), (75, .aload_n 0, 1), (76, .getfield 18, 3), (79, .getfield 31, 3), (82, .iload_n 3, 1), (83, .iaload, 1), (84, .ishl, 1), (85, .ior, 1), (86, .istore_n 2, 1), (87, .iinc 3 1, 3), (90, .goto (-86), 3), (93, .iload_n 2, 1), (94, .ireturn, 1)]
set_option maxRecDepth 20000 in
theorem DX7_besides : ∀ q ∈ kX7_besides, decode mX7_besides.2.1 q.1 = .ok (q.2.1, q.2.2) := by decide +kernel
def kX7_gather : List (Nat × Instr × Nat) := [(0, .iconst 0, 1), (1, .istore_n 1, 1), (2, .iload_n 1, 1), (3, .bipush 16, 2), (5, .if_icmp .ge 32, 3), (8, .aload_n 0, 1), (9, .getfield 9, 3), (12, .iload_n 1, 1), (13, .aload_n 0, 1), (14, .getfield 18, 3), (17, .iload_n 1, 1), (18, .invokevirtual 37, 3), (21, .ifCond .eq 8, 3), (24, .bipush 16, 2), (26, .goto 4, 3), (29, .iload_n 1, 1), (30, .iastore, 1), (31, .iinc 1 1, 3), (34, .goto (-32), 3), (37, .iconst 0, 1), (38, .istore_n 1, 1), (39, .iload_n 1, 1), (40, .bipush 33, 2), (42, .if_icmp .ge 54, 3), (45, .aload_n 0, 1), (46, .getfield 18, 3), (49, .getfield 26, 3), (52, .iload_n 1, 1), (53, .iaload, 1), (54, .iconst 1, 1), (55, .if_icmp .ne 35, 3), (58, .aload_n 0, 1), (59, .aload_n 0, 1), (60, .getfield 9, 3), (63, .aload_n 0, 1), (64, .getfield 18, 3), (67, .getfield 31, 3), (70, .iload_n 1, 1), (71, .iaload, 1), (72, .iaload, 1), (73, .aload_n 0, 1), (74, .getfield 9, 3), (77, .aload_n 0, 1), (78, .getfield 18, 3), (81, .getfield 34, 3), (84, .iload_n 1, 1), (85, .iaload, 1), (86, .iaload, 1), (87, .invokevirtual 41, 3), (90, .iinc 1 1, 3), (93, .goto (-54), 3), (96, .return_, 1)]
set_option maxRecDepth 20000 in
theorem DX7_gather : ∀ q ∈ kX7_gather, decode mX7_gather.2.1 q.1 = .ok (q.2.1, q.2.2) := by decide +kernel
def kX7_join : List (Nat × Instr × Nat) := [(0, .iconst 0, 1), (1, .istore_n 3, 1), (2, .iload_n 3, 1), (3, .bipush 16, 2), (5, .if_icmp .ge 40, 3), (8, .aload_n 0, 1), (9, .getfield 9, 3), (12, .iload_n 3, 1), (13, .iaload, 1), (14, .iload_n 1, 1), (15, .if_icmp .eq 13, 3), (18, .aload_n 0, 1), (19, .getfield 9, 3), (22, .iload_n 3, 1), (23, .iaload, 1), (24, .iload_n 2, 1), (25, .if_icmp .ne 14, 3), (28, .aload_n 0, 1), (29, .getfield 9, 3), (32, .iload_n 3, 1), (33, .iload_n 1, 1), (34, .iload_n 2, 1), (35, .invokestatic 45, 3), (38, .iastore, 1), (39, .iinc 3 1, 3), (42, .goto (-40), 3), (45, .return_, 1)]
set_option maxRecDepth 20000 in
theorem DX7_join : ∀ q ∈ kX7_join, decode mX7_join.2.1 q.1 = .ok (q.2.1, q.2.2) := by decide +kernel
def kX7_shutIn : List (Nat × Instr × Nat) := [(0, .aload_n 0, 1), (1, .invokevirtual 51, 3), (4, .iconst 0, 1), (5, .istore_n 1, 1), (6, .iconst 0, 1), (7, .istore_n 2, 1), (8, .iload_n 2, 1), (9, .bipush 16, 2), (11, .if_icmp .ge 36, 3), (14, .aload_n 0, 1), (15, .getfield 18, 3), (18, .getfield 54, 3), (21, .iload_n 2, 1), (22, .iaload, 1), (23, .iconst 1, 1), (24, .if_icmp .ne 17, 3), (27, .aload_n 0, 1), (28, .getfield 9, 3), (31, .iload_n 2, 1), (32, .iaload, 1), (33, .bipush 16, 2), (35, .if_icmp .eq 6, 3), (38, .iinc 1 1, 3), (41, .iinc 2 1, 3), (44, .goto (-36), 3), (47, .iload_n 1, 1), (48, .ireturn, 1)]
set_option maxRecDepth 20000 in
theorem DX7_shutIn : ∀ q ∈ kX7_shutIn, decode mX7_shutIn.2.1 q.1 = .ok (q.2.1, q.2.2) := by decide +kernel
def kX7_friends : List (Nat × Instr × Nat) := [(0, .iconst 0, 1), (1, .istore_n 1, 1), (2, .iconst 0, 1), (3, .istore_n 2, 1), (4, .iload_n 2, 1), (5, .bipush 33, 2), (7, .if_icmp .ge 57, 3), (10, .iload_n 1, 1), (11, .aload_n 0, 1), (12, .getfield 18, 3), (15, .getfield 26, 3), (18, .iload_n 2, 1), (19, .iaload, 1), (20, .aload_n 0, 1), (21, .getfield 18, 3), (24, .getfield 54, 3), (27, .aload_n 0, 1), (28, .getfield 18, 3), (31, .getfield 31, 3), (34, .iload_n 2, 1), (35, .iaload, 1), (36, .iaload, 1), (37, .iand, 1), (38, .aload_n 0, 1), (39, .getfield 18, 3), (42, .getfield 54, 3), (45, .aload_n 0, 1), (46, .getfield 18, 3), (49, .getfield 34, 3), (52, .iload_n 2, 1), (53, .iaload, 1), (54, .iaload, 1), (55, .iand, 1), (56, .iadd, 1), (57, .istore_n 1, 1), (58, .iinc 2 1, 3), (61, .goto (-57), 3), (64, .iload_n 1, 1), (65, .ireturn, 1)]
set_option maxRecDepth 20000 in
theorem DX7_friends : ∀ q ∈ kX7_friends, decode mX7_friends.2.1 q.1 = .ok (q.2.1, q.2.2) := by decide +kernel
def kX7_fewestMore : List (Nat × Instr × Nat) := [(0, .aload_n 0, 1), (1, .invokevirtual 51, 3), (4, .ldc 57, 2), (6, .istore_n 1, 1), (7, .iconst 0, 1), (8, .istore_n 2, 1), (9, .iload_n 2, 1), (10, .bipush 16, 2), (12, .if_icmp .ge 33, 3), (15, .aload_n 0, 1), (16, .getfield 18, 3), (19, .getfield 54, 3), (22, .iload_n 2, 1), (23, .iaload, 1), (24, .iconst 1, 1), (25, .if_icmp .ne 14, 3), (28, .iload_n 1, 1), (29, .iconst 1, 1), (30, .aload_n 0, 1), (31, .getfield 9, 3), (34, .iload_n 2, 1), (35, .iaload, 1), (36, .ishl, 1), (37, .ior, 1), (38, .istore_n 1, 1), (39, .iinc 2 1, 3), (42, .goto (-33), 3), (45, .lconst 0, 1), (46, .lstore_n 2, 1), (47, .iconst 0, 1), (48, .istore 4, 2), (50, .iload 4, 2), (52, .bipush 33, 2), (54, .if_icmp .ge 82, 3), (57, .aload_n 0, 1), (58, .getfield 9, 3), (61, .aload_n 0, 1), (62, .getfield 18, 3), (65, .getfield 31, 3), (68, .iload 4, 2), (70, .iaload, 1), (71, .iaload, 1), (72, .istore 5, 2), (74, .aload_n 0, 1), (75, .getfield 9, 3), (78, .aload_n 0, 1), (79, .getfield 18, 3), (82, .getfield 34, 3), (85, .iload 4, 2), (87, .iaload, 1), (88, .iaload, 1), (89, .istore 6, 2), (91, .iload 5, 2), (93, .iload 6, 2), (95, .if_icmp .eq 35, 3), (98, .iload_n 1, 1), (99, .iload 5, 2), (101, .ishr, 1), (102, .iload_n 1, 1), (103, .iload 6, 2), (105, .ishr, 1), (106, .iand, 1), (107, .iconst 1, 1), (108, .iand, 1), (109, .ifCond .ne 6, 3), (112, .goto 18, 3), (115, .lload_n 2, 1), (116, .lconst 1, 1), (117, .iload 4, 2), (119, .lshl, 1), (120, .lor, 1), (121, .lstore_n 2, 1), (122, .aload_n 0, 1), (123, .iload 5, 2), (125, .iload 6, 2), (127, .invokevirtual 41, 3), (130, .iinc 4 1, 3), (133, .goto (-83), 3), (136, .lload_n 2, 1), (137, .lreturn, 1)]
set_option maxRecDepth 20000 in
theorem DX7_fewestMore : ∀ q ∈ kX7_fewestMore, decode mX7_fewestMore.2.1 q.1 = .ok (q.2.1, q.2.2) := by decide +kernel
def kX7_listen : List (Nat × Instr × Nat) := [(0, .iconst 0, 1), (1, .istore_n 2, 1), (2, .iload_n 2, 1), (3, .bipush 16, 2), (5, .if_icmp .ge 26, 3), (8, .aload_n 0, 1), (9, .getfield 15, 3), (12, .iload_n 2, 1), (13, .iload_n 2, 1), (14, .iload_n 1, 1), (15, .if_icmp .ne 7, 3), (18, .iconst 0, 1), (19, .goto 5, 3), (22, .ldc 58, 2), (24, .iastore, 1), (25, .iinc 2 1, 3), (28, .goto (-26), 3), (31, .iconst 1, 1), (32, .istore_n 2, 1), (33, .iconst 0, 1), (34, .istore_n 3, 1), (35, .iload_n 3, 1), (36, .bipush 16, 2), (38, .if_icmp .ge 125, 3), (41, .iload_n 2, 1), (42, .ifCond .eq 121, 3), (45, .iconst 0, 1), (46, .istore_n 2, 1), (47, .iconst 0, 1), (48, .istore 4, 2), (50, .iload 4, 2), (52, .bipush 33, 2), (54, .if_icmp .ge 103, 3), (57, .aload_n 0, 1), (58, .getfield 18, 3), (61, .getfield 26, 3), (64, .iload 4, 2), (66, .iaload, 1), (67, .iconst 1, 1), (68, .if_icmp .ne 7, 3), (71, .iconst 3, 1), (72, .goto 17, 3), (75, .iconst 3, 1), (76, .iconst 2, 1), (77, .aload_n 0, 1), (78, .getfield 18, 3), (81, .getfield 59, 3), (84, .iload 4, 2), (86, .iaload, 1), (87, .imul, 1), (88, .iadd, 1), (89, .istore 5, 2), (91, .aload_n 0, 1), (92, .aload_n 0, 1), (93, .getfield 18, 3), (96, .getfield 31, 3), (99, .iload 4, 2), (101, .iaload, 1), (102, .aload_n 0, 1), (103, .getfield 18, 3), (106, .getfield 34, 3), (109, .iload 4, 2), (111, .iaload, 1), (112, .iload 5, 2), (114, .invokevirtual 62, 3), (117, .ifCond .ne 32, 3), (120, .aload_n 0, 1), (121, .aload_n 0, 1), (122, .getfield 18, 3), (125, .getfield 34, 3), (128, .iload 4, 2), (130, .iaload, 1), (131, .aload_n 0, 1), (132, .getfield 18, 3), (135, .getfield 31, 3), (138, .iload 4, 2), (140, .iaload, 1), (141, .iload 5, 2), (143, .invokevirtual 62, 3), (146, .ifCond .eq 5, 3), (149, .iconst 1, 1), (150, .istore_n 2, 1), (151, .iinc 4 1, 3), (154, .goto (-104), 3), (157, .iinc 3 1, 3), (160, .goto (-125), 3), (163, .return_, 1)]
set_option maxRecDepth 20000 in
theorem DX7_listen : ∀ q ∈ kX7_listen, decode mX7_listen.2.1 q.1 = .ok (q.2.1, q.2.2) := by decide +kernel
def kX7_pass : List (Nat × Instr × Nat) := [(0, .aload_n 0, 1), (1, .getfield 15, 3), (4, .iload_n 1, 1), (5, .iaload, 1), (6, .iload_n 3, 1), (7, .iadd, 1), (8, .aload_n 0, 1), (9, .getfield 15, 3), (12, .iload_n 2, 1), (13, .iaload, 1), (14, .if_icmp .lt 5, 3), (17, .iconst 0, 1), (18, .ireturn, 1), (19, .aload_n 0, 1), (20, .getfield 15, 3), (23, .iload_n 2, 1), (24, .aload_n 0, 1), (25, .getfield 15, 3), (28, .iload_n 1, 1), (29, .iaload, 1), (30, .iload_n 3, 1), (31, .iadd, 1), (32, .iastore, 1), (33, .iconst 1, 1), (34, .ireturn, 1)]
set_option maxRecDepth 20000 in
theorem DX7_pass : ∀ q ∈ kX7_pass, decode mX7_pass.2.1 q.1 = .ok (q.2.1, q.2.2) := by decide +kernel
def kX7_loudness : List (Nat × Instr × Nat) := [(0, .aload_n 0, 1), (1, .iload_n 1, 1), (2, .invokevirtual 66, 3), (5, .iconst 0, 1), (6, .iload_n 3, 1), (7, .aload_n 0, 1), (8, .getfield 15, 3), (11, .iload_n 2, 1), (12, .iaload, 1), (13, .isub, 1), (14, .invokestatic 45, 3), (17, .ireturn, 1)]
set_option maxRecDepth 20000 in
theorem DX7_loudness : ∀ q ∈ kX7_loudness, decode mX7_loudness.2.1 q.1 = .ok (q.2.1, q.2.2) := by decide +kernel
def kX7_sources : List (Nat × Instr × Nat) := [(0, .iconst 0, 1), (1, .istore_n 3, 1), (2, .iconst 0, 1), (3, .istore 4, 2), (5, .iload 4, 2), (7, .bipush 16, 2), (9, .if_icmp .ge 51, 3), (12, .aload_n 0, 1), (13, .getfield 18, 3), (16, .getfield 54, 3), (19, .iload 4, 2), (21, .iaload, 1), (22, .iconst 1, 1), (23, .if_icmp .ne 31, 3), (26, .aload_n 0, 1), (27, .iload 4, 2), (29, .iload_n 1, 1), (30, .invokevirtual 70, 3), (33, .iconst 1, 1), (34, .iload 4, 2), (36, .ishl, 1), (37, .ior, 1), (38, .iload_n 2, 1), (39, .iconst 1, 1), (40, .iload 4, 2), (42, .ishl, 1), (43, .ior, 1), (44, .if_icmp .ne 10, 3), (47, .iload_n 3, 1), (48, .iconst 1, 1), (49, .iload 4, 2), (51, .ishl, 1), (52, .ior, 1), (53, .istore_n 3, 1), (54, .iinc 4 1, 3), (57, .goto (-52), 3), (60, .iload_n 3, 1), (61, .ireturn, 1)]
set_option maxRecDepth 20000 in
theorem DX7_sources : ∀ q ∈ kX7_sources, decode mX7_sources.2.1 q.1 = .ok (q.2.1, q.2.2) := by decide +kernel
def kX7_hearers : List (Nat × Instr × Nat) := [(0, .aload_n 0, 1), (1, .iload_n 1, 1), (2, .invokevirtual 66, 3), (5, .iconst 0, 1), (6, .istore_n 3, 1), (7, .iconst 0, 1), (8, .istore 4, 2), (10, .iload 4, 2), (12, .bipush 16, 2), (14, .if_icmp .ge 27, 3), (17, .iload_n 2, 1), (18, .aload_n 0, 1), (19, .getfield 15, 3), (22, .iload 4, 2), (24, .iaload, 1), (25, .if_icmp .le 10, 3), (28, .iload_n 3, 1), (29, .iconst 1, 1), (30, .iload 4, 2), (32, .ishl, 1), (33, .ior, 1), (34, .istore_n 3, 1), (35, .iinc 4 1, 3), (38, .goto (-28), 3), (41, .iload_n 3, 1), (42, .ireturn, 1)]
set_option maxRecDepth 20000 in
theorem DX7_hearers : ∀ q ∈ kX7_hearers, decode mX7_hearers.2.1 q.1 = .ok (q.2.1, q.2.2) := by decide +kernel
def kX8_init : List (Nat × Instr × Nat) := [(0, .aload_n 0, 1), (1, .invokespecial 3, 3), (4, .aload_n 0, 1), (5, .bipush 16, 2), (7, .newarray .int, 2), (9, .putfield 9, 3), (12, .aload_n 0, 1), (13, .bipush 16, 2), (15, .newarray .int, 2), (17, .putfield 15, 3), (20, .aload_n 0, 1), (21, .bipush 33, 2), (23, .newarray .int, 2), (25, .putfield 18, 3), (28, .aload_n 0, 1), (29, .bipush 16, 2), (31, .newarray .int, 2), (33, .putfield 21, 3), (36, .aload_n 0, 1), (37, .bipush 33, 2), (39, .newarray .int, 2), (41, .putfield 24, 3), (44, .aload_n 0, 1), (45, .iconst 0, 1), (46, .putfield 27, 3), (49, .aload_n 0, 1), (50, .aload_n 1, 1), (51, .putfield 31, 3), (54, .aload_n 0, 1), (55, .aload_n 2, 1), (56, .putfield 35, 3), (59, .return_, 1)]
set_option maxRecDepth 20000 in
theorem DX8_init : ∀ q ∈ kX8_init, decode mX8_init.2.1 q.1 = .ok (q.2.1, q.2.2) := by decide +kernel
def kX8_flow : List (Nat × Instr × Nat) := [(0, .aload_n 2, 1), (1, .aload_n 0, 1), (2, .getfield 31, 3), (5, .getfield 39, 3), (8, .iload_n 1, 1), (9, .iaload, 1), (10, .iaload, 1), (11, .istore_n 3, 1), (12, .aload_n 2, 1), (13, .aload_n 0, 1), (14, .getfield 31, 3), (17, .getfield 44, 3), (20, .iload_n 1, 1), (21, .iaload, 1), (22, .iaload, 1), (23, .istore 4, 2), (25, .iload_n 3, 1), (26, .iload 4, 2), (28, .isub, 1), (29, .invokestatic 47, 3), (32, .istore 5, 2), (34, .iconst 0, 1), (35, .iload 5, 2), (37, .iconst 2, 1), (38, .idiv, 1), (39, .aload_n 0, 1), (40, .iload_n 1, 1), (41, .iload 5, 2), (43, .iload_n 3, 1), (44, .iload 4, 2), (46, .invokestatic 53, 3), (49, .iload_n 3, 1), (50, .iload 4, 2), (52, .invokestatic 57, 3), (55, .invokevirtual 60, 3), (58, .invokestatic 57, 3), (61, .invokestatic 53, 3), (64, .istore 6, 2), (66, .iload_n 3, 1), (67, .iload 4, 2), (69, .if_icmp .ge 9, 3), (72, .iload 6, 2), (74, .ineg, 1), (75, .goto 5, 3), (78, .iload 6, 2), (80, .ireturn, 1)]
set_option maxRecDepth 20000 in
theorem DX8_flow : ∀ q ∈ kX8_flow, decode mX8_flow.2.1 q.1 = .ok (q.2.1, q.2.2) := by decide +kernel
def kX8_lawful : List (Nat × Instr × Nat) := [(0, .aload_n 0, 1), (1, .getfield 31, 3), (4, .getfield 64, 3), (7, .iload_n 1, 1), (8, .iaload, 1), (9, .istore 5, 2), (11, .aload_n 0, 1), (12, .getfield 31, 3), (15, .getfield 67, 3), (18, .iload_n 1, 1), (19, .iaload, 1), (20, .istore 6, 2), (22, .iload_n 2, 1), (23, .iconst 2, 1), (24, .if_icmp .ge 5, 3), (27, .iconst 0, 1), (28, .ireturn, 1), (29, .aload_n 0, 1), (30, .getfield 35, 3), (33, .invokevirtual 70, 3), (36, .ifCond .eq 21, 3), (39, .aload_n 0, 1), (40, .getfield 35, 3), (43, .iload_n 2, 1), (44, .iload 5, 2), (46, .iload 6, 2), (48, .iload_n 3, 1), (49, .iload 4, 2), (51, .invokevirtual 76, 3), (54, .goto 15, 3), (57, .iload_n 2, 1), (58, .iload 5, 2), (60, .iconst 1, 1), (61, .iadd, 1), (62, .idiv, 1), (63, .bipush 6, 2), (65, .idiv, 1), (66, .iload 6, 2), (68, .iadd, 1), (69, .ireturn, 1)]
set_option maxRecDepth 20000 in
theorem DX8_lawful : ∀ q ∈ kX8_lawful, decode mX8_lawful.2.1 q.1 = .ok (q.2.1, q.2.2) := by decide +kernel
def kX8_begin : List (Nat × Instr × Nat) := [(0, .aload_n 0, 1), (1, .getfield 31, 3), (4, .getfield 80, 3), (7, .iconst 0, 1), (8, .aload_n 0, 1), (9, .getfield 9, 3), (12, .iconst 0, 1), (13, .bipush 16, 2), (15, .invokestatic 83, 3), (18, .aload_n 0, 1), (19, .getfield 31, 3), (22, .getfield 89, 3), (25, .iconst 0, 1), (26, .aload_n 0, 1), (27, .getfield 15, 3), (30, .iconst 0, 1), (31, .bipush 16, 2), (33, .invokestatic 83, 3), (36, .return_, 1)]
set_option maxRecDepth 20000 in
theorem DX8_begin : ∀ q ∈ kX8_begin, decode mX8_begin.2.1 q.1 = .ok (q.2.1, q.2.2) := by decide +kernel
def kX8_pass : List (Nat × Instr × Nat) := [(0, .iconst 0, 1), (1, .istore_n 1, 1), (2, .iload_n 1, 1), (3, .bipush 16, 2), (5, .if_icmp .ge 42, 3), (8, .aload_n 0, 1), (9, .getfield 21, 3), (12, .iload_n 1, 1), (13, .aload_n 0, 1), (14, .getfield 15, 3), (17, .iload_n 1, 1), (18, .iaload, 1), (19, .aload_n 0, 1), (20, .getfield 31, 3), (23, .getfield 92, 3), (26, .bipush 6, 2), (28, .aload_n 0, 1), (29, .getfield 31, 3), (32, .getfield 95, 3), (35, .iload_n 1, 1), (36, .iaload, 1), (37, .isub, 1), (38, .imul, 1), (39, .isub, 1), (40, .iastore, 1), (41, .iinc 1 1, 3), (44, .goto (-42), 3), (47, .iconst 0, 1), (48, .istore_n 1, 1), (49, .iload_n 1, 1), (50, .bipush 33, 2), (52, .if_icmp .ge 70, 3), (55, .aload_n 0, 1), (56, .getfield 18, 3), (59, .iload_n 1, 1), (60, .aload_n 0, 1), (61, .iload_n 1, 1), (62, .aload_n 0, 1), (63, .getfield 9, 3), (66, .invokevirtual 98, 3), (69, .iastore, 1), (70, .aload_n 0, 1), (71, .getfield 21, 3), (74, .aload_n 0, 1), (75, .getfield 31, 3), (78, .getfield 39, 3), (81, .iload_n 1, 1), (82, .iaload, 1), (83, .dup2, 1), (84, .iaload, 1), (85, .aload_n 0, 1), (86, .getfield 18, 3), (89, .iload_n 1, 1), (90, .iaload, 1), (91, .isub, 1), (92, .iastore, 1), (93, .aload_n 0, 1), (94, .getfield 21, 3), (97, .aload_n 0, 1), (98, .getfield 31, 3), (101, .getfield 44, 3), (104, .iload_n 1, 1), (105, .iaload, 1), (106, .dup2, 1), (107, .iaload, 1), (108, .aload_n 0, 1), (109, .getfield 18, 3), (112, .iload_n 1, 1), (113, .iaload, 1), (114, .iadd, 1), (115, .iastore, 1), (116, .iinc 1 1, 3), (119, .goto (-70), 3), (122, .iconst 0, 1), (123, .istore_n 1, 1), (124, .iconst 0, 1), (125, .istore_n 2, 1), (126, .iload_n 2, 1), (127, .bipush 16, 2), (129, .if_icmp .ge 51, 3), (132, .iconst 0, 1), (133, .bipush 99, 2), (135, .aload_n 0, 1), (136, .getfield 9, 3), (139, .iload_n 2, 1), (140, .iaload, 1), (141, .aload_n 0, 1), (142, .getfield 21, 3), (145, .iload_n 2, 1), (146, .iaload, 1), (147, .iadd, 1), (148, .invokestatic 57, 3), (151, .invokestatic 53, 3), (154, .istore_n 3, 1), (155, .iload_n 3, 1), (156, .aload_n 0, 1), (157, .getfield 9, 3), (160, .iload_n 2, 1), (161, .iaload, 1), (162, .if_icmp .eq 5, 3), (165, .iconst 1, 1), (166, .istore_n 1, 1), (167, .aload_n 0, 1), (168, .getfield 9, 3), (171, .iload_n 2, 1), (172, .iload_n 3, 1), (173, .iastore, 1), (174, .iinc 2 1, 3), (177, .goto (-51), 3), (180, .iload_n 1, 1), (181, .ireturn, 1)]
set_option maxRecDepth 20000 in
theorem DX8_pass : ∀ q ∈ kX8_pass, decode mX8_pass.2.1 q.1 = .ok (q.2.1, q.2.2) := by decide +kernel
def kX8_passAll : List (Nat × Instr × Nat) := [(0, .iconst 1, 1), (1, .istore_n 2, 1), (2, .iconst 0, 1), (3, .istore_n 3, 1), (4, .iload_n 3, 1), (5, .iload_n 1, 1), (6, .if_icmp .ge 18, 3), (9, .iload_n 2, 1), (10, .ifCond .eq 14, 3), (13, .aload_n 0, 1), (14, .invokevirtual 102, 3), (17, .istore_n 2, 1), (18, .iinc 3 1, 3), (21, .goto (-17), 3), (24, .return_, 1)]
set_option maxRecDepth 20000 in
theorem DX8_passAll : ∀ q ∈ kX8_passAll, decode mX8_passAll.2.1 q.1 = .ok (q.2.1, q.2.2) := by decide +kernel
def kX8_think : List (Nat × Instr × Nat) := [(0, .aload_n 0, 1), (1, .invokevirtual 105, 3), (4, .aload_n 0, 1), (5, .iload_n 1, 1), (6, .invokevirtual 108, 3), (9, .return_, 1)]
set_option maxRecDepth 20000 in
theorem DX8_think : ∀ q ∈ kX8_think, decode mX8_think.2.1 q.1 = .ok (q.2.1, q.2.2) := by decide +kernel
def kX8_daysTillStill : List (Nat × Instr × Nat) := [(0, .aload_n 0, 1), (1, .invokevirtual 105, 3), (4, .iconst 0, 1), (5, .istore_n 1, 1), (6, .iload_n 1, 1), (7, .bipush 60, 2), (9, .if_icmp .gt 18, 3), (12, .aload_n 0, 1), (13, .invokevirtual 102, 3), (16, .ifCond .ne 5, 3), (19, .iload_n 1, 1), (20, .ireturn, 1), (21, .iinc 1 1, 3), (24, .goto (-18), 3), (27, .bipush (-2), 2), (29, .ireturn, 1)]
set_option maxRecDepth 20000 in
theorem DX8_daysTillStill : ∀ q ∈ kX8_daysTillStill, decode mX8_daysTillStill.2.1 q.1 = .ok (q.2.1, q.2.2) := by decide +kernel
def kX8_goneThrough : List (Nat × Instr × Nat) := [(0, .aload_n 0, 1), (1, .invokevirtual 105, 3), (4, .iconst 0, 1), (5, .istore_n 3, 1), (6, .iconst 0, 1), (7, .istore 4, 2), (9, .iload 4, 2), (11, .iload_n 2, 1), (12, .if_icmp .ge 23, 3), (15, .aload_n 0, 1), (16, .invokevirtual 102, 3), (19, .pop, 1), (20, .iload_n 3, 1), (21, .aload_n 0, 1), (22, .getfield 18, 3), (25, .iload_n 1, 1), (26, .iaload, 1), (27, .iadd, 1), (28, .istore_n 3, 1), (29, .iinc 4 1, 3), (32, .goto (-23), 3), (35, .iload_n 3, 1), (36, .ireturn, 1)]
set_option maxRecDepth 20000 in
theorem DX8_goneThrough : ∀ q ∈ kX8_goneThrough, decode mX8_goneThrough.2.1 q.1 = .ok (q.2.1, q.2.2) := by decide +kernel
def kX8_fireFor : List (Nat × Instr × Nat) := [(0, .iconst 0, 1), (1, .istore 4, 2), (3, .iload 4, 2), (5, .bipush 9, 2), (7, .if_icmp .gt 39, 3), (10, .aload_n 0, 1), (11, .invokevirtual 105, 3), (14, .aload_n 0, 1), (15, .getfield 15, 3), (18, .iload_n 1, 1), (19, .iload 4, 2), (21, .iastore, 1), (22, .aload_n 0, 1), (23, .iload_n 3, 1), (24, .invokevirtual 108, 3), (27, .aload_n 0, 1), (28, .getfield 9, 3), (31, .iload_n 1, 1), (32, .iaload, 1), (33, .iload_n 2, 1), (34, .if_icmp .lt 6, 3), (37, .iload 4, 2), (39, .ireturn, 1), (40, .iinc 4 1, 3), (43, .goto (-40), 3), (46, .bipush (-2), 2), (48, .ireturn, 1)]
set_option maxRecDepth 20000 in
theorem DX8_fireFor : ∀ q ∈ kX8_fireFor, decode mX8_fireFor.2.1 q.1 = .ok (q.2.1, q.2.2) := by decide +kernel
def kX8_live : List (Nat × Instr × Nat) := [(0, .aload_n 0, 1), (1, .iload_n 1, 1), (2, .invokevirtual 112, 3), (5, .aload_n 0, 1), (6, .getfield 9, 3), (9, .iconst 0, 1), (10, .aload_n 0, 1), (11, .getfield 31, 3), (14, .getfield 80, 3), (17, .iconst 0, 1), (18, .bipush 16, 2), (20, .invokestatic 83, 3), (23, .aload_n 0, 1), (24, .getfield 18, 3), (27, .iconst 0, 1), (28, .aload_n 0, 1), (29, .getfield 24, 3), (32, .iconst 0, 1), (33, .bipush 33, 2), (35, .invokestatic 83, 3), (38, .aload_n 0, 1), (39, .dup, 1), (40, .getfield 27, 3), (43, .iload_n 1, 1), (44, .iadd, 1), (45, .putfield 27, 3), (48, .return_, 1)]
set_option maxRecDepth 20000 in
theorem DX8_live : ∀ q ∈ kX8_live, decode mX8_live.2.1 q.1 = .ok (q.2.1, q.2.2) := by decide +kernel
def kX9_init : List (Nat × Instr × Nat) := [(0, .aload_n 0, 1), (1, .invokespecial 1, 3), (4, .aload_n 0, 1), (5, .new 7, 3), (8, .dup, 1), (9, .invokespecial 9, 3), (12, .putfield 10, 3), (15, .aload_n 0, 1), (16, .new 16, 3), (19, .dup, 1), (20, .invokespecial 18, 3), (23, .putfield 19, 3), (26, .aload_n 0, 1), (27, .new 23, 3), (30, .dup, 1), (31, .aload_n 0, 1), (32, .getfield 10, 3), (35, .aload_n 0, 1), (36, .getfield 19, 3), (39, .invokespecial 25, 3), (42, .putfield 28, 3), (45, .aload_n 0, 1), (46, .new 32, 3), (49, .dup, 1), (50, .aload_n 0, 1), (51, .getfield 10, 3), (54, .invokespecial 34, 3), (57, .putfield 37, 3), (60, .aload_n 0, 1), (61, .new 41, 3), (64, .dup, 1), (65, .aload_n 0, 1), (66, .getfield 10, 3), (69, .invokespecial 43, 3), (72, .putfield 44, 3), (75, .aload_n 0, 1), (76, .new 48, 3), (79, .dup, 1), (80, .aload_n 0, 1), (81, .getfield 10, 3), (84, .invokespecial 50, 3), (87, .putfield 51, 3), (90, .aload_n 0, 1), (91, .new 55, 3), (94, .dup, 1), (95, .aload_n 0, 1), (96, .getfield 10, 3), (99, .invokespecial 57, 3), (102, .putfield 58, 3), (105, .aload_n 0, 1), (106, .new 62, 3), (109, .dup, 1), (110, .invokespecial 64, 3), (113, .putfield 65, 3), (116, .aload_n 0, 1), (117, .new 69, 3), (120, .dup, 1), (121, .invokespecial 71, 3), (124, .putfield 72, 3), (127, .return_, 1)]
set_option maxRecDepth 20000 in
theorem DX9_init : ∀ q ∈ kX9_init, decode mX9_init.2.1 q.1 = .ok (q.2.1, q.2.2) := by decide +kernel
def kX9_within : List (Nat × Instr × Nat) := [(0, .iload_n 0, 1), (1, .iload_n 1, 1), (2, .if_icmp .lt 12, 3), (5, .iload_n 0, 1), (6, .iload_n 2, 1), (7, .if_icmp .gt 7, 3), (10, .iconst 1, 1), (11, .goto 4, 3), (14, .iconst 0, 1), (15, .ireturn, 1)]
set_option maxRecDepth 20000 in
theorem DX9_within : ∀ q ∈ kX9_within, decode mX9_within.2.1 q.1 = .ok (q.2.1, q.2.2) := by decide +kernel
def kX9_isHouse : List (Nat × Instr × Nat) := [(0, .iload_n 0, 1), (1, .iconst 0, 1), (2, .bipush 15, 2), (4, .invokestatic 76, 3), (7, .ireturn, 1)]
set_option maxRecDepth 20000 in
theorem DX9_isHouse : ∀ q ∈ kX9_isHouse, decode mX9_isHouse.2.1 q.1 = .ok (q.2.1, q.2.2) := by decide +kernel
def kX9_isWall : List (Nat × Instr × Nat) := [(0, .iload_n 0, 1), (1, .iconst 0, 1), (2, .bipush 32, 2), (4, .invokestatic 76, 3), (7, .ireturn, 1)]
set_option maxRecDepth 20000 in
theorem DX9_isWall : ∀ q ∈ kX9_isWall, decode mX9_isWall.2.1 q.1 = .ok (q.2.1, q.2.2) := by decide +kernel
def kX9_isThought : List (Nat × Instr × Nat) := [(0, .iload_n 0, 1), (1, .iconst 0, 1), (2, .bipush 30, 2), (4, .invokestatic 76, 3), (7, .ireturn, 1)]
set_option maxRecDepth 20000 in
theorem DX9_isThought : ∀ q ∈ kX9_isThought, decode mX9_isThought.2.1 q.1 = .ok (q.2.1, q.2.2) := by decide +kernel
def kX9_isPair : List (Nat × Instr × Nat) := [(0, .iload_n 0, 1), (1, .ifCond .lt 27, 3), (4, .iload_n 0, 1), (5, .bipush 100, 2), (7, .idiv, 1), (8, .invokestatic 80, 3), (11, .ifCond .eq 17, 3), (14, .iload_n 0, 1), (15, .bipush 100, 2), (17, .irem, 1), (18, .invokestatic 80, 3), (21, .ifCond .eq 7, 3), (24, .iconst 1, 1), (25, .goto 4, 3), (28, .iconst 0, 1), (29, .ireturn, 1)]
set_option maxRecDepth 20000 in
theorem DX9_isPair : ∀ q ∈ kX9_isPair, decode mX9_isPair.2.1 q.1 = .ok (q.2.1, q.2.2) := by decide +kernel
def kX9_sum : List (Nat × Instr × Nat) := [(0, .iconst 0, 1), (1, .istore_n 1, 1), (2, .aload_n 0, 1), (3, .astore_n 2, 1), (4, .aload_n 2, 1), (5, .arraylength, 1), (6, .istore_n 3, 1), (7, .iconst 0, 1), (8, .istore 4, 2), (10, .iload 4, 2), (12, .iload_n 3, 1), (13, .if_icmp .ge 20, 3), (16, .aload_n 2, 1), (17, .iload 4, 2), (19, .iaload, 1), (20, .istore 5, 2), (22, .iload_n 1, 1), (23, .iload 5, 2), (25, .iadd, 1), (26, .istore_n 1, 1), (27, .iinc 4 1, 3), (30, .goto (-20), 3), (33, .iload_n 1, 1), (34, .ireturn, 1)]
set_option maxRecDepth 20000 in
theorem DX9_sum : ∀ q ∈ kX9_sum, decode mX9_sum.2.1 q.1 = .ok (q.2.1, q.2.2) := by decide +kernel
def kX9_wall : List (Nat × Instr × Nat) := [(0, .iload_n 1, 1), (1, .invokestatic 84, 3), (4, .ifCond .eq 14, 3), (7, .iload_n 1, 1), (8, .bipush 100, 2), (10, .idiv, 1), (11, .iload_n 1, 1), (12, .bipush 100, 2), (14, .irem, 1), (15, .if_icmp .ne 5, 3), (18, .iconst (-1), 1), (19, .ireturn, 1), (20, .aload_n 0, 1), (21, .getfield 10, 3), (24, .iload_n 1, 1), (25, .bipush 100, 2), (27, .idiv, 1), (28, .iload_n 1, 1), (29, .bipush 100, 2), (31, .irem, 1), (32, .invokevirtual 87, 3), (35, .istore_n 2, 1), (36, .iload_n 2, 1), (37, .ifCond .ge 8, 3), (40, .bipush (-2), 2), (42, .goto 4, 3), (45, .iload_n 2, 1), (46, .ireturn, 1)]
set_option maxRecDepth 20000 in
theorem DX9_wall : ∀ q ∈ kX9_wall, decode mX9_wall.2.1 q.1 = .ok (q.2.1, q.2.2) := by decide +kernel
def kX9_mend : List (Nat × Instr × Nat) := [(0, .aload_n 0, 1), (1, .getfield 10, 3), (4, .iload_n 1, 1), (5, .iload_n 2, 1), (6, .iload_n 3, 1), (7, .invokevirtual 91, 3), (10, .ifCond .ne 5, 3), (13, .iconst (-1), 1), (14, .ireturn, 1), (15, .aload_n 0, 1), (16, .getfield 10, 3), (19, .iload_n 1, 1), (20, .iload_n 2, 1), (21, .invokevirtual 94, 3), (24, .istore 4, 2), (26, .iload 4, 2), (28, .iload_n 3, 1), (29, .if_icmp .eq 25, 3), (32, .aload_n 0, 1), (33, .getfield 10, 3), (36, .iload_n 1, 1), (37, .iload_n 2, 1), (38, .iload_n 3, 1), (39, .invokevirtual 97, 3), (42, .aload_n 0, 1), (43, .getfield 58, 3), (46, .iload_n 1, 1), (47, .iload_n 2, 1), (48, .iload 4, 2), (50, .iload_n 3, 1), (51, .invokevirtual 101, 3), (54, .iload 4, 2), (56, .ireturn, 1)]
set_option maxRecDepth 20000 in
theorem DX9_mend : ∀ q ∈ kX9_mend, decode mX9_mend.2.1 q.1 = .ok (q.2.1, q.2.2) := by decide +kernel
def kX9_of : List (Nat × Instr × Nat) := [(0, .iload_n 2, 1), (1, .iconst 0, 1), (2, .iconst 5, 1), (3, .invokestatic 76, 3), (6, .ifCond .eq 22, 3), (9, .iload_n 1, 1), (10, .invokestatic 80, 3), (13, .ifCond .eq 12, 3), (16, .aload_n 0, 1), (17, .iload_n 1, 1), (18, .iload_n 2, 1), (19, .invokevirtual 105, 3), (22, .goto 5, 3), (25, .ldc 108, 2), (27, .ireturn, 1), (28, .iload_n 2, 1), (29, .bipush 10, 2), (31, .bipush 15, 2), (33, .invokestatic 76, 3), (36, .ifCond .eq 22, 3), (39, .iload_n 1, 1), (40, .invokestatic 109, 3), (43, .ifCond .eq 12, 3), (46, .aload_n 0, 1), (47, .iload_n 1, 1), (48, .iload_n 2, 1), (49, .invokevirtual 112, 3), (52, .goto 5, 3), (55, .ldc 108, 2), (57, .ireturn, 1), (58, .iload_n 1, 1), (59, .ifCond .eq 6, 3), (62, .ldc 108, 2), (64, .ireturn, 1), (65, .iload_n 2, 1), (66, .bipush 20, 2), (68, .if_icmp .ne 11, 3), (71, .aload_n 0, 1), (72, .getfield 10, 3), (75, .getfield 115, 3), (78, .ireturn, 1), (79, .iload_n 2, 1), (80, .bipush 21, 2), (82, .if_icmp .ne 13, 3), (85, .aload_n 0, 1), (86, .getfield 10, 3), (89, .getfield 119, 3), (92, .goto 5, 3), (95, .ldc 108, 2), (97, .ireturn, 1)]
set_option maxRecDepth 20000 in
theorem DX9_of : ∀ q ∈ kX9_of, decode mX9_of.2.1 q.1 = .ok (q.2.1, q.2.2) := by decide +kernel
def kX9_ofHouse : List (Nat × Instr × Nat) := [(0, .iload_n 2, 1), (1, .tableswitch 85 0 4 #[35, 45, 55, 65, 75], 35), (36, .aload_n 0, 1), (37, .getfield 10, 3), (40, .getfield 122, 3), (43, .iload_n 1, 1), (44, .iaload, 1), (45, .ireturn, 1), (46, .aload_n 0, 1), (47, .getfield 10, 3), (50, .getfield 126, 3), (53, .iload_n 1, 1), (54, .iaload, 1), (55, .ireturn, 1), (56, .aload_n 0, 1), (57, .getfield 10, 3), (60, .getfield 129, 3), (63, .iload_n 1, 1), (64, .iaload, 1), (65, .ireturn, 1), (66, .aload_n 0, 1), (67, .getfield 10, 3), (70, .getfield 132, 3), (73, .iload_n 1, 1), (74, .iaload, 1), (75, .ireturn, 1), (76, .aload_n 0, 1), (77, .getfield 10, 3), (80, .getfield 135, 3), (83, .iload_n 1, 1), (84, .iaload, 1), (85, .ireturn, 1), (86, .aload_n 0, 1), (87, .getfield 10, 3), (90, .iload_n 1, 1), (91, .aload_n 0, 1), (92, .getfield 10, 3), (95, .getfield 138, 3), (98, .invokevirtual 141, 3), (101, .ireturn, 1)]
set_option maxRecDepth 20000 in
theorem DX9_ofHouse : ∀ q ∈ kX9_ofHouse, decode mX9_ofHouse.2.1 q.1 = .ok (q.2.1, q.2.2) := by decide +kernel
def kX9_ofWall : List (Nat × Instr × Nat) := [(0, .iload_n 2, 1), (1, .tableswitch 106 10 14 #[35, 45, 55, 65, 88], 35), (36, .aload_n 0, 1), (37, .getfield 10, 3), (40, .getfield 138, 3), (43, .iload_n 1, 1), (44, .iaload, 1), (45, .ireturn, 1), (46, .aload_n 0, 1), (47, .getfield 10, 3), (50, .getfield 145, 3), (53, .iload_n 1, 1), (54, .iaload, 1), (55, .ireturn, 1), (56, .aload_n 0, 1), (57, .getfield 10, 3), (60, .getfield 148, 3), (63, .iload_n 1, 1), (64, .iaload, 1), (65, .ireturn, 1), (66, .bipush 100, 2), (68, .aload_n 0, 1), (69, .getfield 10, 3), (72, .getfield 151, 3), (75, .iload_n 1, 1), (76, .iaload, 1), (77, .imul, 1), (78, .aload_n 0, 1), (79, .getfield 10, 3), (82, .getfield 154, 3), (85, .iload_n 1, 1), (86, .iaload, 1), (87, .iadd, 1), (88, .ireturn, 1), (89, .aload_n 0, 1), (90, .getfield 37, 3), (93, .iload_n 1, 1), (94, .aload_n 0, 1), (95, .getfield 10, 3), (98, .getfield 138, 3), (101, .iload_n 1, 1), (102, .iaload, 1), (103, .invokevirtual 157, 3), (106, .ireturn, 1), (107, .aload_n 0, 1), (108, .getfield 28, 3), (111, .iload_n 1, 1), (112, .aload_n 0, 1), (113, .getfield 10, 3), (116, .getfield 129, 3), (119, .invokevirtual 160, 3), (122, .ireturn, 1)]
set_option maxRecDepth 20000 in
theorem DX9_ofWall : ∀ q ∈ kX9_ofWall, decode mX9_ofWall.2.1 q.1 = .ok (q.2.1, q.2.2) := by decide +kernel
def kX9_fires : List (Nat × Instr × Nat) := [(0, .aload_n 0, 1), (1, .getfield 72, 3), (4, .iload_n 1, 1), (5, .invokevirtual 163, 3), (8, .ifCond .eq 30, 3), (11, .iload_n 3, 1), (12, .ifCond .lt 26, 3), (15, .iload_n 3, 1), (16, .bipush 100, 2), (18, .idiv, 1), (19, .invokestatic 80, 3), (22, .ifCond .eq 16, 3), (25, .iload_n 3, 1), (26, .bipush 100, 2), (28, .irem, 1), (29, .iconst 1, 1), (30, .bipush 16, 2), (32, .invokestatic 76, 3), (35, .ifCond .ne 5, 3), (38, .iconst (-1), 1), (39, .ireturn, 1), (40, .aload_n 0, 1), (41, .getfield 72, 3), (44, .iload_n 1, 1), (45, .invokevirtual 166, 3), (48, .ifCond .ne 6, 3), (51, .bipush (-12), 2), (53, .ireturn, 1), (54, .iload_n 3, 1), (55, .bipush 100, 2), (57, .idiv, 1), (58, .istore 4, 2), (60, .iload_n 3, 1), (61, .bipush 100, 2), (63, .irem, 1), (64, .bipush 16, 2), (66, .iload 4, 2), (68, .isub, 1), (69, .invokestatic 169, 3), (72, .istore 5, 2), (74, .iconst 0, 1), (75, .istore 6, 2), (77, .iconst 0, 1), (78, .istore 7, 2), (80, .iload 7, 2), (82, .iload 5, 2), (84, .if_icmp .ge 79, 3), (87, .aload_n 0, 1), (88, .getfield 72, 3), (91, .iload_n 1, 1), (92, .iload_n 2, 1), (93, .iload 7, 2), (95, .iadd, 1), (96, .invokevirtual 174, 3), (99, .ifCond .ne 6, 3), (102, .goto 61, 3), (105, .aload_n 0, 1), (106, .getfield 72, 3), (109, .iload_n 1, 1), (110, .iload_n 2, 1), (111, .iload 7, 2), (113, .iadd, 1), (114, .invokevirtual 178, 3), (117, .lstore 8, 2), (119, .lload 8, 2), (121, .lconst 0, 1), (122, .lcmp, 1), (123, .ifCond .lt 40, 3), (126, .lload 8, 2), (128, .ldc2_w 182, 3), (131, .lcmp, 1), (132, .ifCond .le 6, 3), (135, .goto 28, 3), (138, .aload_n 0, 1), (139, .getfield 10, 3), (142, .getfield 122, 3), (145, .iload 4, 2), (147, .iload 7, 2), (149, .iadd, 1), (150, .lload 8, 2), (152, .l2i, 1), (153, .iastore, 1), (154, .iinc 6 1, 3), (157, .iinc 7 1, 3), (160, .goto (-80), 3), (163, .iload 6, 2), (165, .ireturn, 1)]
set_option maxRecDepth 20000 in
theorem DX9_fires : ∀ q ∈ kX9_fires, decode mX9_fires.2.1 q.1 = .ok (q.2.1, q.2.2) := by decide +kernel
def kX9_feed : List (Nat × Instr × Nat) := [(0, .iload_n 1, 1), (1, .iconst 0, 1), (2, .sipush 255, 3), (5, .invokestatic 76, 3), (8, .ifCond .ne 5, 3), (11, .iconst (-1), 1), (12, .ireturn, 1), (13, .aload_n 0, 1), (14, .getfield 19, 3), (17, .iload_n 1, 1), (18, .invokevirtual 184, 3), (21, .ifCond .eq 13, 3), (24, .aload_n 0, 1), (25, .getfield 19, 3), (28, .invokevirtual 187, 3), (31, .goto 5, 3), (34, .bipush (-3), 2), (36, .ireturn, 1)]
set_option maxRecDepth 20000 in
theorem DX9_feed : ∀ q ∈ kX9_feed, decode mX9_feed.2.1 q.1 = .ok (q.2.1, q.2.2) := by decide +kernel
def kX9_law : List (Nat × Instr × Nat) := [(0, .aload_n 0, 1), (1, .getfield 19, 3), (4, .invokevirtual 191, 3), (7, .istore_n 1, 1), (8, .iload_n 1, 1), (9, .ifCond .ge 7, 3), (12, .iconst 1, 1), (13, .goto 7, 3), (16, .bipush (-100), 2), (18, .iload_n 1, 1), (19, .isub, 1), (20, .ireturn, 1)]
set_option maxRecDepth 20000 in
theorem DX9_law : ∀ q ∈ kX9_law, decode mX9_law.2.1 q.1 = .ok (q.2.1, q.2.2) := by decide +kernel
def kX9_warmth : List (Nat × Instr × Nat) := [(0, .iload_n 1, 1), (1, .iconst (-1), 1), (2, .if_icmp .eq 10, 3), (5, .iload_n 1, 1), (6, .invokestatic 80, 3), (9, .ifCond .eq 10, 3), (12, .iload_n 2, 1), (13, .invokestatic 194, 3), (16, .ifCond .ne 5, 3), (19, .iconst (-1), 1), (20, .ireturn, 1), (21, .aload_n 0, 1), (22, .getfield 28, 3), (25, .iload_n 2, 1), (26, .invokevirtual 197, 3), (29, .iload_n 1, 1), (30, .ifCond .ge 16, 3), (33, .aload_n 0, 1), (34, .getfield 28, 3), (37, .getfield 201, 3), (40, .invokestatic 204, 3), (43, .goto 12, 3), (46, .aload_n 0, 1), (47, .getfield 28, 3), (50, .getfield 201, 3), (53, .iload_n 1, 1), (54, .iaload, 1), (55, .ireturn, 1)]
set_option maxRecDepth 20000 in
theorem DX9_warmth : ∀ q ∈ kX9_warmth, decode mX9_warmth.2.1 q.1 = .ok (q.2.1, q.2.2) := by decide +kernel
def kX9_cold : List (Nat × Instr × Nat) := [(0, .iload_n 1, 1), (1, .iconst 0, 1), (2, .bipush 99, 2), (4, .invokestatic 76, 3), (7, .ifCond .eq 10, 3), (10, .iload_n 2, 1), (11, .invokestatic 194, 3), (14, .ifCond .ne 5, 3), (17, .iconst (-1), 1), (18, .ireturn, 1), (19, .aload_n 0, 1), (20, .getfield 28, 3), (23, .iload_n 2, 1), (24, .invokevirtual 197, 3), (27, .iconst 0, 1), (28, .istore_n 3, 1), (29, .iconst 0, 1), (30, .istore 4, 2), (32, .iload 4, 2), (34, .bipush 16, 2), (36, .if_icmp .ge 40, 3), (39, .aload_n 0, 1), (40, .getfield 10, 3), (43, .getfield 132, 3), (46, .iload 4, 2), (48, .iaload, 1), (49, .iconst 1, 1), (50, .if_icmp .ne 20, 3), (53, .aload_n 0, 1), (54, .getfield 28, 3), (57, .getfield 201, 3), (60, .iload 4, 2), (62, .iaload, 1), (63, .iload_n 1, 1), (64, .if_icmp .ge 6, 3), (67, .iinc 3 1, 3), (70, .iinc 4 1, 3), (73, .goto (-41), 3), (76, .iload_n 3, 1), (77, .ireturn, 1)]
set_option maxRecDepth 20000 in
theorem DX9_cold : ∀ q ∈ kX9_cold, decode mX9_cold.2.1 q.1 = .ok (q.2.1, q.2.2) := by decide +kernel
def kX9_still : List (Nat × Instr × Nat) := [(0, .aload_n 0, 1), (1, .getfield 28, 3), (4, .invokevirtual 208, 3), (7, .ireturn, 1)]
set_option maxRecDepth 20000 in
theorem DX9_still : ∀ q ∈ kX9_still, decode mX9_still.2.1 q.1 = .ok (q.2.1, q.2.2) := by decide +kernel
def kX9_gave : List (Nat × Instr × Nat) := [(0, .iload_n 1, 1), (1, .invokestatic 109, 3), (4, .ifCond .eq 10, 3), (7, .iload_n 2, 1), (8, .invokestatic 194, 3), (11, .ifCond .ne 6, 3), (14, .ldc 108, 2), (16, .ireturn, 1), (17, .aload_n 0, 1), (18, .getfield 28, 3), (21, .iload_n 1, 1), (22, .iload_n 2, 1), (23, .invokevirtual 211, 3), (26, .ireturn, 1)]
set_option maxRecDepth 20000 in
theorem DX9_gave : ∀ q ∈ kX9_gave, decode mX9_gave.2.1 q.1 = .ok (q.2.1, q.2.2) := by decide +kernel
def kX9_leastFire : List (Nat × Instr × Nat) := [(0, .iload_n 1, 1), (1, .invokestatic 80, 3), (4, .ifCond .eq 26, 3), (7, .iload_n 2, 1), (8, .ifCond .lt 22, 3), (11, .iload_n 2, 1), (12, .bipush 100, 2), (14, .idiv, 1), (15, .bipush 99, 2), (17, .if_icmp .gt 13, 3), (20, .iload_n 2, 1), (21, .bipush 100, 2), (23, .irem, 1), (24, .invokestatic 194, 3), (27, .ifCond .ne 5, 3), (30, .iconst (-1), 1), (31, .ireturn, 1), (32, .aload_n 0, 1), (33, .getfield 28, 3), (36, .iload_n 1, 1), (37, .iload_n 2, 1), (38, .bipush 100, 2), (40, .idiv, 1), (41, .iload_n 2, 1), (42, .bipush 100, 2), (44, .irem, 1), (45, .invokevirtual 214, 3), (48, .ireturn, 1)]
set_option maxRecDepth 20000 in
theorem DX9_leastFire : ∀ q ∈ kX9_leastFire, decode mX9_leastFire.2.1 q.1 = .ok (q.2.1, q.2.2) := by decide +kernel
def kX9_days : List (Nat × Instr × Nat) := [(0, .iload_n 1, 1), (1, .iconst 1, 1), (2, .bipush 30, 2), (4, .invokestatic 76, 3), (7, .ifCond .ne 5, 3), (10, .iconst (-1), 1), (11, .ireturn, 1), (12, .aload_n 0, 1), (13, .getfield 28, 3), (16, .iload_n 1, 1), (17, .invokevirtual 218, 3), (20, .aload_n 0, 1), (21, .getfield 10, 3), (24, .getfield 129, 3), (27, .invokestatic 204, 3), (30, .ireturn, 1)]
set_option maxRecDepth 20000 in
theorem DX9_days : ∀ q ∈ kX9_days, decode mX9_days.2.1 q.1 = .ok (q.2.1, q.2.2) := by decide +kernel
def kX9_led : List (Nat × Instr × Nat) := [(0, .iload_n 1, 1), (1, .invokestatic 109, 3), (4, .ifCond .ne 6, 3), (7, .ldc 108, 2), (9, .ireturn, 1), (10, .aload_n 0, 1), (11, .getfield 28, 3), (14, .getfield 221, 3), (17, .ifCond .ne 8, 3), (20, .bipush (-5), 2), (22, .goto 12, 3), (25, .aload_n 0, 1), (26, .getfield 28, 3), (29, .getfield 224, 3), (32, .iload_n 1, 1), (33, .iaload, 1), (34, .ireturn, 1)]
set_option maxRecDepth 20000 in
theorem DX9_led : ∀ q ∈ kX9_led, decode mX9_led.2.1 q.1 = .ok (q.2.1, q.2.2) := by decide +kernel
def kX9_rounds : List (Nat × Instr × Nat) := [(0, .iload_n 1, 1), (1, .iconst (-1), 1), (2, .if_icmp .eq 12, 3), (5, .iload_n 1, 1), (6, .invokestatic 109, 3), (9, .ifCond .ne 5, 3), (12, .iconst (-1), 1), (13, .ireturn, 1), (14, .aload_n 0, 1), (15, .getfield 37, 3), (18, .invokevirtual 227, 3), (21, .istore_n 2, 1), (22, .iload_n 1, 1), (23, .ifCond .ge 7, 3), (26, .iload_n 2, 1), (27, .goto 11, 3), (30, .aload_n 0, 1), (31, .getfield 37, 3), (34, .iload_n 1, 1), (35, .invokevirtual 230, 3), (38, .ireturn, 1)]
set_option maxRecDepth 20000 in
theorem DX9_rounds : ∀ q ∈ kX9_rounds, decode mX9_rounds.2.1 q.1 = .ok (q.2.1, q.2.2) := by decide +kernel
def kX9_way : List (Nat × Instr × Nat) := [(0, .iload_n 1, 1), (1, .invokestatic 84, 3), (4, .ifCond .eq 21, 3), (7, .aload_n 0, 1), (8, .getfield 44, 3), (11, .iload_n 1, 1), (12, .bipush 100, 2), (14, .idiv, 1), (15, .iload_n 1, 1), (16, .bipush 100, 2), (18, .irem, 1), (19, .invokevirtual 234, 3), (22, .goto 4, 3), (25, .iconst (-1), 1), (26, .ireturn, 1)]
set_option maxRecDepth 20000 in
theorem DX9_way : ∀ q ∈ kX9_way, decode mX9_way.2.1 q.1 = .ok (q.2.1, q.2.2) := by decide +kernel
def kX9_doors : List (Nat × Instr × Nat) := [(0, .iload_n 1, 1), (1, .ifCond .ne 11, 3), (4, .aload_n 0, 1), (5, .getfield 44, 3), (8, .invokevirtual 237, 3), (11, .ireturn, 1), (12, .iload_n 1, 1), (13, .iconst 1, 1), (14, .if_icmp .ne 13, 3), (17, .aload_n 0, 1), (18, .getfield 44, 3), (21, .invokevirtual 240, 3), (24, .goto 4, 3), (27, .iconst (-1), 1), (28, .ireturn, 1)]
set_option maxRecDepth 20000 in
theorem DX9_doors : ∀ q ∈ kX9_doors, decode mX9_doors.2.1 q.1 = .ok (q.2.1, q.2.2) := by decide +kernel
def kX9_opened : List (Nat × Instr × Nat) := [(0, .iload_n 1, 1), (1, .iconst 0, 1), (2, .iconst 1, 1), (3, .invokestatic 76, 3), (6, .ifCond .ne 7, 3), (9, .ldc2_w 245, 3), (12, .lreturn, 1), (13, .aload_n 0, 1), (14, .getfield 44, 3), (17, .invokevirtual 247, 3), (20, .lstore_n 2, 1), (21, .iload_n 1, 1), (22, .ifCond .ne 11, 3), (25, .lload_n 2, 1), (26, .invokestatic 251, 3), (29, .i2l, 1), (30, .goto 4, 3), (33, .lload_n 2, 1), (34, .lreturn, 1)]
set_option maxRecDepth 20000 in
theorem DX9_opened : ∀ q ∈ kX9_opened, decode mX9_opened.2.1 q.1 = .ok (q.2.1, q.2.2) := by decide +kernel
def kX9_heard : List (Nat × Instr × Nat) := [(0, .iload_n 1, 1), (1, .invokestatic 84, 3), (4, .ifCond .eq 13, 3), (7, .iload_n 2, 1), (8, .iconst 0, 1), (9, .bipush 99, 2), (11, .invokestatic 76, 3), (14, .ifCond .ne 5, 3), (17, .iconst (-1), 1), (18, .ireturn, 1), (19, .aload_n 0, 1), (20, .getfield 44, 3), (23, .iload_n 1, 1), (24, .bipush 100, 2), (26, .idiv, 1), (27, .iload_n 1, 1), (28, .bipush 100, 2), (30, .irem, 1), (31, .iload_n 2, 1), (32, .invokevirtual 255, 3), (35, .ireturn, 1)]
set_option maxRecDepth 20000 in
theorem DX9_heard : ∀ q ∈ kX9_heard, decode mX9_heard.2.1 q.1 = .ok (q.2.1, q.2.2) := by decide +kernel
def kX9_whose : List (Nat × Instr × Nat) := [(0, .iload_n 1, 1), (1, .iconst 0, 1), (2, .bipush 99, 2), (4, .invokestatic 76, 3), (7, .ifCond .eq 14, 3), (10, .iload_n 2, 1), (11, .iconst 0, 1), (12, .ldc_w 258, 3), (15, .invokestatic 76, 3), (18, .ifCond .ne 5, 3), (21, .iconst (-1), 1), (22, .ireturn, 1), (23, .aload_n 0, 1), (24, .getfield 44, 3), (27, .iload_n 1, 1), (28, .iload_n 2, 1), (29, .invokevirtual 259, 3), (32, .ireturn, 1)]
set_option maxRecDepth 20000 in
theorem DX9_whose : ∀ q ∈ kX9_whose, decode mX9_whose.2.1 q.1 = .ok (q.2.1, q.2.2) := by decide +kernel
def kX9_colours : List (Nat × Instr × Nat) := [(0, .iload_n 1, 1), (1, .tableswitch 51 0 2 #[27, 35, 43], 27), (28, .aload_n 0, 1), (29, .getfield 37, 3), (32, .invokevirtual 262, 3), (35, .ireturn, 1), (36, .aload_n 0, 1), (37, .getfield 37, 3), (40, .invokevirtual 265, 3), (43, .ireturn, 1), (44, .aload_n 0, 1), (45, .getfield 37, 3), (48, .invokevirtual 268, 3), (51, .ireturn, 1), (52, .iconst (-1), 1), (53, .ireturn, 1)]
set_option maxRecDepth 20000 in
theorem DX9_colours : ∀ q ∈ kX9_colours, decode mX9_colours.2.1 q.1 = .ok (q.2.1, q.2.2) := by decide +kernel
def kX9_paint : List (Nat × Instr × Nat) := [(0, .iload_n 1, 1), (1, .invokestatic 109, 3), (4, .ifCond .eq 21, 3), (7, .aload_n 0, 1), (8, .getfield 37, 3), (11, .iload_n 1, 1), (12, .aload_n 0, 1), (13, .getfield 10, 3), (16, .getfield 148, 3), (19, .invokevirtual 271, 3), (22, .goto 4, 3), (25, .iconst (-1), 1), (26, .ireturn, 1)]
set_option maxRecDepth 20000 in
theorem DX9_paint : ∀ q ∈ kX9_paint, decode mX9_paint.2.1 q.1 = .ok (q.2.1, q.2.2) := by decide +kernel
def kX9_empty : List (Nat × Instr × Nat) := [(0, .iload_n 1, 1), (1, .invokestatic 80, 3), (4, .ifCond .ne 5, 3), (7, .iconst (-1), 1), (8, .ireturn, 1), (9, .aload_n 0, 1), (10, .getfield 10, 3), (13, .getfield 132, 3), (16, .iload_n 1, 1), (17, .iaload, 1), (18, .ifCond .ne 6, 3), (21, .bipush (-5), 2), (23, .ireturn, 1), (24, .aload_n 0, 1), (25, .getfield 10, 3), (28, .getfield 132, 3), (31, .iload_n 1, 1), (32, .iconst 0, 1), (33, .iastore, 1), (34, .aload_n 0, 1), (35, .getfield 10, 3), (38, .getfield 122, 3), (41, .iload_n 1, 1), (42, .iconst 0, 1), (43, .iastore, 1), (44, .aload_n 0, 1), (45, .getfield 10, 3), (48, .getfield 132, 3), (51, .invokestatic 204, 3), (54, .ireturn, 1)]
set_option maxRecDepth 20000 in
theorem DX9_empty : ∀ q ∈ kX9_empty, decode mX9_empty.2.1 q.1 = .ok (q.2.1, q.2.2) := by decide +kernel
def kX9_takes : List (Nat × Instr × Nat) := [(0, .iload_n 1, 1), (1, .invokestatic 80, 3), (4, .ifCond .eq 12, 3), (7, .iload_n 2, 1), (8, .iconst 0, 1), (9, .iconst 1, 1), (10, .invokestatic 76, 3), (13, .ifCond .ne 5, 3), (16, .iconst (-1), 1), (17, .ireturn, 1), (18, .aload_n 0, 1), (19, .getfield 10, 3), (22, .getfield 132, 3), (25, .iload_n 1, 1), (26, .iaload, 1), (27, .iconst 1, 1), (28, .if_icmp .ne 6, 3), (31, .bipush (-5), 2), (33, .ireturn, 1), (34, .aload_n 0, 1), (35, .getfield 51, 3), (38, .iload_n 1, 1), (39, .invokevirtual 274, 3), (42, .istore_n 3, 1), (43, .iload_n 3, 1), (44, .ifCond .ge 6, 3), (47, .bipush (-2), 2), (49, .ireturn, 1), (50, .iload_n 2, 1), (51, .iconst 1, 1), (52, .if_icmp .ne 12, 3), (55, .aload_n 0, 1), (56, .getfield 51, 3), (59, .iload_n 1, 1), (60, .iload_n 3, 1), (61, .invokevirtual 277, 3), (64, .iload_n 3, 1), (65, .ireturn, 1)]
set_option maxRecDepth 20000 in
theorem DX9_takes : ∀ q ∈ kX9_takes, decode mX9_takes.2.1 q.1 = .ok (q.2.1, q.2.2) := by decide +kernel
def kX9_where : List (Nat × Instr × Nat) := [(0, .iload_n 1, 1), (1, .invokestatic 194, 3), (4, .ifCond .ne 5, 3), (7, .iconst (-1), 1), (8, .ireturn, 1), (9, .aload_n 0, 1), (10, .getfield 28, 3), (13, .iload_n 1, 1), (14, .invokevirtual 197, 3), (17, .bipush (-2), 2), (19, .istore_n 2, 1), (20, .iconst 0, 1), (21, .istore_n 3, 1), (22, .iload_n 3, 1), (23, .bipush 16, 2), (25, .if_icmp .ge 48, 3), (28, .aload_n 0, 1), (29, .getfield 10, 3), (32, .getfield 132, 3), (35, .iload_n 3, 1), (36, .iaload, 1), (37, .ifCond .ne 30, 3), (40, .iload_n 2, 1), (41, .ifCond .lt 24, 3), (44, .aload_n 0, 1), (45, .getfield 28, 3), (48, .getfield 201, 3), (51, .iload_n 3, 1), (52, .iaload, 1), (53, .aload_n 0, 1), (54, .getfield 28, 3), (57, .getfield 201, 3), (60, .iload_n 2, 1), (61, .iaload, 1), (62, .if_icmp .le 5, 3), (65, .iload_n 3, 1), (66, .istore_n 2, 1), (67, .iinc 3 1, 3), (70, .goto (-48), 3), (73, .iload_n 2, 1), (74, .ireturn, 1)]
set_option maxRecDepth 20000 in
theorem DX9_where : ∀ q ∈ kX9_where, decode mX9_where.2.1 q.1 = .ok (q.2.1, q.2.2) := by decide +kernel
def kX9_years : List (Nat × Instr × Nat) := [(0, .iload_n 2, 1), (1, .iconst 1, 1), (2, .bipush 20, 2), (4, .invokestatic 76, 3), (7, .ifCond .ne 5, 3), (10, .iconst (-1), 1), (11, .ireturn, 1), (12, .aload_n 0, 1), (13, .getfield 51, 3), (16, .iload_n 1, 1), (17, .iload_n 2, 1), (18, .invokevirtual 281, 3), (21, .aload_n 0, 1), (22, .getfield 10, 3), (25, .getfield 132, 3), (28, .invokestatic 204, 3), (31, .ireturn, 1)]
set_option maxRecDepth 20000 in
theorem DX9_years : ∀ q ∈ kX9_years, decode mX9_years.2.1 q.1 = .ok (q.2.1, q.2.2) := by decide +kernel
def kX9_image : List (Nat × Instr × Nat) := [(0, .aload_n 0, 1), (1, .getfield 51, 3), (4, .invokevirtual 284, 3), (7, .aload_n 0, 1), (8, .getfield 10, 3), (11, .getfield 129, 3), (14, .invokestatic 204, 3), (17, .ireturn, 1)]
set_option maxRecDepth 20000 in
theorem DX9_image : ∀ q ∈ kX9_image, decode mX9_image.2.1 q.1 = .ok (q.2.1, q.2.2) := by decide +kernel
def kX9_back : List (Nat × Instr × Nat) := [(0, .aload_n 0, 1), (1, .getfield 51, 3), (4, .invokevirtual 287, 3), (7, .ifCond .eq 16, 3), (10, .aload_n 0, 1), (11, .getfield 10, 3), (14, .getfield 129, 3), (17, .invokestatic 204, 3), (20, .goto 5, 3), (23, .bipush (-5), 2), (25, .ireturn, 1)]
set_option maxRecDepth 20000 in
theorem DX9_back : ∀ q ∈ kX9_back, decode mX9_back.2.1 q.1 = .ok (q.2.1, q.2.2) := by decide +kernel
def kX9_undo : List (Nat × Instr × Nat) := [(0, .aload_n 0, 1), (1, .getfield 58, 3), (4, .invokevirtual 291, 3), (7, .ireturn, 1)]
set_option maxRecDepth 20000 in
theorem DX9_undo : ∀ q ∈ kX9_undo, decode mX9_undo.2.1 q.1 = .ok (q.2.1, q.2.2) := by decide +kernel
def kX9_redo : List (Nat × Instr × Nat) := [(0, .aload_n 0, 1), (1, .getfield 58, 3), (4, .invokevirtual 294, 3), (7, .ireturn, 1)]
set_option maxRecDepth 20000 in
theorem DX9_redo : ∀ q ∈ kX9_redo, decode mX9_redo.2.1 q.1 = .ok (q.2.1, q.2.2) := by decide +kernel
def kX9_body : List (Nat × Instr × Nat) := [(0, .aload_n 0, 1), (1, .getfield 65, 3), (4, .iload_n 1, 1), (5, .invokevirtual 297, 3), (8, .ifCond .ne 5, 3), (11, .iconst (-1), 1), (12, .ireturn, 1), (13, .aload_n 0, 1), (14, .getfield 65, 3), (17, .iload_n 1, 1), (18, .invokevirtual 300, 3), (21, .ireturn, 1)]
set_option maxRecDepth 20000 in
theorem DX9_body : ∀ q ∈ kX9_body, decode mX9_body.2.1 q.1 = .ok (q.2.1, q.2.2) := by decide +kernel
def kX9_act : List (Nat × Instr × Nat) := [(0, .aload_n 0, 1), (1, .getfield 65, 3), (4, .iload_n 1, 1), (5, .iload_n 2, 1), (6, .iload_n 3, 1), (7, .invokevirtual 303, 3), (10, .ireturn, 1)]
set_option maxRecDepth 20000 in
theorem DX9_act : ∀ q ∈ kX9_act, decode mX9_act.2.1 q.1 = .ok (q.2.1, q.2.2) := by decide +kernel
def kX9_trace : List (Nat × Instr × Nat) := [(0, .aload_n 0, 1), (1, .getfield 65, 3), (4, .iload_n 1, 1), (5, .invokevirtual 306, 3), (8, .ireturn, 1)]
set_option maxRecDepth 20000 in
theorem DX9_trace : ∀ q ∈ kX9_trace, decode mX9_trace.2.1 q.1 = .ok (q.2.1, q.2.2) := by decide +kernel
def kX9_keep : List (Nat × Instr × Nat) := [(0, .aload_n 0, 1), (1, .getfield 72, 3), (4, .iload_n 1, 1), (5, .invokevirtual 163, 3), (8, .ifCond .eq 19, 3), (11, .iload_n 2, 1), (12, .iconst (-1), 1), (13, .if_icmp .eq 16, 3), (16, .aload_n 0, 1), (17, .getfield 65, 3), (20, .iload_n 2, 1), (21, .invokevirtual 309, 3), (24, .ifCond .ne 5, 3), (27, .iconst (-1), 1), (28, .ireturn, 1), (29, .aload_n 0, 1), (30, .getfield 72, 3), (33, .iload_n 1, 1), (34, .iload_n 2, 1), (35, .invokevirtual 312, 3), (38, .iconst 1, 1), (39, .ireturn, 1)]
set_option maxRecDepth 20000 in
theorem DX9_keep : ∀ q ∈ kX9_keep, decode mX9_keep.2.1 q.1 = .ok (q.2.1, q.2.2) := by decide +kernel
def kX9_row : List (Nat × Instr × Nat) := [(0, .aload_n 0, 1), (1, .getfield 72, 3), (4, .iload_n 1, 1), (5, .invokevirtual 163, 3), (8, .ifCond .eq 20, 3), (11, .aload_n 0, 1), (12, .getfield 72, 3), (15, .iload_n 2, 1), (16, .invokevirtual 315, 3), (19, .ifCond .eq 9, 3), (22, .iload_n 3, 1), (23, .bipush 60, 2), (25, .if_icmp .le 5, 3), (28, .iconst (-1), 1), (29, .ireturn, 1), (30, .iload_n 3, 1), (31, .ifCond .ge 6, 3), (34, .bipush (-14), 2), (36, .ireturn, 1), (37, .aload_n 0, 1), (38, .getfield 72, 3), (41, .iload_n 1, 1), (42, .iload_n 2, 1), (43, .iload_n 3, 1), (44, .invokevirtual 318, 3), (47, .iconst 1, 1), (48, .ireturn, 1)]
set_option maxRecDepth 20000 in
theorem DX9_row : ∀ q ∈ kX9_row, decode mX9_row.2.1 q.1 = .ok (q.2.1, q.2.2) := by decide +kernel
def kX9_put : List (Nat × Instr × Nat) := [(0, .aload_n 0, 1), (1, .getfield 72, 3), (4, .iload_n 1, 1), (5, .iload_n 2, 1), (6, .invokevirtual 321, 3), (9, .istore 5, 2), (11, .iload 5, 2), (13, .ifCond .eq 6, 3), (16, .iload 5, 2), (18, .ireturn, 1), (19, .aload_n 0, 1), (20, .getfield 72, 3), (23, .iload_n 1, 1), (24, .iload_n 2, 1), (25, .lload_n 3, 1), (26, .invokevirtual 324, 3), (29, .iconst 1, 1), (30, .ireturn, 1)]
set_option maxRecDepth 20000 in
theorem DX9_put : ∀ q ∈ kX9_put, decode mX9_put.2.1 q.1 = .ok (q.2.1, q.2.2) := by decide +kernel
def kX9_element : List (Nat × Instr × Nat) := [(0, .aload_n 0, 1), (1, .getfield 72, 3), (4, .iload_n 1, 1), (5, .iload_n 2, 1), (6, .invokevirtual 321, 3), (9, .ifCond .eq 9, 3), (12, .ldc2_w 245, 3), (15, .goto 12, 3), (18, .aload_n 0, 1), (19, .getfield 72, 3), (22, .iload_n 1, 1), (23, .iload_n 2, 1), (24, .invokevirtual 178, 3), (27, .lreturn, 1)]
set_option maxRecDepth 20000 in
theorem DX9_element : ∀ q ∈ kX9_element, decode mX9_element.2.1 q.1 = .ok (q.2.1, q.2.2) := by decide +kernel
def kX9_shift : List (Nat × Instr × Nat) := [(0, .aload_n 0, 1), (1, .getfield 72, 3), (4, .iload_n 1, 1), (5, .iload_n 3, 1), (6, .invokevirtual 328, 3), (9, .istore 6, 2), (11, .iload 6, 2), (13, .ifCond .eq 6, 3), (16, .iload 6, 2), (18, .ireturn, 1), (19, .aload_n 0, 1), (20, .getfield 72, 3), (23, .iload_n 1, 1), (24, .iload_n 2, 1), (25, .iload 5, 2), (27, .invokevirtual 331, 3), (30, .ifCond .eq 18, 3), (33, .aload_n 0, 1), (34, .getfield 72, 3), (37, .iload_n 3, 1), (38, .iload 4, 2), (40, .iload 5, 2), (42, .invokevirtual 331, 3), (45, .ifCond .ne 6, 3), (48, .bipush (-13), 2), (50, .ireturn, 1), (51, .aload_n 0, 1), (52, .getfield 72, 3), (55, .iload_n 1, 1), (56, .iload_n 2, 1), (57, .iload_n 3, 1), (58, .iload 4, 2), (60, .iload 5, 2), (62, .invokevirtual 334, 3), (65, .iload 5, 2), (67, .ireturn, 1)]
set_option maxRecDepth 20000 in
theorem DX9_shift : ∀ q ∈ kX9_shift, decode mX9_shift.2.1 q.1 = .ok (q.2.1, q.2.2) := by decide +kernel
def kX9_taken : List (Nat × Instr × Nat) := [(0, .aload_n 0, 1), (1, .getfield 72, 3), (4, .iload_n 1, 1), (5, .invokevirtual 163, 3), (8, .ifCond .eq 14, 3), (11, .aload_n 0, 1), (12, .getfield 65, 3), (15, .iload_n 2, 1), (16, .invokevirtual 297, 3), (19, .ifCond .ne 5, 3), (22, .iconst (-1), 1), (23, .ireturn, 1), (24, .aload_n 0, 1), (25, .getfield 72, 3), (28, .iload_n 1, 1), (29, .invokevirtual 338, 3), (32, .ifCond .eq 6, 3), (35, .bipush (-11), 2), (37, .ireturn, 1), (38, .aload_n 0, 1), (39, .getfield 72, 3), (42, .iload_n 1, 1), (43, .invokevirtual 341, 3), (46, .istore_n 3, 1), (47, .aload_n 0, 1), (48, .getfield 65, 3), (51, .iload_n 3, 1), (52, .iload_n 2, 1), (53, .invokevirtual 344, 3), (56, .ifCond .eq 14, 3), (59, .aload_n 0, 1), (60, .getfield 65, 3), (63, .iload_n 3, 1), (64, .invokevirtual 347, 3), (67, .goto 5, 3), (70, .bipush (-12), 2), (72, .ireturn, 1)]
set_option maxRecDepth 20000 in
theorem DX9_taken : ∀ q ∈ kX9_taken, decode mX9_taken.2.1 q.1 = .ok (q.2.1, q.2.2) := by decide +kernel
def kX9_count : List (Nat × Instr × Nat) := [(0, .iload_n 1, 1), (1, .tableswitch 105 0 6 #[43, 54, 65, 73, 81, 89, 97], 43), (44, .aload_n 0, 1), (45, .getfield 10, 3), (48, .getfield 132, 3), (51, .invokestatic 204, 3), (54, .ireturn, 1), (55, .aload_n 0, 1), (56, .getfield 10, 3), (59, .getfield 145, 3), (62, .invokestatic 204, 3), (65, .ireturn, 1), (66, .aload_n 0, 1), (67, .getfield 28, 3), (70, .getfield 221, 3), (73, .ireturn, 1), (74, .aload_n 0, 1), (75, .getfield 19, 3), (78, .invokevirtual 187, 3), (81, .ireturn, 1), (82, .aload_n 0, 1), (83, .getfield 58, 3), (86, .invokevirtual 350, 3), (89, .ireturn, 1), (90, .aload_n 0, 1), (91, .getfield 65, 3), (94, .invokevirtual 353, 3), (97, .ireturn, 1), (98, .aload_n 0, 1), (99, .getfield 65, 3), (102, .invokevirtual 356, 3), (105, .ireturn, 1), (106, .iconst (-1), 1), (107, .ireturn, 1)]
set_option maxRecDepth 20000 in
theorem DX9_count : ∀ q ∈ kX9_count, decode mX9_count.2.1 q.1 = .ok (q.2.1, q.2.2) := by decide +kernel
def kJ6_compare_7cf53 : List (Nat × Instr × Nat) := [(0, .iload_n 0, 1), (1, .iload_n 1, 1), (2, .if_icmp .ge 7, 3), (5, .iconst (-1), 1), (6, .goto 13, 3), (9, .iload_n 0, 1), (10, .iload_n 1, 1), (11, .if_icmp .ne 7, 3), (14, .iconst 0, 1), (15, .goto 4, 3), (18, .iconst 1, 1), (19, .ireturn, 1)]
set_option maxRecDepth 20000 in
theorem DJ6_compare_7cf53 : ∀ q ∈ kJ6_compare_7cf53, decode mJ6_compare_7cf53.2.1 q.1 = .ok (q.2.1, q.2.2) := by decide +kernel
def kJ6_bitCount_0f7a4 : List (Nat × Instr × Nat) := [(0, .iload_n 0, 1), (1, .iload_n 0, 1), (2, .iconst 1, 1), (3, .iushr, 1), (4, .ldc_w 265, 3), (7, .iand, 1), (8, .isub, 1), (9, .istore_n 0, 1), (10, .iload_n 0, 1), (11, .ldc_w 266, 3), (14, .iand, 1), (15, .iload_n 0, 1), (16, .iconst 2, 1), (17, .iushr, 1), (18, .ldc_w 266, 3), (21, .iand, 1), (22, .iadd, 1), (23, .istore_n 0, 1), (24, .iload_n 0, 1), (25, .iload_n 0, 1), (26, .iconst 4, 1), (27, .iushr, 1), (28, .iadd, 1), (29, .ldc_w 267, 3), (32, .iand, 1), (33, .istore_n 0, 1), (34, .iload_n 0, 1), (35, .iload_n 0, 1), (36, .bipush 8, 2), (38, .iushr, 1), (39, .iadd, 1), (40, .istore_n 0, 1), (41, .iload_n 0, 1), (42, .iload_n 0, 1), (43, .bipush 16, 2), (45, .iushr, 1), (46, .iadd, 1), (47, .istore_n 0, 1), (48, .iload_n 0, 1), (49, .bipush 63, 2), (51, .iand, 1), (52, .ireturn, 1)]
set_option maxRecDepth 20000 in
theorem DJ6_bitCount_0f7a4 : ∀ q ∈ kJ6_bitCount_0f7a4, decode mJ6_bitCount_0f7a4.2.1 q.1 = .ok (q.2.1, q.2.2) := by decide +kernel
def kJ13_bitCount_95d88 : List (Nat × Instr × Nat) := [(0, .lload_n 0, 1), (1, .lload_n 0, 1), (2, .iconst 1, 1), (3, .lushr, 1), (4, .ldc2_w 314, 3), (7, .land, 1), (8, .lsub, 1), (9, .lstore_n 0, 1), (10, .lload_n 0, 1), (11, .ldc2_w 316, 3), (14, .land, 1), (15, .lload_n 0, 1), (16, .iconst 2, 1), (17, .lushr, 1), (18, .ldc2_w 316, 3), (21, .land, 1), (22, .ladd, 1), (23, .lstore_n 0, 1), (24, .lload_n 0, 1), (25, .lload_n 0, 1), (26, .iconst 4, 1), (27, .lushr, 1), (28, .ladd, 1), (29, .ldc2_w 318, 3), (32, .land, 1), (33, .lstore_n 0, 1), (34, .lload_n 0, 1), (35, .lload_n 0, 1), (36, .bipush 8, 2), (38, .lushr, 1), (39, .ladd, 1), (40, .lstore_n 0, 1), (41, .lload_n 0, 1), (42, .lload_n 0, 1), (43, .bipush 16, 2), (45, .lushr, 1), (46, .ladd, 1), (47, .lstore_n 0, 1), (48, .lload_n 0, 1), (49, .lload_n 0, 1), (50, .bipush 32, 2), (52, .lushr, 1), (53, .ladd, 1), (54, .lstore_n 0, 1), (55, .lload_n 0, 1), (56, .l2i, 1), (57, .bipush 127, 2), (59, .iand, 1), (60, .ireturn, 1)]
set_option maxRecDepth 20000 in
theorem DJ13_bitCount_95d88 : ∀ q ∈ kJ13_bitCount_95d88, decode mJ13_bitCount_95d88.2.1 q.1 = .ok (q.2.1, q.2.2) := by decide +kernel
def kJ9_abs_0f7a4 : List (Nat × Instr × Nat) := [(0, .iload_n 0, 1), (1, .ifCond .ge 8, 3), (4, .iload_n 0, 1), (5, .ineg, 1), (6, .goto 4, 3), (9, .iload_n 0, 1), (10, .ireturn, 1)]
set_option maxRecDepth 20000 in
theorem DJ9_abs_0f7a4 : ∀ q ∈ kJ9_abs_0f7a4, decode mJ9_abs_0f7a4.2.1 q.1 = .ok (q.2.1, q.2.2) := by decide +kernel
def kJ9_max_7cf53 : List (Nat × Instr × Nat) := [(0, .iload_n 0, 1), (1, .iload_n 1, 1), (2, .if_icmp .lt 7, 3), (5, .iload_n 0, 1), (6, .goto 4, 3), (9, .iload_n 1, 1), (10, .ireturn, 1)]
set_option maxRecDepth 20000 in
theorem DJ9_max_7cf53 : ∀ q ∈ kJ9_max_7cf53, decode mJ9_max_7cf53.2.1 q.1 = .ok (q.2.1, q.2.2) := by decide +kernel
def kJ9_min_7cf53 : List (Nat × Instr × Nat) := [(0, .iload_n 0, 1), (1, .iload_n 1, 1), (2, .if_icmp .gt 7, 3), (5, .iload_n 0, 1), (6, .goto 4, 3), (9, .iload_n 1, 1), (10, .ireturn, 1)]
set_option maxRecDepth 20000 in
theorem DJ9_min_7cf53 : ∀ q ∈ kJ9_min_7cf53, decode mJ9_min_7cf53.2.1 q.1 = .ok (q.2.1, q.2.2) := by decide +kernel
end
section
/-! the instructions of each method, by program -/
def kX10_within : List (Nat × Instr × Nat) := [(0, .lload_n 0, 1), (1, .lload_n 2, 1), (2, .lcmp, 1), (3, .ifCond .lt 14, 3), (6, .lload_n 0, 1), (7, .lload 4, 2), (9, .lcmp, 1), (10, .ifCond .gt 7, 3), (13, .iconst 1, 1), (14, .goto 4, 3), (17, .iconst 0, 1), (18, .ireturn, 1)]
set_option maxRecDepth 20000 in
theorem DX10_within : ∀ q ∈ kX10_within, decode mX10_within.2.1 q.1 = .ok (q.2.1, q.2.2) := by decide +kernel
def kX10_isIn : List (Nat × Instr × Nat) := [(0, .lload_n 0, 1), (1, .iload_n 2, 1), (2, .lshr, 1), (3, .lconst 1, 1), (4, .land, 1), (5, .lconst 1, 1), (6, .lcmp, 1), (7, .ifCond .ne 7, 3), (10, .iconst 1, 1), (11, .goto 4, 3), (14, .iconst 0, 1), (15, .ireturn, 1)]
set_option maxRecDepth 20000 in
theorem DX10_isIn : ∀ q ∈ kX10_isIn, decode mX10_isIn.2.1 q.1 = .ok (q.2.1, q.2.2) := by decide +kernel
def kX10_init : List (Nat × Instr × Nat) := [(0, .aload_n 0, 1), (1, .invokespecial 3, 3), (4, .aload_n 0, 1), (5, .sipush 133, 3), (8, .newarray .int, 2), (10, .putfield 9, 3), (13, .aload_n 0, 1), (14, .bipush 40, 2), (16, .newarray .int, 2), (18, .putfield 13, 3), (21, .aload_n 0, 1), (22, .bipush 40, 2), (24, .newarray .int, 2), (26, .putfield 16, 3), (29, .aload_n 0, 1), (30, .bipush 40, 2), (32, .newarray .int, 2), (34, .putfield 19, 3), (37, .aload_n 0, 1), (38, .bipush 33, 2), (40, .newarray .int, 2), (42, .putfield 22, 3), (45, .aload_n 0, 1), (46, .bipush 33, 2), (48, .newarray .int, 2), (50, .putfield 25, 3), (53, .aload_n 0, 1), (54, .bipush 16, 2), (56, .newarray .int, 2), (58, .putfield 28, 3), (61, .aload_n 0, 1), (62, .bipush 16, 2), (64, .newarray .boolean, 2), (66, .putfield 31, 3), (69, .aload_n 0, 1), (70, .bipush 120, 2), (72, .newarray .int, 2), (74, .putfield 35, 3), (77, .aload_n 0, 1), (78, .bipush 120, 2), (80, .newarray .int, 2), (82, .putfield 38, 3), (85, .aload_n 0, 1), (86, .iconst 5, 1), (87, .newarray .int, 2), (89, .putfield 41, 3), (92, .aload_n 0, 1), (93, .bipush 16, 2), (95, .newarray .int, 2), (97, .putfield 44, 3), (100, .aload_n 0, 1), (101, .bipush 16, 2), (103, .newarray .int, 2), (105, .putfield 47, 3), (108, .aload_n 0, 1), (109, .bipush 33, 2), (111, .newarray .int, 2), (113, .putfield 50, 3), (116, .aload_n 0, 1), (117, .bipush 33, 2), (119, .newarray .int, 2), (121, .putfield 53, 3), (124, .aload_n 0, 1), (125, .bipush 33, 2), (127, .newarray .int, 2), (129, .putfield 56, 3), (132, .aload_n 0, 1), (133, .bipush 33, 2), (135, .newarray .int, 2), (137, .putfield 59, 3), (140, .aload_n 0, 1), (141, .bipush 16, 2), (143, .newarray .int, 2), (145, .putfield 62, 3), (148, .aload_n 0, 1), (149, .bipush 33, 2), (151, .newarray .int, 2), (153, .putfield 65, 3), (156, .aload_n 0, 1), (157, .bipush 16, 2), (159, .newarray .int, 2), (161, .putfield 68, 3), (164, .aload_n 0, 1), (165, .bipush 16, 2), (167, .newarray .boolean, 2), (169, .putfield 71, 3), (172, .aload_n 0, 1), (173, .bipush 50, 2), (175, .newarray .int, 2), (177, .putfield 74, 3), (180, .aload_n 0, 1), (181, .bipush 24, 2), (183, .newarray .int, 2), (185, .putfield 77, 3), (188, .aload_n 0, 1), (189, .bipush 6, 2), (191, .newarray .int, 2), (193, .putfield 80, 3), (196, .aload_n 0, 1), (197, .bipush 6, 2), (199, .newarray .int, 2), (201, .putfield 83, 3), (204, .aload_n 0, 1), (205, .sipush 360, 3), (208, .newarray .long, 2), (210, .putfield 86, 3), (213, .aload_n 0, 1), (214, .bipush 60, 2), (216, .newarray .long, 2), (218, .putfield 90, 3), (221, .iconst 0, 1), (222, .istore_n 1, 1), (223, .iload_n 1, 1), (224, .bipush 6, 2), (226, .if_icmp .ge 16, 3), (229, .aload_n 0, 1), (230, .getfield 80, 3), (233, .iload_n 1, 1), (234, .iconst (-1), 1), (235, .iastore, 1), (236, .iinc 1 1, 3), (239, .goto (-16), 3), (242, .aload_n 0, 1), (243, .iconst (-1), 1), (244, .putfield 93, 3), (247, .iconst 0, 1), (248, .istore_n 1, 1), (249, .iload_n 1, 1), (250, .bipush 16, 2), (252, .if_icmp .ge 88, 3), (255, .iload_n 1, 1), (256, .iconst 1, 1), (257, .iadd, 1), (258, .istore_n 2, 1), (259, .iload_n 2, 1), (260, .bipush 16, 2), (262, .if_icmp .ge 47, 3), (265, .iload_n 1, 1), (266, .iload_n 2, 1), (267, .invokestatic 97, 3), (270, .ifCond .eq 33, 3), (273, .aload_n 0, 1), (274, .getfield 22, 3), (277, .aload_n 0, 1), (278, .getfield 101, 3), (281, .iload_n 1, 1), (282, .iastore, 1), (283, .aload_n 0, 1), (284, .getfield 25, 3), (287, .aload_n 0, 1), (288, .getfield 101, 3), (291, .iload_n 2, 1), (292, .iastore, 1), (293, .aload_n 0, 1), (294, .dup, 1), (295, .getfield 101, 3), (298, .iconst 1, 1), (299, .iadd, 1), (300, .putfield 101, 3), (303, .iinc 2 1, 3), (306, .goto (-47), 3), (309, .aload_n 0, 1), (310, .getfield 9, 3), (313, .bipush 16, 2), (315, .iload_n 1, 1), (316, .iadd, 1), (317, .iconst 4, 1), (318, .iastore, 1), (319, .aload_n 0, 1), (320, .getfield 28, 3), (323, .iload_n 1, 1), (324, .bipush 20, 2), (326, .iastore, 1), (327, .aload_n 0, 1), (328, .getfield 31, 3), (331, .iload_n 1, 1), (332, .iconst 1, 1), (333, .bastore, 1), (334, .iinc 1 1, 3), (337, .goto (-88), 3), (340, .iconst 0, 1), (341, .istore_n 1, 1), (342, .iload_n 1, 1), (343, .bipush 33, 2), (345, .if_icmp .ge 19, 3), (348, .aload_n 0, 1), (349, .getfield 9, 3), (352, .bipush 32, 2), (354, .iload_n 1, 1), (355, .iadd, 1), (356, .iconst 3, 1), (357, .iastore, 1), (358, .iinc 1 1, 3), (361, .goto (-19), 3), (364, .aload_n 0, 1), (365, .getfield 9, 3), (368, .sipush 131, 3), (371, .iconst 2, 1), (372, .iastore, 1), (373, .aload_n 0, 1), (374, .getfield 9, 3), (377, .sipush 132, 3), (380, .bipush 30, 2), (382, .iastore, 1), (383, .return_, 1)]
set_option maxRecDepth 20000 in
theorem DX10_init : ∀ q ∈ kX10_init, decode mX10_init.2.1 q.1 = .ok (q.2.1, q.2.2) := by decide +kernel
def kX10_becomes : List (Nat × Instr × Nat) := [(0, .aload_n 0, 1), (1, .getfield 9, 3), (4, .iload_n 1, 1), (5, .iaload, 1), (6, .istore_n 3, 1), (7, .iload_n 3, 1), (8, .iload_n 2, 1), (9, .if_icmp .ne 5, 3), (12, .iload_n 3, 1), (13, .ireturn, 1), (14, .aload_n 0, 1), (15, .getfield 104, 3), (18, .bipush 40, 2), (20, .if_icmp .ne 77, 3), (23, .iconst 1, 1), (24, .istore 4, 2), (26, .iload 4, 2), (28, .bipush 40, 2), (30, .if_icmp .ge 57, 3), (33, .aload_n 0, 1), (34, .getfield 13, 3), (37, .iload 4, 2), (39, .iconst 1, 1), (40, .isub, 1), (41, .aload_n 0, 1), (42, .getfield 13, 3), (45, .iload 4, 2), (47, .iaload, 1), (48, .iastore, 1), (49, .aload_n 0, 1), (50, .getfield 16, 3), (53, .iload 4, 2), (55, .iconst 1, 1), (56, .isub, 1), (57, .aload_n 0, 1), (58, .getfield 16, 3), (61, .iload 4, 2), (63, .iaload, 1), (64, .iastore, 1), (65, .aload_n 0, 1), (66, .getfield 19, 3), (69, .iload 4, 2), (71, .iconst 1, 1), (72, .isub, 1), (73, .aload_n 0, 1), (74, .getfield 19, 3), (77, .iload 4, 2), (79, .iaload, 1), (80, .iastore, 1), (81, .iinc 4 1, 3), (84, .goto (-58), 3), (87, .aload_n 0, 1), (88, .dup, 1), (89, .getfield 104, 3), (92, .iconst 1, 1), (93, .isub, 1), (94, .putfield 104, 3), (97, .aload_n 0, 1), (98, .getfield 13, 3), (101, .aload_n 0, 1), (102, .getfield 104, 3), (105, .iload_n 1, 1), (106, .iastore, 1), (107, .aload_n 0, 1), (108, .getfield 16, 3), (111, .aload_n 0, 1), (112, .getfield 104, 3), (115, .iload_n 3, 1), (116, .iastore, 1), (117, .aload_n 0, 1), (118, .getfield 19, 3), (121, .aload_n 0, 1), (122, .getfield 104, 3), (125, .iload_n 2, 1), (126, .iastore, 1), (127, .aload_n 0, 1), (128, .dup, 1), (129, .getfield 104, 3), (132, .iconst 1, 1), (133, .iadd, 1), (134, .putfield 104, 3), (137, .aload_n 0, 1), (138, .aload_n 0, 1), (139, .getfield 104, 3), (142, .putfield 107, 3), (145, .aload_n 0, 1), (146, .getfield 9, 3), (149, .iload_n 1, 1), (150, .iload_n 2, 1), (151, .iastore, 1), (152, .iload_n 3, 1), (153, .ireturn, 1)]
set_option maxRecDepth 20000 in
theorem DX10_becomes : ∀ q ∈ kX10_becomes, decode mX10_becomes.2.1 q.1 = .ok (q.2.1, q.2.2) := by decide +kernel
def kX10_undo : List (Nat × Instr × Nat) := [(0, .aload_n 0, 1), (1, .getfield 104, 3), (4, .ifCond .ne 6, 3), (7, .bipush (-5), 2), (9, .ireturn, 1), (10, .aload_n 0, 1), (11, .dup, 1), (12, .getfield 104, 3), (15, .iconst 1, 1), (16, .isub, 1), (17, .putfield 104, 3), (20, .aload_n 0, 1), (21, .getfield 9, 3), (24, .aload_n 0, 1), (25, .getfield 13, 3), (28, .aload_n 0, 1), (29, .getfield 104, 3), (32, .iaload, 1), (33, .aload_n 0, 1), (34, .getfield 16, 3), (37, .aload_n 0, 1), (38, .getfield 104, 3), (41, .iaload, 1), (42, .iastore, 1), (43, .aload_n 0, 1), (44, .getfield 104, 3), (47, .ireturn, 1)]
set_option maxRecDepth 20000 in
theorem DX10_undo : ∀ q ∈ kX10_undo, decode mX10_undo.2.1 q.1 = .ok (q.2.1, q.2.2) := by decide +kernel
def kX10_redo : List (Nat × Instr × Nat) := [(0, .aload_n 0, 1), (1, .getfield 104, 3), (4, .aload_n 0, 1), (5, .getfield 107, 3), (8, .if_icmp .ne 6, 3), (11, .bipush (-5), 2), (13, .ireturn, 1), (14, .aload_n 0, 1), (15, .getfield 9, 3), (18, .aload_n 0, 1), (19, .getfield 13, 3), (22, .aload_n 0, 1), (23, .getfield 104, 3), (26, .iaload, 1), (27, .aload_n 0, 1), (28, .getfield 19, 3), (31, .aload_n 0, 1), (32, .getfield 104, 3), (35, .iaload, 1), (36, .iastore, 1), (37, .aload_n 0, 1), (38, .dup, 1), (39, .getfield 104, 3), (42, .iconst 1, 1), (43, .iadd, 1), (44, .putfield 104, 3), (47, .aload_n 0, 1), (48, .getfield 107, 3), (51, .aload_n 0, 1), (52, .getfield 104, 3), (55, .isub, 1), (56, .ireturn, 1)]
set_option maxRecDepth 20000 in
theorem DX10_redo : ∀ q ∈ kX10_redo, decode mX10_redo.2.1 q.1 = .ok (q.2.1, q.2.2) := by decide +kernel
def kX10_isHouse : List (Nat × Instr × Nat) := [(0, .iload_n 0, 1), (1, .i2l, 1), (2, .lconst 0, 1), (3, .ldc2_w 110, 3), (6, .invokestatic 112, 3), (9, .ireturn, 1)]
set_option maxRecDepth 20000 in
theorem DX10_isHouse : ∀ q ∈ kX10_isHouse, decode mX10_isHouse.2.1 q.1 = .ok (q.2.1, q.2.2) := by decide +kernel
def kX10_isWall : List (Nat × Instr × Nat) := [(0, .iload_n 0, 1), (1, .i2l, 1), (2, .lconst 0, 1), (3, .ldc2_w 116, 3), (6, .invokestatic 112, 3), (9, .ireturn, 1)]
set_option maxRecDepth 20000 in
theorem DX10_isWall : ∀ q ∈ kX10_isWall, decode mX10_isWall.2.1 q.1 = .ok (q.2.1, q.2.2) := by decide +kernel
def kX10_areNeighbours : List (Nat × Instr × Nat) := [(0, .iload_n 0, 1), (1, .iconst 4, 1), (2, .idiv, 1), (3, .iload_n 1, 1), (4, .iconst 4, 1), (5, .idiv, 1), (6, .isub, 1), (7, .istore_n 2, 1), (8, .iload_n 1, 1), (9, .iconst 4, 1), (10, .irem, 1), (11, .iload_n 0, 1), (12, .iconst 4, 1), (13, .irem, 1), (14, .isub, 1), (15, .istore_n 3, 1), (16, .iload_n 2, 1), (17, .ifCond .ne 19, 3), (20, .iload_n 3, 1), (21, .iconst 1, 1), (22, .if_icmp .eq 8, 3), (25, .iload_n 3, 1), (26, .iconst (-1), 1), (27, .if_icmp .ne 7, 3), (30, .iconst 1, 1), (31, .goto 4, 3), (34, .iconst 0, 1), (35, .ireturn, 1), (36, .iload_n 0, 1), (37, .iconst 4, 1), (38, .idiv, 1), (39, .iconst 2, 1), (40, .irem, 1), (41, .ifCond .ne 7, 3), (44, .iconst (-1), 1), (45, .goto 4, 3), (48, .iconst 1, 1), (49, .istore 4, 2), (51, .iload_n 2, 1), (52, .iconst 1, 1), (53, .if_icmp .eq 8, 3), (56, .iload_n 2, 1), (57, .iconst (-1), 1), (58, .if_icmp .ne 17, 3), (61, .iload_n 3, 1), (62, .ifCond .eq 9, 3), (65, .iload_n 3, 1), (66, .iload 4, 2), (68, .if_icmp .ne 7, 3), (71, .iconst 1, 1), (72, .goto 4, 3), (75, .iconst 0, 1), (76, .ireturn, 1)]
set_option maxRecDepth 20000 in
theorem DX10_areNeighbours : ∀ q ∈ kX10_areNeighbours, decode mX10_areNeighbours.2.1 q.1 = .ok (q.2.1, q.2.2) := by decide +kernel
def kX10_wallOf : List (Nat × Instr × Nat) := [(0, .iconst 0, 1), (1, .istore_n 3, 1), (2, .iload_n 3, 1), (3, .bipush 33, 2), (5, .if_icmp .ge 51, 3), (8, .aload_n 0, 1), (9, .getfield 22, 3), (12, .iload_n 3, 1), (13, .iaload, 1), (14, .iload_n 1, 1), (15, .if_icmp .ne 13, 3), (18, .aload_n 0, 1), (19, .getfield 25, 3), (22, .iload_n 3, 1), (23, .iaload, 1), (24, .iload_n 2, 1), (25, .if_icmp .eq 23, 3), (28, .aload_n 0, 1), (29, .getfield 22, 3), (32, .iload_n 3, 1), (33, .iaload, 1), (34, .iload_n 2, 1), (35, .if_icmp .ne 15, 3), (38, .aload_n 0, 1), (39, .getfield 25, 3), (42, .iload_n 3, 1), (43, .iaload, 1), (44, .iload_n 1, 1), (45, .if_icmp .ne 5, 3), (48, .iload_n 3, 1), (49, .ireturn, 1), (50, .iinc 3 1, 3), (53, .goto (-51), 3), (56, .bipush (-2), 2), (58, .ireturn, 1)]
set_option maxRecDepth 20000 in
theorem DX10_wallOf : ∀ q ∈ kX10_wallOf, decode mX10_wallOf.2.1 q.1 = .ok (q.2.1, q.2.2) := by decide +kernel
def kX10_isAb : List (Nat × Instr × Nat) := [(0, .iload_n 0, 1), (1, .ifCond .lt 27, 3), (4, .iload_n 0, 1), (5, .bipush 100, 2), (7, .idiv, 1), (8, .invokestatic 118, 3), (11, .ifCond .eq 17, 3), (14, .iload_n 0, 1), (15, .bipush 100, 2), (17, .irem, 1), (18, .invokestatic 118, 3), (21, .ifCond .eq 7, 3), (24, .iconst 1, 1), (25, .goto 4, 3), (28, .iconst 0, 1), (29, .ireturn, 1)]
set_option maxRecDepth 20000 in
theorem DX10_isAb : ∀ q ∈ kX10_isAb, decode mX10_isAb.2.1 q.1 = .ok (q.2.1, q.2.2) := by decide +kernel
def kX10_wall : List (Nat × Instr × Nat) := [(0, .iload_n 1, 1), (1, .invokestatic 122, 3), (4, .ifCond .eq 29, 3), (7, .iload_n 1, 1), (8, .bipush 100, 2), (10, .idiv, 1), (11, .iload_n 1, 1), (12, .bipush 100, 2), (14, .irem, 1), (15, .if_icmp .eq 18, 3), (18, .aload_n 0, 1), (19, .iload_n 1, 1), (20, .bipush 100, 2), (22, .idiv, 1), (23, .iload_n 1, 1), (24, .bipush 100, 2), (26, .irem, 1), (27, .invokevirtual 125, 3), (30, .goto 4, 3), (33, .iconst (-1), 1), (34, .ireturn, 1)]
set_option maxRecDepth 20000 in
theorem DX10_wall : ∀ q ∈ kX10_wall, decode mX10_wall.2.1 q.1 = .ok (q.2.1, q.2.2) := by decide +kernel
def kX10_mend : List (Nat × Instr × Nat) := [(0, .iload_n 2, 1), (1, .tableswitch 235 0 6 #[43, 43, 78, 111, 142, 175, 204], 43), (44, .iload_n 1, 1), (45, .invokestatic 118, 3), (48, .ifCond .eq 29, 3), (51, .iload_n 3, 1), (52, .i2l, 1), (53, .lconst 0, 1), (54, .ldc2_w 129, 3), (57, .invokestatic 112, 3), (60, .ifCond .eq 17, 3), (63, .aload_n 0, 1), (64, .bipush 16, 2), (66, .iload_n 2, 1), (67, .imul, 1), (68, .iload_n 1, 1), (69, .iadd, 1), (70, .iload_n 3, 1), (71, .invokevirtual 131, 3), (74, .goto 4, 3), (77, .iconst (-1), 1), (78, .ireturn, 1), (79, .iload_n 1, 1), (80, .invokestatic 134, 3), (83, .ifCond .eq 27, 3), (86, .iload_n 3, 1), (87, .i2l, 1), (88, .lconst 0, 1), (89, .ldc2_w 129, 3), (92, .invokestatic 112, 3), (95, .ifCond .eq 15, 3), (98, .aload_n 0, 1), (99, .bipush 32, 2), (101, .iload_n 1, 1), (102, .iadd, 1), (103, .iload_n 3, 1), (104, .invokevirtual 131, 3), (107, .goto 4, 3), (110, .iconst (-1), 1), (111, .ireturn, 1), (112, .iload_n 1, 1), (113, .invokestatic 134, 3), (116, .ifCond .eq 25, 3), (119, .iload_n 3, 1), (120, .i2l, 1), (121, .lconst 0, 1), (122, .lconst 1, 1), (123, .invokestatic 112, 3), (126, .ifCond .eq 15, 3), (129, .aload_n 0, 1), (130, .bipush 65, 2), (132, .iload_n 1, 1), (133, .iadd, 1), (134, .iload_n 3, 1), (135, .invokevirtual 131, 3), (138, .goto 4, 3), (141, .iconst (-1), 1), (142, .ireturn, 1), (143, .iload_n 1, 1), (144, .invokestatic 134, 3), (147, .ifCond .eq 27, 3), (150, .iload_n 3, 1), (151, .i2l, 1), (152, .lconst 0, 1), (153, .ldc2_w 137, 3), (156, .invokestatic 112, 3), (159, .ifCond .eq 15, 3), (162, .aload_n 0, 1), (163, .bipush 98, 2), (165, .iload_n 1, 1), (166, .iadd, 1), (167, .iload_n 3, 1), (168, .invokevirtual 131, 3), (171, .goto 4, 3), (174, .iconst (-1), 1), (175, .ireturn, 1), (176, .iload_n 1, 1), (177, .ifCond .ne 26, 3), (180, .iload_n 3, 1), (181, .i2l, 1), (182, .lconst 0, 1), (183, .ldc2_w 129, 3), (186, .invokestatic 112, 3), (189, .ifCond .eq 14, 3), (192, .aload_n 0, 1), (193, .sipush 131, 3), (196, .iload_n 3, 1), (197, .invokevirtual 131, 3), (200, .goto 4, 3), (203, .iconst (-1), 1), (204, .ireturn, 1), (205, .iload_n 1, 1), (206, .ifCond .ne 28, 3), (209, .iload_n 3, 1), (210, .i2l, 1), (211, .ldc2_w 139, 3), (214, .ldc2_w 141, 3), (217, .invokestatic 112, 3), (220, .ifCond .eq 14, 3), (223, .aload_n 0, 1), (224, .sipush 132, 3), (227, .iload_n 3, 1), (228, .invokevirtual 131, 3), (231, .goto 4, 3), (234, .iconst (-1), 1), (235, .ireturn, 1), (236, .iconst (-1), 1), (237, .ireturn, 1)]
set_option maxRecDepth 20000 in
theorem DX10_mend : ∀ q ∈ kX10_mend, decode mX10_mend.2.1 q.1 = .ok (q.2.1, q.2.2) := by decide +kernel
def kX10_neighboursOf : List (Nat × Instr × Nat) := [(0, .iconst 0, 1), (1, .istore_n 2, 1), (2, .iconst 0, 1), (3, .istore_n 3, 1), (4, .iload_n 3, 1), (5, .bipush 33, 2), (7, .if_icmp .ge 37, 3), (10, .iload_n 2, 1), (11, .aload_n 0, 1), (12, .getfield 22, 3), (15, .iload_n 3, 1), (16, .iaload, 1), (17, .iload_n 1, 1), (18, .if_icmp .eq 13, 3), (21, .aload_n 0, 1), (22, .getfield 25, 3), (25, .iload_n 3, 1), (26, .iaload, 1), (27, .iload_n 1, 1), (28, .if_icmp .ne 7, 3), (31, .iconst 1, 1), (32, .goto 4, 3), (35, .iconst 0, 1), (36, .iadd, 1), (37, .istore_n 2, 1), (38, .iinc 3 1, 3), (41, .goto (-37), 3), (44, .iload_n 2, 1), (45, .ireturn, 1)]
set_option maxRecDepth 20000 in
theorem DX10_neighboursOf : ∀ q ∈ kX10_neighboursOf, decode mX10_neighboursOf.2.1 q.1 = .ok (q.2.1, q.2.2) := by decide +kernel
def kX10_agreedOf : List (Nat × Instr × Nat) := [(0, .aload_n 0, 1), (1, .getfield 31, 3), (4, .aload_n 0, 1), (5, .getfield 22, 3), (8, .iload_n 1, 1), (9, .iaload, 1), (10, .baload, 1), (11, .istore_n 2, 1), (12, .aload_n 0, 1), (13, .getfield 31, 3), (16, .aload_n 0, 1), (17, .getfield 25, 3), (20, .iload_n 1, 1), (21, .iaload, 1), (22, .baload, 1), (23, .istore_n 3, 1), (24, .aload_n 0, 1), (25, .getfield 9, 3), (28, .bipush 16, 2), (30, .aload_n 0, 1), (31, .getfield 22, 3), (34, .iload_n 1, 1), (35, .iaload, 1), (36, .iadd, 1), (37, .iaload, 1), (38, .istore 4, 2), (40, .aload_n 0, 1), (41, .getfield 9, 3), (44, .bipush 16, 2), (46, .aload_n 0, 1), (47, .getfield 25, 3), (50, .iload_n 1, 1), (51, .iaload, 1), (52, .iadd, 1), (53, .iaload, 1), (54, .istore 5, 2), (56, .iload_n 2, 1), (57, .ifCond .eq 17, 3), (60, .iload_n 3, 1), (61, .ifCond .eq 13, 3), (64, .iload 4, 2), (66, .iload 5, 2), (68, .iadd, 1), (69, .iconst 2, 1), (70, .idiv, 1), (71, .goto 30, 3), (74, .iload_n 2, 1), (75, .ifCond .eq 8, 3), (78, .iload 4, 2), (80, .goto 21, 3), (83, .iload_n 3, 1), (84, .ifCond .eq 8, 3), (87, .iload 5, 2), (89, .goto 12, 3), (92, .aload_n 0, 1), (93, .getfield 9, 3), (96, .bipush 32, 2), (98, .iload_n 1, 1), (99, .iadd, 1), (100, .iaload, 1), (101, .ireturn, 1)]
set_option maxRecDepth 20000 in
theorem DX10_agreedOf : ∀ q ∈ kX10_agreedOf, decode mX10_agreedOf.2.1 q.1 = .ok (q.2.1, q.2.2) := by decide +kernel
def kX10_ofHouse : List (Nat × Instr × Nat) := [(0, .iload_n 2, 1), (1, .tableswitch 75 0 4 #[35, 35, 47, 54, 69], 35), (36, .aload_n 0, 1), (37, .getfield 9, 3), (40, .bipush 16, 2), (42, .iload_n 2, 1), (43, .imul, 1), (44, .iload_n 1, 1), (45, .iadd, 1), (46, .iaload, 1), (47, .ireturn, 1), (48, .aload_n 0, 1), (49, .getfield 28, 3), (52, .iload_n 1, 1), (53, .iaload, 1), (54, .ireturn, 1), (55, .aload_n 0, 1), (56, .getfield 31, 3), (59, .iload_n 1, 1), (60, .baload, 1), (61, .ifCond .eq 7, 3), (64, .iconst 1, 1), (65, .goto 4, 3), (68, .iconst 0, 1), (69, .ireturn, 1), (70, .aload_n 0, 1), (71, .iload_n 1, 1), (72, .invokevirtual 143, 3), (75, .ireturn, 1), (76, .aload_n 0, 1), (77, .invokevirtual 147, 3), (80, .aload_n 0, 1), (81, .iload_n 1, 1), (82, .invokevirtual 150, 3), (85, .ireturn, 1)]
set_option maxRecDepth 20000 in
theorem DX10_ofHouse : ∀ q ∈ kX10_ofHouse, decode mX10_ofHouse.2.1 q.1 = .ok (q.2.1, q.2.2) := by decide +kernel
def kX10_ofWall : List (Nat × Instr × Nat) := [(0, .iload_n 2, 1), (1, .tableswitch 88 10 14 #[35, 45, 55, 65, 82], 35), (36, .aload_n 0, 1), (37, .getfield 9, 3), (40, .bipush 32, 2), (42, .iload_n 1, 1), (43, .iadd, 1), (44, .iaload, 1), (45, .ireturn, 1), (46, .aload_n 0, 1), (47, .getfield 9, 3), (50, .bipush 65, 2), (52, .iload_n 1, 1), (53, .iadd, 1), (54, .iaload, 1), (55, .ireturn, 1), (56, .aload_n 0, 1), (57, .getfield 9, 3), (60, .bipush 98, 2), (62, .iload_n 1, 1), (63, .iadd, 1), (64, .iaload, 1), (65, .ireturn, 1), (66, .bipush 100, 2), (68, .aload_n 0, 1), (69, .getfield 22, 3), (72, .iload_n 1, 1), (73, .iaload, 1), (74, .imul, 1), (75, .aload_n 0, 1), (76, .getfield 25, 3), (79, .iload_n 1, 1), (80, .iaload, 1), (81, .iadd, 1), (82, .ireturn, 1), (83, .aload_n 0, 1), (84, .iload_n 1, 1), (85, .invokevirtual 153, 3), (88, .ireturn, 1), (89, .aload_n 0, 1), (90, .invokevirtual 156, 3), (93, .aload_n 0, 1), (94, .iload_n 1, 1), (95, .invokevirtual 159, 3), (98, .ireturn, 1)]
set_option maxRecDepth 20000 in
theorem DX10_ofWall : ∀ q ∈ kX10_ofWall, decode mX10_ofWall.2.1 q.1 = .ok (q.2.1, q.2.2) := by decide +kernel
def kX10_of : List (Nat × Instr × Nat) := [(0, .iload_n 2, 1), (1, .i2l, 1), (2, .lconst 0, 1), (3, .ldc2_w 137, 3), (6, .invokestatic 112, 3), (9, .ifCond .eq 22, 3), (12, .iload_n 1, 1), (13, .invokestatic 118, 3), (16, .ifCond .eq 12, 3), (19, .aload_n 0, 1), (20, .iload_n 1, 1), (21, .iload_n 2, 1), (22, .invokevirtual 162, 3), (25, .goto 5, 3), (28, .ldc 165, 2), (30, .ireturn, 1), (31, .iload_n 2, 1), (32, .i2l, 1), (33, .ldc2_w 166, 3), (36, .ldc2_w 110, 3), (39, .invokestatic 112, 3), (42, .ifCond .eq 22, 3), (45, .iload_n 1, 1), (46, .invokestatic 134, 3), (49, .ifCond .eq 12, 3), (52, .aload_n 0, 1), (53, .iload_n 1, 1), (54, .iload_n 2, 1), (55, .invokevirtual 168, 3), (58, .goto 5, 3), (61, .ldc 165, 2), (63, .ireturn, 1), (64, .iload_n 1, 1), (65, .ifCond .ne 33, 3), (68, .iload_n 2, 1), (69, .i2l, 1), (70, .ldc2_w 171, 3), (73, .ldc2_w 173, 3), (76, .invokestatic 112, 3), (79, .ifCond .eq 19, 3), (82, .aload_n 0, 1), (83, .getfield 9, 3), (86, .sipush 131, 3), (89, .iload_n 2, 1), (90, .iadd, 1), (91, .bipush 20, 2), (93, .isub, 1), (94, .iaload, 1), (95, .goto 5, 3), (98, .ldc 165, 2), (100, .ireturn, 1)]
set_option maxRecDepth 20000 in
theorem DX10_of : ∀ q ∈ kX10_of, decode mX10_of.2.1 q.1 = .ok (q.2.1, q.2.2) := by decide +kernel
def kX10_fires : List (Nat × Instr × Nat) := [(0, .iload_n 1, 1), (1, .invokestatic 175, 3), (4, .ifCond .eq 32, 3), (7, .iload_n 3, 1), (8, .ifCond .lt 28, 3), (11, .iload_n 3, 1), (12, .bipush 100, 2), (14, .idiv, 1), (15, .invokestatic 118, 3), (18, .ifCond .eq 18, 3), (21, .iload_n 3, 1), (22, .bipush 100, 2), (24, .irem, 1), (25, .i2l, 1), (26, .lconst 1, 1), (27, .ldc2_w 178, 3), (30, .invokestatic 112, 3), (33, .ifCond .ne 5, 3), (36, .iconst (-1), 1), (37, .ireturn, 1), (38, .aload_n 0, 1), (39, .getfield 80, 3), (42, .iload_n 1, 1), (43, .iaload, 1), (44, .ifCond .lt 17, 3), (47, .aload_n 0, 1), (48, .getfield 80, 3), (51, .iload_n 1, 1), (52, .iaload, 1), (53, .bipush 50, 2), (55, .if_icmp .eq 6, 3), (58, .bipush (-12), 2), (60, .ireturn, 1), (61, .iconst 0, 1), (62, .istore 4, 2), (64, .aload_n 0, 1), (65, .getfield 80, 3), (68, .iload_n 1, 1), (69, .iaload, 1), (70, .bipush 50, 2), (72, .if_icmp .ne 11, 3), (75, .iload_n 2, 1), (76, .ifCond .lt 7, 3), (79, .iconst 1, 1), (80, .goto 4, 3), (83, .iconst 0, 1), (84, .istore 5, 2), (86, .iload 5, 2), (88, .ifCond .eq 109, 3), (91, .iload 4, 2), (93, .iload_n 3, 1), (94, .bipush 100, 2), (96, .irem, 1), (97, .if_icmp .ge 100, 3), (100, .iload_n 2, 1), (101, .aload_n 0, 1), (102, .getfield 83, 3), (105, .iload_n 1, 1), (106, .iaload, 1), (107, .iconst 1, 1), (108, .isub, 1), (109, .iload 4, 2), (111, .isub, 1), (112, .if_icmp .gt 44, 3), (115, .iload_n 3, 1), (116, .bipush 100, 2), (118, .idiv, 1), (119, .iload 4, 2), (121, .iadd, 1), (122, .invokestatic 118, 3), (125, .ifCond .eq 31, 3), (128, .aload_n 0, 1), (129, .getfield 86, 3), (132, .bipush 60, 2), (134, .iload_n 1, 1), (135, .imul, 1), (136, .iload_n 2, 1), (137, .iadd, 1), (138, .iload 4, 2), (140, .iadd, 1), (141, .laload, 1), (142, .lconst 0, 1), (143, .ldc2_w 129, 3), (146, .invokestatic 112, 3), (149, .ifCond .eq 7, 3), (152, .iconst 1, 1), (153, .goto 4, 3), (156, .iconst 0, 1), (157, .istore 5, 2), (159, .iload 5, 2), (161, .ifCond .eq (-75), 3), (164, .aload_n 0, 1), (165, .getfield 9, 3), (168, .iload_n 3, 1), (169, .bipush 100, 2), (171, .idiv, 1), (172, .iload 4, 2), (174, .iadd, 1), (175, .aload_n 0, 1), (176, .getfield 86, 3), (179, .bipush 60, 2), (181, .iload_n 1, 1), (182, .imul, 1), (183, .iload_n 2, 1), (184, .iadd, 1), (185, .iload 4, 2), (187, .iadd, 1), (188, .laload, 1), (189, .l2i, 1), (190, .iastore, 1), (191, .iinc 4 1, 3), (194, .goto (-108), 3), (197, .iload 4, 2), (199, .ireturn, 1)]
set_option maxRecDepth 20000 in
theorem DX10_fires : ∀ q ∈ kX10_fires, decode mX10_fires.2.1 q.1 = .ok (q.2.1, q.2.2) := by decide +kernel
def kX10_feed : List (Nat × Instr × Nat) := [(0, .iload_n 1, 1), (1, .i2l, 1), (2, .lconst 0, 1), (3, .ldc2_w 180, 3), (6, .invokestatic 112, 3), (9, .ifCond .ne 5, 3), (12, .iconst (-1), 1), (13, .ireturn, 1), (14, .aload_n 0, 1), (15, .getfield 182, 3), (18, .bipush 120, 2), (20, .if_icmp .ne 6, 3), (23, .bipush (-3), 2), (25, .ireturn, 1), (26, .aload_n 0, 1), (27, .getfield 35, 3), (30, .aload_n 0, 1), (31, .getfield 182, 3), (34, .iload_n 1, 1), (35, .iastore, 1), (36, .aload_n 0, 1), (37, .dup, 1), (38, .getfield 182, 3), (41, .iconst 1, 1), (42, .iadd, 1), (43, .putfield 182, 3), (46, .aload_n 0, 1), (47, .getfield 182, 3), (50, .ireturn, 1)]
set_option maxRecDepth 20000 in
theorem DX10_feed : ∀ q ∈ kX10_feed, decode mX10_feed.2.1 q.1 = .ok (q.2.1, q.2.2) := by decide +kernel
def kX10_byteAt : List (Nat × Instr × Nat) := [(0, .aload_n 0, 1), (1, .getfield 185, 3), (4, .aload_n 0, 1), (5, .getfield 188, 3), (8, .if_icmp .ge 39, 3), (11, .aload_n 0, 1), (12, .getfield 191, 3), (15, .ifCond .ge 15, 3), (18, .aload_n 0, 1), (19, .getfield 35, 3), (22, .aload_n 0, 1), (23, .getfield 185, 3), (26, .iaload, 1), (27, .goto 21, 3), (30, .aload_n 0, 1), (31, .getfield 38, 3), (34, .aload_n 0, 1), (35, .getfield 191, 3), (38, .aload_n 0, 1), (39, .getfield 185, 3), (42, .iadd, 1), (43, .iaload, 1), (44, .goto 4, 3), (47, .iconst 0, 1), (48, .ireturn, 1)]
set_option maxRecDepth 20000 in
theorem DX10_byteAt : ∀ q ∈ kX10_byteAt, decode mX10_byteAt.2.1 q.1 = .ok (q.2.1, q.2.2) := by decide +kernel
def kX10_wrong : List (Nat × Instr × Nat) := [(0, .aload_n 0, 1), (1, .aload_n 0, 1), (2, .getfield 194, 3), (5, .ifCond .ge 10, 3), (8, .aload_n 0, 1), (9, .getfield 185, 3), (12, .goto 7, 3), (15, .aload_n 0, 1), (16, .getfield 194, 3), (19, .putfield 194, 3), (22, .iconst 0, 1), (23, .ireturn, 1)]
set_option maxRecDepth 20000 in
theorem DX10_wrong : ∀ q ∈ kX10_wrong, decode mX10_wrong.2.1 q.1 = .ok (q.2.1, q.2.2) := by decide +kernel
def kX10_takesByte : List (Nat × Instr × Nat) := [(0, .aload_n 0, 1), (1, .getfield 194, 3), (4, .ifCond .ge 11, 3), (7, .aload_n 0, 1), (8, .invokevirtual 197, 3), (11, .iload_n 1, 1), (12, .if_icmp .eq 5, 3), (15, .iconst 0, 1), (16, .ireturn, 1), (17, .aload_n 0, 1), (18, .dup, 1), (19, .getfield 185, 3), (22, .iconst 1, 1), (23, .iadd, 1), (24, .putfield 185, 3), (27, .iconst 1, 1), (28, .ireturn, 1)]
set_option maxRecDepth 20000 in
theorem DX10_takesByte : ∀ q ∈ kX10_takesByte, decode mX10_takesByte.2.1 q.1 = .ok (q.2.1, q.2.2) := by decide +kernel
def kX10_either : List (Nat × Instr × Nat) := [(0, .aload_n 0, 1), (1, .invokevirtual 201, 3), (4, .istore_n 1, 1), (5, .aload_n 0, 1), (6, .bipush 124, 2), (8, .invokevirtual 204, 3), (11, .ifCond .eq 25, 3), (14, .aload_n 0, 1), (15, .invokevirtual 201, 3), (18, .istore_n 2, 1), (19, .iload_n 1, 1), (20, .ifCond .ne 7, 3), (23, .iload_n 2, 1), (24, .ifCond .eq 7, 3), (27, .iconst 1, 1), (28, .goto 4, 3), (31, .iconst 0, 1), (32, .istore_n 1, 1), (33, .goto (-28), 3), (36, .iload_n 1, 1), (37, .ireturn, 1)]
set_option maxRecDepth 20000 in
theorem DX10_either : ∀ q ∈ kX10_either, decode mX10_either.2.1 q.1 = .ok (q.2.1, q.2.2) := by decide +kernel
def kX10_both : List (Nat × Instr × Nat) := [(0, .aload_n 0, 1), (1, .invokevirtual 207, 3), (4, .istore_n 1, 1), (5, .aload_n 0, 1), (6, .bipush 38, 2), (8, .invokevirtual 204, 3), (11, .ifCond .eq 25, 3), (14, .aload_n 0, 1), (15, .invokevirtual 207, 3), (18, .istore_n 2, 1), (19, .iload_n 1, 1), (20, .ifCond .eq 11, 3), (23, .iload_n 2, 1), (24, .ifCond .eq 7, 3), (27, .iconst 1, 1), (28, .goto 4, 3), (31, .iconst 0, 1), (32, .istore_n 1, 1), (33, .goto (-28), 3), (36, .iload_n 1, 1), (37, .ireturn, 1)]
set_option maxRecDepth 20000 in
theorem DX10_both : ∀ q ∈ kX10_both, decode mX10_both.2.1 q.1 = .ok (q.2.1, q.2.2) := by decide +kernel
def kX10_compared : List (Nat × Instr × Nat) := [(0, .aload_n 0, 1), (1, .invokevirtual 210, 3), (4, .istore_n 1, 1), (5, .aload_n 0, 1), (6, .invokevirtual 197, 3), (9, .istore_n 2, 1), (10, .aload_n 0, 1), (11, .getfield 194, 3), (14, .ifCond .ge 21, 3), (17, .iload_n 2, 1), (18, .bipush 60, 2), (20, .if_icmp .eq 17, 3), (23, .iload_n 2, 1), (24, .bipush 61, 2), (26, .if_icmp .eq 11, 3), (29, .iload_n 2, 1), (30, .bipush 62, 2), (32, .if_icmp .eq 5, 3), (35, .iload_n 1, 1), (36, .ireturn, 1), (37, .aload_n 0, 1), (38, .dup, 1), (39, .getfield 185, 3), (42, .iconst 1, 1), (43, .iadd, 1), (44, .putfield 185, 3), (47, .aload_n 0, 1), (48, .invokevirtual 210, 3), (51, .istore_n 3, 1), (52, .iload_n 2, 1), (53, .bipush 60, 2), (55, .if_icmp .ne 11, 3), (58, .iload_n 1, 1), (59, .iload_n 3, 1), (60, .if_icmp .ge 29, 3), (63, .goto 22, 3), (66, .iload_n 2, 1), (67, .bipush 61, 2), (69, .if_icmp .ne 11, 3), (72, .iload_n 1, 1), (73, .iload_n 3, 1), (74, .if_icmp .ne 15, 3), (77, .goto 8, 3), (80, .iload_n 1, 1), (81, .iload_n 3, 1), (82, .if_icmp .le 7, 3), (85, .iconst 1, 1), (86, .goto 4, 3), (89, .iconst 0, 1), (90, .ireturn, 1)]
set_option maxRecDepth 20000 in
theorem DX10_compared : ∀ q ∈ kX10_compared, decode mX10_compared.2.1 q.1 = .ok (q.2.1, q.2.2) := by decide +kernel
def kX10_sums : List (Nat × Instr × Nat) := [(0, .aload_n 0, 1), (1, .invokevirtual 213, 3), (4, .istore_n 1, 1), (5, .aload_n 0, 1), (6, .getfield 194, 3), (9, .ifCond .ge 68, 3), (12, .aload_n 0, 1), (13, .invokevirtual 197, 3), (16, .bipush 43, 2), (18, .if_icmp .eq 12, 3), (21, .aload_n 0, 1), (22, .invokevirtual 197, 3), (25, .bipush 45, 2), (27, .if_icmp .ne 50, 3), (30, .aload_n 0, 1), (31, .invokevirtual 197, 3), (34, .bipush 43, 2), (36, .if_icmp .ne 7, 3), (39, .iconst 1, 1), (40, .goto 4, 3), (43, .iconst 0, 1), (44, .istore_n 2, 1), (45, .aload_n 0, 1), (46, .dup, 1), (47, .getfield 185, 3), (50, .iconst 1, 1), (51, .iadd, 1), (52, .putfield 185, 3), (55, .aload_n 0, 1), (56, .invokevirtual 213, 3), (59, .istore_n 3, 1), (60, .iload_n 2, 1), (61, .ifCond .eq 9, 3), (64, .iload_n 1, 1), (65, .iload_n 3, 1), (66, .iadd, 1), (67, .goto 6, 3), (70, .iload_n 1, 1), (71, .iload_n 3, 1), (72, .isub, 1), (73, .istore_n 1, 1), (74, .goto (-69), 3), (77, .iload_n 1, 1), (78, .ireturn, 1)]
set_option maxRecDepth 20000 in
theorem DX10_sums : ∀ q ∈ kX10_sums, decode mX10_sums.2.1 q.1 = .ok (q.2.1, q.2.2) := by decide +kernel
def kX10_product : List (Nat × Instr × Nat) := [(0, .aload_n 0, 1), (1, .invokevirtual 216, 3), (4, .istore_n 1, 1), (5, .aload_n 0, 1), (6, .invokevirtual 197, 3), (9, .istore_n 2, 1), (10, .aload_n 0, 1), (11, .getfield 194, 3), (14, .ifCond .ge 80, 3), (17, .iload_n 2, 1), (18, .bipush 42, 2), (20, .if_icmp .eq 15, 3), (23, .iload_n 2, 1), (24, .bipush 47, 2), (26, .if_icmp .eq 9, 3), (29, .iload_n 2, 1), (30, .bipush 37, 2), (32, .if_icmp .ne 62, 3), (35, .aload_n 0, 1), (36, .dup, 1), (37, .getfield 185, 3), (40, .iconst 1, 1), (41, .iadd, 1), (42, .putfield 185, 3), (45, .aload_n 0, 1), (46, .invokevirtual 216, 3), (49, .istore_n 3, 1), (50, .iload_n 2, 1), (51, .bipush 42, 2), (53, .if_icmp .ne 9, 3), (56, .iload_n 1, 1), (57, .iload_n 3, 1), (58, .imul, 1), (59, .goto 26, 3), (62, .iload_n 3, 1), (63, .ifCond .ne 7, 3), (66, .iconst 0, 1), (67, .goto 18, 3), (70, .iload_n 2, 1), (71, .bipush 47, 2), (73, .if_icmp .ne 9, 3), (76, .iload_n 1, 1), (77, .iload_n 3, 1), (78, .idiv, 1), (79, .goto 6, 3), (82, .iload_n 1, 1), (83, .iload_n 3, 1), (84, .irem, 1), (85, .istore_n 1, 1), (86, .aload_n 0, 1), (87, .invokevirtual 197, 3), (90, .istore_n 2, 1), (91, .goto (-81), 3), (94, .iload_n 1, 1), (95, .ireturn, 1)]
set_option maxRecDepth 20000 in
theorem DX10_product : ∀ q ∈ kX10_product, decode mX10_product.2.1 q.1 = .ok (q.2.1, q.2.2) := by decide +kernel
def kX10_nameOf : List (Nat × Instr × Nat) := [(0, .iload_n 0, 1), (1, .lookupswitch 61 #[(97, 57), (98, 59), (100, 51), (111, 55), (116, 53)], 51), (52, .iconst 0, 1), (53, .ireturn, 1), (54, .iconst 1, 1), (55, .ireturn, 1), (56, .iconst 2, 1), (57, .ireturn, 1), (58, .iconst 3, 1), (59, .ireturn, 1), (60, .iconst 4, 1), (61, .ireturn, 1), (62, .iconst (-1), 1), (63, .ireturn, 1)]
set_option maxRecDepth 20000 in
theorem DX10_nameOf : ∀ q ∈ kX10_nameOf, decode mX10_nameOf.2.1 q.1 = .ok (q.2.1, q.2.2) := by decide +kernel
def kX10_oneOf : List (Nat × Instr × Nat) := [(0, .aload_n 0, 1), (1, .getfield 194, 3), (4, .ifCond .lt 5, 3), (7, .iconst 0, 1), (8, .ireturn, 1), (9, .aload_n 0, 1), (10, .invokevirtual 197, 3), (13, .istore_n 1, 1), (14, .iload_n 1, 1), (15, .bipush 33, 2), (17, .if_icmp .eq 15, 3), (20, .iload_n 1, 1), (21, .bipush 45, 2), (23, .if_icmp .eq 9, 3), (26, .iload_n 1, 1), (27, .bipush 40, 2), (29, .if_icmp .ne 116, 3), (32, .aload_n 0, 1), (33, .getfield 219, 3), (36, .bipush 6, 2), (38, .if_icmp .ne 8, 3), (41, .aload_n 0, 1), (42, .invokevirtual 222, 3), (45, .ireturn, 1), (46, .aload_n 0, 1), (47, .dup, 1), (48, .getfield 219, 3), (51, .iconst 1, 1), (52, .iadd, 1), (53, .putfield 219, 3), (56, .aload_n 0, 1), (57, .dup, 1), (58, .getfield 185, 3), (61, .iconst 1, 1), (62, .iadd, 1), (63, .putfield 185, 3), (66, .iload_n 1, 1), (67, .bipush 40, 2), (69, .if_icmp .ne 10, 3), (72, .aload_n 0, 1), (73, .invokevirtual 225, 3), (76, .goto 7, 3), (79, .aload_n 0, 1), (80, .invokevirtual 216, 3), (83, .istore_n 2, 1), (84, .iload_n 1, 1), (85, .bipush 40, 2), (87, .if_icmp .ne 17, 3), (90, .aload_n 0, 1), (91, .bipush 41, 2), (93, .invokevirtual 204, 3), (96, .ifCond .ne 8, 3), (99, .aload_n 0, 1), (100, .invokevirtual 222, 3), (103, .ireturn, 1), (104, .aload_n 0, 1), (105, .dup, 1), (106, .getfield 219, 3), (109, .iconst 1, 1), (110, .isub, 1), (111, .putfield 219, 3), (114, .iload_n 1, 1), (115, .bipush 40, 2), (117, .if_icmp .ne 7, 3), (120, .iload_n 2, 1), (121, .goto 23, 3), (124, .iload_n 1, 1), (125, .bipush 45, 2), (127, .if_icmp .ne 8, 3), (130, .iload_n 2, 1), (131, .ineg, 1), (132, .goto 12, 3), (135, .iload_n 2, 1), (136, .ifCond .ne 7, 3), (139, .iconst 1, 1), (140, .goto 4, 3), (143, .iconst 0, 1), (144, .ireturn, 1), (145, .iload_n 1, 1), (146, .invokestatic 228, 3), (149, .istore_n 2, 1), (150, .iload_n 2, 1), (151, .ifCond .lt 20, 3), (154, .aload_n 0, 1), (155, .dup, 1), (156, .getfield 185, 3), (159, .iconst 1, 1), (160, .iadd, 1), (161, .putfield 185, 3), (164, .aload_n 0, 1), (165, .getfield 41, 3), (168, .iload_n 2, 1), (169, .iaload, 1), (170, .ireturn, 1), (171, .iconst 0, 1), (172, .istore_n 3, 1), (173, .iconst 0, 1), (174, .istore 4, 2), (176, .iload 4, 2), (178, .iconst 4, 1), (179, .if_icmp .ge 50, 3), (182, .aload_n 0, 1), (183, .invokevirtual 197, 3), (186, .bipush 48, 2), (188, .if_icmp .lt 41, 3), (191, .aload_n 0, 1), (192, .invokevirtual 197, 3), (195, .bipush 57, 2), (197, .if_icmp .gt 32, 3), (200, .bipush 10, 2), (202, .iload_n 3, 1), (203, .imul, 1), (204, .aload_n 0, 1), (205, .invokevirtual 197, 3), (208, .iadd, 1), (209, .bipush 48, 2), (211, .isub, 1), (212, .istore_n 3, 1), (213, .iinc 4 1, 3), (216, .aload_n 0, 1), (217, .dup, 1), (218, .getfield 185, 3), (221, .iconst 1, 1), (222, .iadd, 1), (223, .putfield 185, 3), (226, .goto (-50), 3), (229, .iload 4, 2), (231, .ifCond .ne 10, 3), (234, .aload_n 0, 1), (235, .invokevirtual 222, 3), (238, .goto 4, 3), (241, .iload_n 3, 1), (242, .ireturn, 1)]
set_option maxRecDepth 20000 in
theorem DX10_oneOf : ∀ q ∈ kX10_oneOf, decode mX10_oneOf.2.1 q.1 = .ok (q.2.1, q.2.2) := by decide +kernel
def kX10_workOut : List (Nat × Instr × Nat) := [(0, .aload_n 0, 1), (1, .iload_n 1, 1), (2, .putfield 191, 3), (5, .aload_n 0, 1), (6, .iconst 0, 1), (7, .putfield 185, 3), (10, .aload_n 0, 1), (11, .iload_n 2, 1), (12, .putfield 188, 3), (15, .aload_n 0, 1), (16, .iconst (-1), 1), (17, .putfield 194, 3), (20, .aload_n 0, 1), (21, .iconst 0, 1), (22, .putfield 219, 3), (25, .iconst 0, 1), (26, .istore_n 3, 1), (27, .iconst 0, 1), (28, .istore 4, 2), (30, .iconst 1, 1), (31, .istore 5, 2), (33, .iload 5, 2), (35, .ifCond .eq 72, 3), (38, .aload_n 0, 1), (39, .invokevirtual 225, 3), (42, .istore 6, 2), (44, .iconst 1, 1), (45, .istore 7, 2), (47, .aload_n 0, 1), (48, .bipush 63, 2), (50, .invokevirtual 204, 3), (53, .ifCond .eq 21, 3), (56, .iload 6, 2), (58, .ifCond .eq 7, 3), (61, .iconst 1, 1), (62, .goto 4, 3), (65, .iconst 0, 1), (66, .istore 7, 2), (68, .aload_n 0, 1), (69, .invokevirtual 225, 3), (72, .istore 6, 2), (74, .aload_n 0, 1), (75, .getfield 194, 3), (78, .ifCond .ge 18, 3), (81, .iload 7, 2), (83, .ifCond .eq 13, 3), (86, .iload_n 3, 1), (87, .ifCond .ne 9, 3), (90, .iconst 1, 1), (91, .istore_n 3, 1), (92, .iload 6, 2), (94, .istore 4, 2), (96, .aload_n 0, 1), (97, .bipush 59, 2), (99, .invokevirtual 204, 3), (102, .istore 5, 2), (104, .goto (-71), 3), (107, .aload_n 0, 1), (108, .getfield 194, 3), (111, .ifCond .ge 19, 3), (114, .aload_n 0, 1), (115, .getfield 185, 3), (118, .aload_n 0, 1), (119, .getfield 188, 3), (122, .if_icmp .ge 8, 3), (125, .aload_n 0, 1), (126, .invokevirtual 222, 3), (129, .ireturn, 1), (130, .iload 4, 2), (132, .ireturn, 1)]
set_option maxRecDepth 20000 in
theorem DX10_workOut : ∀ q ∈ kX10_workOut, decode mX10_workOut.2.1 q.1 = .ok (q.2.1, q.2.2) := by decide +kernel
def kX10_law : List (Nat × Instr × Nat) := [(0, .aload_n 0, 1), (1, .iconst (-1), 1), (2, .aload_n 0, 1), (3, .getfield 182, 3), (6, .invokevirtual 231, 3), (9, .istore_n 1, 1), (10, .aload_n 0, 1), (11, .getfield 182, 3), (14, .istore_n 2, 1), (15, .aload_n 0, 1), (16, .iconst 0, 1), (17, .putfield 182, 3), (20, .aload_n 0, 1), (21, .getfield 194, 3), (24, .ifCond .lt 11, 3), (27, .bipush (-100), 2), (29, .aload_n 0, 1), (30, .getfield 194, 3), (33, .isub, 1), (34, .ireturn, 1), (35, .iconst 0, 1), (36, .istore_n 3, 1), (37, .iload_n 3, 1), (38, .iload_n 2, 1), (39, .if_icmp .ge 21, 3), (42, .aload_n 0, 1), (43, .getfield 38, 3), (46, .iload_n 3, 1), (47, .aload_n 0, 1), (48, .getfield 35, 3), (51, .iload_n 3, 1), (52, .iaload, 1), (53, .iastore, 1), (54, .iinc 3 1, 3), (57, .goto (-20), 3), (60, .aload_n 0, 1), (61, .iload_n 2, 1), (62, .putfield 93, 3), (65, .iconst 1, 1), (66, .ireturn, 1)]
set_option maxRecDepth 20000 in
theorem DX10_law : ∀ q ∈ kX10_law, decode mX10_law.2.1 q.1 = .ok (q.2.1, q.2.2) := by decide +kernel
def kX10_begins1 : List (Nat × Instr × Nat) := [(0, .iconst 0, 1), (1, .istore_n 1, 1), (2, .iload_n 1, 1), (3, .bipush 16, 2), (5, .if_icmp .ge 21, 3), (8, .aload_n 0, 1), (9, .getfield 44, 3), (12, .iload_n 1, 1), (13, .aload_n 0, 1), (14, .getfield 28, 3), (17, .iload_n 1, 1), (18, .iaload, 1), (19, .iastore, 1), (20, .iinc 1 1, 3), (23, .goto (-21), 3), (26, .iconst 0, 1), (27, .istore_n 1, 1), (28, .iload_n 1, 1), (29, .bipush 33, 2), (31, .if_icmp .ge 16, 3), (34, .aload_n 0, 1), (35, .getfield 53, 3), (38, .iload_n 1, 1), (39, .iconst 0, 1), (40, .iastore, 1), (41, .iinc 1 1, 3), (44, .goto (-16), 3), (47, .return_, 1)]
set_option maxRecDepth 20000 in
theorem DX10_begins1 : ∀ q ∈ kX10_begins1, decode mX10_begins1.2.1 q.1 = .ok (q.2.1, q.2.2) := by decide +kernel
def kX10_throughOf : List (Nat × Instr × Nat) := [(0, .iload_n 2, 1), (1, .iload_n 3, 1), (2, .isub, 1), (3, .istore 4, 2), (5, .aload_n 0, 1), (6, .getfield 9, 3), (9, .bipush 32, 2), (11, .iload_n 1, 1), (12, .iadd, 1), (13, .iaload, 1), (14, .istore 5, 2), (16, .iload 4, 2), (18, .iload 5, 2), (20, .iconst 1, 1), (21, .iadd, 1), (22, .idiv, 1), (23, .bipush 6, 2), (25, .idiv, 1), (26, .aload_n 0, 1), (27, .getfield 9, 3), (30, .bipush 65, 2), (32, .iload_n 1, 1), (33, .iadd, 1), (34, .iaload, 1), (35, .iadd, 1), (36, .istore 6, 2), (38, .aload_n 0, 1), (39, .getfield 93, 3), (42, .ifCond .lt 59, 3), (45, .aload_n 0, 1), (46, .getfield 41, 3), (49, .iconst 0, 1), (50, .iload 4, 2), (52, .iastore, 1), (53, .aload_n 0, 1), (54, .getfield 41, 3), (57, .iconst 1, 1), (58, .iload 5, 2), (60, .iastore, 1), (61, .aload_n 0, 1), (62, .getfield 41, 3), (65, .iconst 2, 1), (66, .aload_n 0, 1), (67, .getfield 9, 3), (70, .bipush 65, 2), (72, .iload_n 1, 1), (73, .iadd, 1), (74, .iaload, 1), (75, .iastore, 1), (76, .aload_n 0, 1), (77, .getfield 41, 3), (80, .iconst 3, 1), (81, .iload_n 2, 1), (82, .iastore, 1), (83, .aload_n 0, 1), (84, .getfield 41, 3), (87, .iconst 4, 1), (88, .iload_n 3, 1), (89, .iastore, 1), (90, .aload_n 0, 1), (91, .iconst 0, 1), (92, .aload_n 0, 1), (93, .getfield 93, 3), (96, .invokevirtual 231, 3), (99, .istore 6, 2), (101, .iload 6, 2), (103, .ifCond .ge 7, 3), (106, .iconst 0, 1), (107, .goto 21, 3), (110, .iload 6, 2), (112, .iload 4, 2), (114, .iconst 2, 1), (115, .idiv, 1), (116, .if_icmp .le 10, 3), (119, .iload 4, 2), (121, .iconst 2, 1), (122, .idiv, 1), (123, .goto 5, 3), (126, .iload 6, 2), (128, .ireturn, 1)]
set_option maxRecDepth 20000 in
theorem DX10_throughOf : ∀ q ∈ kX10_throughOf, decode mX10_throughOf.2.1 q.1 = .ok (q.2.1, q.2.2) := by decide +kernel
def kX10_flowOf : List (Nat × Instr × Nat) := [(0, .aload_n 0, 1), (1, .getfield 44, 3), (4, .aload_n 0, 1), (5, .getfield 22, 3), (8, .iload_n 1, 1), (9, .iaload, 1), (10, .iaload, 1), (11, .istore_n 2, 1), (12, .aload_n 0, 1), (13, .getfield 44, 3), (16, .aload_n 0, 1), (17, .getfield 25, 3), (20, .iload_n 1, 1), (21, .iaload, 1), (22, .iaload, 1), (23, .istore_n 3, 1), (24, .iload_n 2, 1), (25, .iload_n 3, 1), (26, .if_icmp .lt 13, 3), (29, .aload_n 0, 1), (30, .iload_n 1, 1), (31, .iload_n 2, 1), (32, .iload_n 3, 1), (33, .invokevirtual 234, 3), (36, .goto 11, 3), (39, .aload_n 0, 1), (40, .iload_n 1, 1), (41, .iload_n 3, 1), (42, .iload_n 2, 1), (43, .invokevirtual 234, 3), (46, .ineg, 1), (47, .ireturn, 1)]
set_option maxRecDepth 20000 in
theorem DX10_flowOf : ∀ q ∈ kX10_flowOf, decode mX10_flowOf.2.1 q.1 = .ok (q.2.1, q.2.2) := by decide +kernel
def kX10_dayGoes : List (Nat × Instr × Nat) := [(0, .iconst 0, 1), (1, .istore_n 1, 1), (2, .iload_n 1, 1), (3, .bipush 16, 2), (5, .if_icmp .ge 46, 3), (8, .aload_n 0, 1), (9, .getfield 47, 3), (12, .iload_n 1, 1), (13, .aload_n 0, 1), (14, .getfield 44, 3), (17, .iload_n 1, 1), (18, .iaload, 1), (19, .aload_n 0, 1), (20, .getfield 9, 3), (23, .iload_n 1, 1), (24, .iaload, 1), (25, .iadd, 1), (26, .aload_n 0, 1), (27, .getfield 9, 3), (30, .sipush 131, 3), (33, .iaload, 1), (34, .bipush 6, 2), (36, .aload_n 0, 1), (37, .iload_n 1, 1), (38, .invokevirtual 143, 3), (41, .isub, 1), (42, .imul, 1), (43, .isub, 1), (44, .iastore, 1), (45, .iinc 1 1, 3), (48, .goto (-46), 3), (51, .iconst 0, 1), (52, .istore_n 1, 1), (53, .iload_n 1, 1), (54, .bipush 33, 2), (56, .if_icmp .ge 75, 3), (59, .aload_n 0, 1), (60, .getfield 50, 3), (63, .iload_n 1, 1), (64, .aload_n 0, 1), (65, .iload_n 1, 1), (66, .invokevirtual 159, 3), (69, .iastore, 1), (70, .aload_n 0, 1), (71, .getfield 53, 3), (74, .iload_n 1, 1), (75, .dup2, 1), (76, .iaload, 1), (77, .aload_n 0, 1), (78, .getfield 50, 3), (81, .iload_n 1, 1), (82, .iaload, 1), (83, .iadd, 1), (84, .iastore, 1), (85, .aload_n 0, 1), (86, .getfield 47, 3), (89, .aload_n 0, 1), (90, .getfield 22, 3), (93, .iload_n 1, 1), (94, .iaload, 1), (95, .dup2, 1), (96, .iaload, 1), (97, .aload_n 0, 1), (98, .getfield 50, 3), (101, .iload_n 1, 1), (102, .iaload, 1), (103, .isub, 1), (104, .iastore, 1), (105, .aload_n 0, 1), (106, .getfield 47, 3), (109, .aload_n 0, 1), (110, .getfield 25, 3), (113, .iload_n 1, 1), (114, .iaload, 1), (115, .dup2, 1), (116, .iaload, 1), (117, .aload_n 0, 1), (118, .getfield 50, 3), (121, .iload_n 1, 1), (122, .iaload, 1), (123, .iadd, 1), (124, .iastore, 1), (125, .iinc 1 1, 3), (128, .goto (-75), 3), (131, .iconst 0, 1), (132, .istore_n 1, 1), (133, .iconst 0, 1), (134, .istore_n 2, 1), (135, .iload_n 2, 1), (136, .bipush 16, 2), (138, .if_icmp .ge 70, 3), (141, .aload_n 0, 1), (142, .getfield 47, 3), (145, .iload_n 2, 1), (146, .iaload, 1), (147, .ifCond .ge 7, 3), (150, .iconst 0, 1), (151, .goto 25, 3), (154, .aload_n 0, 1), (155, .getfield 47, 3), (158, .iload_n 2, 1), (159, .iaload, 1), (160, .bipush 99, 2), (162, .if_icmp .le 8, 3), (165, .bipush 99, 2), (167, .goto 9, 3), (170, .aload_n 0, 1), (171, .getfield 47, 3), (174, .iload_n 2, 1), (175, .iaload, 1), (176, .istore_n 3, 1), (177, .iload_n 1, 1), (178, .iload_n 3, 1), (179, .aload_n 0, 1), (180, .getfield 44, 3), (183, .iload_n 2, 1), (184, .iaload, 1), (185, .if_icmp .eq 7, 3), (188, .iconst 1, 1), (189, .goto 4, 3), (192, .iconst 0, 1), (193, .ior, 1), (194, .istore_n 1, 1), (195, .aload_n 0, 1), (196, .getfield 44, 3), (199, .iload_n 2, 1), (200, .iload_n 3, 1), (201, .iastore, 1), (202, .iinc 2 1, 3), (205, .goto (-70), 3), (208, .iload_n 1, 1), (209, .ireturn, 1)]
set_option maxRecDepth 20000 in
theorem DX10_dayGoes : ∀ q ∈ kX10_dayGoes, decode mX10_dayGoes.2.1 q.1 = .ok (q.2.1, q.2.2) := by decide +kernel
def kX10_winter : List (Nat × Instr × Nat) := [(0, .aload_n 0, 1), (1, .invokevirtual 156, 3), (4, .iconst 0, 1), (5, .istore_n 2, 1), (6, .iload_n 2, 1), (7, .iload_n 1, 1), (8, .if_icmp .ge 14, 3), (11, .aload_n 0, 1), (12, .invokevirtual 238, 3), (15, .pop, 1), (16, .iinc 2 1, 3), (19, .goto (-13), 3), (22, .return_, 1)]
set_option maxRecDepth 20000 in
theorem DX10_winter : ∀ q ∈ kX10_winter, decode mX10_winter.2.1 q.1 = .ok (q.2.1, q.2.2) := by decide +kernel
def kX10_allThen : List (Nat × Instr × Nat) := [(0, .iconst 0, 1), (1, .istore_n 1, 1), (2, .iconst 0, 1), (3, .istore_n 2, 1), (4, .iload_n 2, 1), (5, .bipush 16, 2), (7, .if_icmp .ge 18, 3), (10, .iload_n 1, 1), (11, .aload_n 0, 1), (12, .getfield 44, 3), (15, .iload_n 2, 1), (16, .iaload, 1), (17, .iadd, 1), (18, .istore_n 1, 1), (19, .iinc 2 1, 3), (22, .goto (-18), 3), (25, .iload_n 1, 1), (26, .ireturn, 1)]
set_option maxRecDepth 20000 in
theorem DX10_allThen : ∀ q ∈ kX10_allThen, decode mX10_allThen.2.1 q.1 = .ok (q.2.1, q.2.2) := by decide +kernel
def kX10_warmth : List (Nat × Instr × Nat) := [(0, .iload_n 1, 1), (1, .iconst (-1), 1), (2, .if_icmp .eq 10, 3), (5, .iload_n 1, 1), (6, .invokestatic 118, 3), (9, .ifCond .eq 15, 3), (12, .iload_n 2, 1), (13, .i2l, 1), (14, .lconst 0, 1), (15, .ldc2_w 242, 3), (18, .invokestatic 112, 3), (21, .ifCond .ne 5, 3), (24, .iconst (-1), 1), (25, .ireturn, 1), (26, .aload_n 0, 1), (27, .iload_n 2, 1), (28, .invokevirtual 244, 3), (31, .iload_n 1, 1), (32, .ifCond .ge 10, 3), (35, .aload_n 0, 1), (36, .invokevirtual 248, 3), (39, .goto 9, 3), (42, .aload_n 0, 1), (43, .getfield 44, 3), (46, .iload_n 1, 1), (47, .iaload, 1), (48, .ireturn, 1)]
set_option maxRecDepth 20000 in
theorem DX10_warmth : ∀ q ∈ kX10_warmth, decode mX10_warmth.2.1 q.1 = .ok (q.2.1, q.2.2) := by decide +kernel
def kX10_cold : List (Nat × Instr × Nat) := [(0, .iload_n 1, 1), (1, .i2l, 1), (2, .lconst 0, 1), (3, .ldc2_w 251, 3), (6, .invokestatic 112, 3), (9, .ifCond .eq 15, 3), (12, .iload_n 2, 1), (13, .i2l, 1), (14, .lconst 0, 1), (15, .ldc2_w 242, 3), (18, .invokestatic 112, 3), (21, .ifCond .ne 5, 3), (24, .iconst (-1), 1), (25, .ireturn, 1), (26, .aload_n 0, 1), (27, .iload_n 2, 1), (28, .invokevirtual 244, 3), (31, .iconst 0, 1), (32, .istore_n 3, 1), (33, .iconst 0, 1), (34, .istore 4, 2), (36, .iload 4, 2), (38, .bipush 16, 2), (40, .if_icmp .ge 38, 3), (43, .iload_n 3, 1), (44, .aload_n 0, 1), (45, .getfield 31, 3), (48, .iload 4, 2), (50, .baload, 1), (51, .ifCond .eq 18, 3), (54, .aload_n 0, 1), (55, .getfield 44, 3), (58, .iload 4, 2), (60, .iaload, 1), (61, .iload_n 1, 1), (62, .if_icmp .ge 7, 3), (65, .iconst 1, 1), (66, .goto 4, 3), (69, .iconst 0, 1), (70, .iadd, 1), (71, .istore_n 3, 1), (72, .iinc 4 1, 3), (75, .goto (-39), 3), (78, .iload_n 3, 1), (79, .ireturn, 1)]
set_option maxRecDepth 20000 in
theorem DX10_cold : ∀ q ∈ kX10_cold, decode mX10_cold.2.1 q.1 = .ok (q.2.1, q.2.2) := by decide +kernel
def kX10_still : List (Nat × Instr × Nat) := [(0, .aload_n 0, 1), (1, .invokevirtual 156, 3), (4, .iconst 0, 1), (5, .istore_n 1, 1), (6, .iload_n 1, 1), (7, .bipush 60, 2), (9, .if_icmp .gt 18, 3), (12, .aload_n 0, 1), (13, .invokevirtual 238, 3), (16, .ifCond .ne 5, 3), (19, .iload_n 1, 1), (20, .ireturn, 1), (21, .iinc 1 1, 3), (24, .goto (-18), 3), (27, .bipush (-2), 2), (29, .ireturn, 1)]
set_option maxRecDepth 20000 in
theorem DX10_still : ∀ q ∈ kX10_still, decode mX10_still.2.1 q.1 = .ok (q.2.1, q.2.2) := by decide +kernel
def kX10_gave : List (Nat × Instr × Nat) := [(0, .iload_n 1, 1), (1, .invokestatic 134, 3), (4, .ifCond .eq 15, 3), (7, .iload_n 2, 1), (8, .i2l, 1), (9, .lconst 0, 1), (10, .ldc2_w 242, 3), (13, .invokestatic 112, 3), (16, .ifCond .ne 6, 3), (19, .ldc 165, 2), (21, .ireturn, 1), (22, .aload_n 0, 1), (23, .iload_n 2, 1), (24, .invokevirtual 244, 3), (27, .aload_n 0, 1), (28, .getfield 53, 3), (31, .iload_n 1, 1), (32, .iaload, 1), (33, .ireturn, 1)]
set_option maxRecDepth 20000 in
theorem DX10_gave : ∀ q ∈ kX10_gave, decode mX10_gave.2.1 q.1 = .ok (q.2.1, q.2.2) := by decide +kernel
def kX10_leastFire : List (Nat × Instr × Nat) := [(0, .iload_n 1, 1), (1, .invokestatic 118, 3), (4, .ifCond .eq 25, 3), (7, .iload_n 2, 1), (8, .ifCond .lt 21, 3), (11, .iload_n 2, 1), (12, .bipush 100, 2), (14, .idiv, 1), (15, .bipush 99, 2), (17, .if_icmp .gt 12, 3), (20, .iload_n 2, 1), (21, .bipush 100, 2), (23, .irem, 1), (24, .bipush 30, 2), (26, .if_icmp .le 5, 3), (29, .iconst (-1), 1), (30, .ireturn, 1), (31, .aload_n 0, 1), (32, .getfield 9, 3), (35, .iload_n 1, 1), (36, .iaload, 1), (37, .istore_n 3, 1), (38, .bipush (-2), 2), (40, .istore 4, 2), (42, .bipush 9, 2), (44, .istore 5, 2), (46, .iload 5, 2), (48, .ifCond .lt 47, 3), (51, .aload_n 0, 1), (52, .getfield 9, 3), (55, .iload_n 1, 1), (56, .iload 5, 2), (58, .iastore, 1), (59, .aload_n 0, 1), (60, .iload_n 2, 1), (61, .bipush 100, 2), (63, .irem, 1), (64, .invokevirtual 244, 3), (67, .aload_n 0, 1), (68, .getfield 44, 3), (71, .iload_n 1, 1), (72, .iaload, 1), (73, .iload_n 2, 1), (74, .bipush 100, 2), (76, .idiv, 1), (77, .if_icmp .lt 8, 3), (80, .iload 5, 2), (82, .goto 5, 3), (85, .iload 4, 2), (87, .istore 4, 2), (89, .iinc 5 (-1), 3), (92, .goto (-46), 3), (95, .aload_n 0, 1), (96, .getfield 9, 3), (99, .iload_n 1, 1), (100, .iload_n 3, 1), (101, .iastore, 1), (102, .iload 4, 2), (104, .ireturn, 1)]
set_option maxRecDepth 20000 in
theorem DX10_leastFire : ∀ q ∈ kX10_leastFire, decode mX10_leastFire.2.1 q.1 = .ok (q.2.1, q.2.2) := by decide +kernel
def kX10_days : List (Nat × Instr × Nat) := [(0, .iload_n 1, 1), (1, .i2l, 1), (2, .lconst 1, 1), (3, .ldc2_w 242, 3), (6, .invokestatic 112, 3), (9, .ifCond .ne 5, 3), (12, .iconst (-1), 1), (13, .ireturn, 1), (14, .aload_n 0, 1), (15, .iload_n 1, 1), (16, .invokevirtual 244, 3), (19, .iconst 0, 1), (20, .istore_n 2, 1), (21, .iload_n 2, 1), (22, .bipush 16, 2), (24, .if_icmp .ge 21, 3), (27, .aload_n 0, 1), (28, .getfield 28, 3), (31, .iload_n 2, 1), (32, .aload_n 0, 1), (33, .getfield 44, 3), (36, .iload_n 2, 1), (37, .iaload, 1), (38, .iastore, 1), (39, .iinc 2 1, 3), (42, .goto (-21), 3), (45, .iconst 0, 1), (46, .istore_n 2, 1), (47, .iload_n 2, 1), (48, .bipush 33, 2), (50, .if_icmp .ge 21, 3), (53, .aload_n 0, 1), (54, .getfield 56, 3), (57, .iload_n 2, 1), (58, .aload_n 0, 1), (59, .getfield 50, 3), (62, .iload_n 2, 1), (63, .iaload, 1), (64, .iastore, 1), (65, .iinc 2 1, 3), (68, .goto (-21), 3), (71, .aload_n 0, 1), (72, .dup, 1), (73, .getfield 253, 3), (76, .iload_n 1, 1), (77, .iadd, 1), (78, .putfield 253, 3), (81, .aload_n 0, 1), (82, .invokevirtual 248, 3), (85, .ireturn, 1)]
set_option maxRecDepth 20000 in
theorem DX10_days : ∀ q ∈ kX10_days, decode mX10_days.2.1 q.1 = .ok (q.2.1, q.2.2) := by decide +kernel
def kX10_led : List (Nat × Instr × Nat) := [(0, .iload_n 1, 1), (1, .invokestatic 134, 3), (4, .ifCond .ne 8, 3), (7, .ldc 165, 2), (9, .goto 21, 3), (12, .aload_n 0, 1), (13, .getfield 253, 3), (16, .ifCond .ne 8, 3), (19, .bipush (-5), 2), (21, .goto 9, 3), (24, .aload_n 0, 1), (25, .getfield 56, 3), (28, .iload_n 1, 1), (29, .iaload, 1), (30, .ireturn, 1)]
set_option maxRecDepth 20000 in
theorem DX10_led : ∀ q ∈ kX10_led, decode mX10_led.2.1 q.1 = .ok (q.2.1, q.2.2) := by decide +kernel
def kX10_asksThick : List (Nat × Instr × Nat) := [(0, .iconst 0, 1), (1, .istore_n 1, 1), (2, .iload_n 1, 1), (3, .bipush 33, 2), (5, .if_icmp .ge 24, 3), (8, .aload_n 0, 1), (9, .getfield 59, 3), (12, .iload_n 1, 1), (13, .aload_n 0, 1), (14, .getfield 9, 3), (17, .bipush 32, 2), (19, .iload_n 1, 1), (20, .iadd, 1), (21, .iaload, 1), (22, .iastore, 1), (23, .iinc 1 1, 3), (26, .goto (-24), 3), (29, .return_, 1)]
set_option maxRecDepth 20000 in
theorem DX10_asksThick : ∀ q ∈ kX10_asksThick, decode mX10_asksThick.2.1 q.1 = .ok (q.2.1, q.2.2) := by decide +kernel
def kX10_borne : List (Nat × Instr × Nat) := [(0, .iconst 0, 1), (1, .istore_n 2, 1), (2, .iconst 0, 1), (3, .istore_n 3, 1), (4, .iload_n 3, 1), (5, .bipush 33, 2), (7, .if_icmp .ge 42, 3), (10, .iload_n 2, 1), (11, .aload_n 0, 1), (12, .getfield 22, 3), (15, .iload_n 3, 1), (16, .iaload, 1), (17, .iload_n 1, 1), (18, .if_icmp .eq 13, 3), (21, .aload_n 0, 1), (22, .getfield 25, 3), (25, .iload_n 3, 1), (26, .iaload, 1), (27, .iload_n 1, 1), (28, .if_icmp .ne 12, 3), (31, .aload_n 0, 1), (32, .getfield 59, 3), (35, .iload_n 3, 1), (36, .iaload, 1), (37, .goto 4, 3), (40, .iconst 0, 1), (41, .iadd, 1), (42, .istore_n 2, 1), (43, .iinc 3 1, 3), (46, .goto (-42), 3), (49, .iload_n 2, 1), (50, .ireturn, 1)]
set_option maxRecDepth 20000 in
theorem DX10_borne : ∀ q ∈ kX10_borne, decode mX10_borne.2.1 q.1 = .ok (q.2.1, q.2.2) := by decide +kernel
def kX10_roundGoes : List (Nat × Instr × Nat) := [(0, .iconst 0, 1), (1, .istore_n 1, 1), (2, .iconst 0, 1), (3, .istore_n 2, 1), (4, .iload_n 2, 1), (5, .bipush 33, 2), (7, .if_icmp .ge 104, 3), (10, .aload_n 0, 1), (11, .iload_n 2, 1), (12, .invokevirtual 153, 3), (15, .istore_n 3, 1), (16, .aload_n 0, 1), (17, .getfield 59, 3), (20, .iload_n 2, 1), (21, .iaload, 1), (22, .iload_n 3, 1), (23, .if_icmp .le 18, 3), (26, .aload_n 0, 1), (27, .getfield 59, 3), (30, .iload_n 2, 1), (31, .dup2, 1), (32, .iaload, 1), (33, .iconst 1, 1), (34, .isub, 1), (35, .iastore, 1), (36, .iconst 1, 1), (37, .istore_n 1, 1), (38, .goto 67, 3), (41, .aload_n 0, 1), (42, .getfield 59, 3), (45, .iload_n 2, 1), (46, .iaload, 1), (47, .iload_n 3, 1), (48, .if_icmp .ge 57, 3), (51, .aload_n 0, 1), (52, .aload_n 0, 1), (53, .getfield 22, 3), (56, .iload_n 2, 1), (57, .iaload, 1), (58, .invokevirtual 150, 3), (61, .aload_n 0, 1), (62, .getfield 9, 3), (65, .sipush 132, 3), (68, .iaload, 1), (69, .if_icmp .ge 36, 3), (72, .aload_n 0, 1), (73, .aload_n 0, 1), (74, .getfield 25, 3), (77, .iload_n 2, 1), (78, .iaload, 1), (79, .invokevirtual 150, 3), (82, .aload_n 0, 1), (83, .getfield 9, 3), (86, .sipush 132, 3), (89, .iaload, 1), (90, .if_icmp .ge 15, 3), (93, .aload_n 0, 1), (94, .getfield 59, 3), (97, .iload_n 2, 1), (98, .dup2, 1), (99, .iaload, 1), (100, .iconst 1, 1), (101, .iadd, 1), (102, .iastore, 1), (103, .iconst 1, 1), (104, .istore_n 1, 1), (105, .iinc 2 1, 3), (108, .goto (-104), 3), (111, .iload_n 1, 1), (112, .ireturn, 1)]
set_option maxRecDepth 20000 in
theorem DX10_roundGoes : ∀ q ∈ kX10_roundGoes, decode mX10_roundGoes.2.1 q.1 = .ok (q.2.1, q.2.2) := by decide +kernel
def kX10_rounds : List (Nat × Instr × Nat) := [(0, .iload_n 1, 1), (1, .iconst (-1), 1), (2, .if_icmp .eq 12, 3), (5, .iload_n 1, 1), (6, .invokestatic 134, 3), (9, .ifCond .ne 5, 3), (12, .iconst (-1), 1), (13, .ireturn, 1), (14, .aload_n 0, 1), (15, .invokevirtual 147, 3), (18, .iconst 0, 1), (19, .istore_n 2, 1), (20, .iload_n 2, 1), (21, .bipush 99, 2), (23, .if_icmp .gt 16, 3), (26, .aload_n 0, 1), (27, .invokevirtual 256, 3), (30, .ifCond .eq 9, 3), (33, .iinc 2 1, 3), (36, .goto (-16), 3), (39, .iload_n 1, 1), (40, .ifCond .lt 12, 3), (43, .aload_n 0, 1), (44, .getfield 59, 3), (47, .iload_n 1, 1), (48, .iaload, 1), (49, .goto 15, 3), (52, .iload_n 2, 1), (53, .bipush 99, 2), (55, .if_icmp .le 8, 3), (58, .bipush (-2), 2), (60, .goto 4, 3), (63, .iload_n 2, 1), (64, .ireturn, 1)]
set_option maxRecDepth 20000 in
theorem DX10_rounds : ∀ q ∈ kX10_rounds, decode mX10_rounds.2.1 q.1 = .ok (q.2.1, q.2.2) := by decide +kernel
def kX10_measures : List (Nat × Instr × Nat) := [(0, .iconst 0, 1), (1, .istore_n 3, 1), (2, .iload_n 3, 1), (3, .bipush 16, 2), (5, .if_icmp .ge 27, 3), (8, .aload_n 0, 1), (9, .getfield 62, 3), (12, .iload_n 3, 1), (13, .iload_n 3, 1), (14, .iload_n 1, 1), (15, .if_icmp .ne 7, 3), (18, .iconst 0, 1), (19, .goto 6, 3), (22, .sipush 1000, 3), (25, .iastore, 1), (26, .iinc 3 1, 3), (29, .goto (-27), 3), (32, .iconst 1, 1), (33, .istore_n 3, 1), (34, .iload_n 3, 1), (35, .ifCond .eq 147, 3), (38, .iconst 0, 1), (39, .istore_n 3, 1), (40, .iconst 0, 1), (41, .istore 4, 2), (43, .iload 4, 2), (45, .bipush 33, 2), (47, .if_icmp .ge 132, 3), (50, .aload_n 0, 1), (51, .getfield 9, 3), (54, .bipush 65, 2), (56, .iload 4, 2), (58, .iadd, 1), (59, .iaload, 1), (60, .iconst 1, 1), (61, .if_icmp .ne 7, 3), (64, .iconst 1, 1), (65, .goto 4, 3), (68, .iconst 0, 1), (69, .istore 5, 2), (71, .iload_n 2, 1), (72, .ifCond .eq 29, 3), (75, .iload 5, 2), (77, .ifCond .eq 7, 3), (80, .iconst 3, 1), (81, .goto 32, 3), (84, .iconst 3, 1), (85, .iconst 2, 1), (86, .aload_n 0, 1), (87, .getfield 9, 3), (90, .bipush 32, 2), (92, .iload 4, 2), (94, .iadd, 1), (95, .iaload, 1), (96, .imul, 1), (97, .iadd, 1), (98, .goto 15, 3), (101, .iload 5, 2), (103, .ifCond .eq 7, 3), (106, .iconst 1, 1), (107, .goto 6, 3), (110, .sipush 1000, 3), (113, .istore 6, 2), (115, .iload_n 3, 1), (116, .aload_n 0, 1), (117, .aload_n 0, 1), (118, .getfield 25, 3), (121, .iload 4, 2), (123, .iaload, 1), (124, .aload_n 0, 1), (125, .getfield 62, 3), (128, .aload_n 0, 1), (129, .getfield 22, 3), (132, .iload 4, 2), (134, .iaload, 1), (135, .iaload, 1), (136, .iload 6, 2), (138, .iadd, 1), (139, .invokevirtual 259, 3), (142, .ior, 1), (143, .istore_n 3, 1), (144, .iload_n 3, 1), (145, .aload_n 0, 1), (146, .aload_n 0, 1), (147, .getfield 22, 3), (150, .iload 4, 2), (152, .iaload, 1), (153, .aload_n 0, 1), (154, .getfield 62, 3), (157, .aload_n 0, 1), (158, .getfield 25, 3), (161, .iload 4, 2), (163, .iaload, 1), (164, .iaload, 1), (165, .iload 6, 2), (167, .iadd, 1), (168, .invokevirtual 259, 3), (171, .ior, 1), (172, .istore_n 3, 1), (173, .iinc 4 1, 3), (176, .goto (-133), 3), (179, .goto (-145), 3), (182, .return_, 1)]
set_option maxRecDepth 20000 in
theorem DX10_measures : ∀ q ∈ kX10_measures, decode mX10_measures.2.1 q.1 = .ok (q.2.1, q.2.2) := by decide +kernel
def kX10_comesTo : List (Nat × Instr × Nat) := [(0, .iload_n 2, 1), (1, .aload_n 0, 1), (2, .getfield 62, 3), (5, .iload_n 1, 1), (6, .iaload, 1), (7, .if_icmp .ge 7, 3), (10, .iconst 1, 1), (11, .goto 4, 3), (14, .iconst 0, 1), (15, .istore_n 3, 1), (16, .aload_n 0, 1), (17, .getfield 62, 3), (20, .iload_n 1, 1), (21, .iload_n 3, 1), (22, .ifCond .eq 7, 3), (25, .iload_n 2, 1), (26, .goto 9, 3), (29, .aload_n 0, 1), (30, .getfield 62, 3), (33, .iload_n 1, 1), (34, .iaload, 1), (35, .iastore, 1), (36, .iload_n 3, 1), (37, .ireturn, 1)]
set_option maxRecDepth 20000 in
theorem DX10_comesTo : ∀ q ∈ kX10_comesTo, decode mX10_comesTo.2.1 q.1 = .ok (q.2.1, q.2.2) := by decide +kernel
def kX10_way : List (Nat × Instr × Nat) := [(0, .iload_n 1, 1), (1, .invokestatic 122, 3), (4, .ifCond .ne 5, 3), (7, .iconst (-1), 1), (8, .ireturn, 1), (9, .aload_n 0, 1), (10, .iload_n 1, 1), (11, .bipush 100, 2), (13, .idiv, 1), (14, .iconst 0, 1), (15, .invokevirtual 262, 3), (18, .aload_n 0, 1), (19, .getfield 62, 3), (22, .iload_n 1, 1), (23, .bipush 100, 2), (25, .irem, 1), (26, .iaload, 1), (27, .istore_n 2, 1), (28, .iload_n 2, 1), (29, .sipush 1000, 3), (32, .if_icmp .lt 8, 3), (35, .bipush (-2), 2), (37, .goto 4, 3), (40, .iload_n 2, 1), (41, .ireturn, 1)]
set_option maxRecDepth 20000 in
theorem DX10_way : ∀ q ∈ kX10_way, decode mX10_way.2.1 q.1 = .ok (q.2.1, q.2.2) := by decide +kernel
def kX10_outWith : List (Nat × Instr × Nat) := [(0, .iconst 0, 1), (1, .istore_n 3, 1), (2, .iconst 0, 1), (3, .istore 4, 2), (5, .iload 4, 2), (7, .bipush 16, 2), (9, .if_icmp .ge 31, 3), (12, .iload_n 3, 1), (13, .aload_n 0, 1), (14, .iload 4, 2), (16, .invokevirtual 143, 3), (19, .bipush 6, 2), (21, .if_icmp .ge 10, 3), (24, .iconst 1, 1), (25, .iload 4, 2), (27, .ishl, 1), (28, .goto 4, 3), (31, .iconst 0, 1), (32, .ior, 1), (33, .istore_n 3, 1), (34, .iinc 4 1, 3), (37, .goto (-32), 3), (40, .iconst 0, 1), (41, .istore 4, 2), (43, .iload 4, 2), (45, .iload_n 3, 1), (46, .if_icmp .eq 128, 3), (49, .iload_n 3, 1), (50, .istore 4, 2), (52, .iconst 0, 1), (53, .istore 5, 2), (55, .iload 5, 2), (57, .bipush 33, 2), (59, .if_icmp .ge 112, 3), (62, .aload_n 0, 1), (63, .getfield 9, 3), (66, .bipush 65, 2), (68, .iload 5, 2), (70, .iadd, 1), (71, .iaload, 1), (72, .iconst 1, 1), (73, .if_icmp .eq 12, 3), (76, .lload_n 1, 1), (77, .iload 5, 2), (79, .invokestatic 266, 3), (82, .ifCond .eq 7, 3), (85, .iconst 1, 1), (86, .goto 4, 3), (89, .iconst 0, 1), (90, .istore 6, 2), (92, .iload 6, 2), (94, .ifCond .eq 37, 3), (97, .iload_n 3, 1), (98, .i2l, 1), (99, .aload_n 0, 1), (100, .getfield 22, 3), (103, .iload 5, 2), (105, .iaload, 1), (106, .invokestatic 266, 3), (109, .ifCond .ne 18, 3), (112, .iload_n 3, 1), (113, .i2l, 1), (114, .aload_n 0, 1), (115, .getfield 25, 3), (118, .iload 5, 2), (120, .iaload, 1), (121, .invokestatic 266, 3), (124, .ifCond .eq 7, 3), (127, .iconst 1, 1), (128, .goto 4, 3), (131, .iconst 0, 1), (132, .istore 7, 2), (134, .iload_n 3, 1), (135, .iload 7, 2), (137, .ifCond .eq 25, 3), (140, .iconst 1, 1), (141, .aload_n 0, 1), (142, .getfield 22, 3), (145, .iload 5, 2), (147, .iaload, 1), (148, .ishl, 1), (149, .iconst 1, 1), (150, .aload_n 0, 1), (151, .getfield 25, 3), (154, .iload 5, 2), (156, .iaload, 1), (157, .ishl, 1), (158, .ior, 1), (159, .goto 4, 3), (162, .iconst 0, 1), (163, .ior, 1), (164, .istore_n 3, 1), (165, .iinc 5 1, 3), (168, .goto (-113), 3), (171, .goto (-128), 3), (174, .iload_n 3, 1), (175, .ireturn, 1)]
set_option maxRecDepth 20000 in
theorem DX10_outWith : ∀ q ∈ kX10_outWith, decode mX10_outWith.2.1 q.1 = .ok (q.2.1, q.2.2) := by decide +kernel
def kX10_livedIn : List (Nat × Instr × Nat) := [(0, .iconst 0, 1), (1, .istore_n 1, 1), (2, .iconst 0, 1), (3, .istore_n 2, 1), (4, .iload_n 2, 1), (5, .bipush 16, 2), (7, .if_icmp .ge 28, 3), (10, .iload_n 1, 1), (11, .aload_n 0, 1), (12, .getfield 31, 3), (15, .iload_n 2, 1), (16, .baload, 1), (17, .ifCond .eq 9, 3), (20, .iconst 1, 1), (21, .iload_n 2, 1), (22, .ishl, 1), (23, .goto 4, 3), (26, .iconst 0, 1), (27, .ior, 1), (28, .istore_n 1, 1), (29, .iinc 2 1, 3), (32, .goto (-28), 3), (35, .iload_n 1, 1), (36, .ireturn, 1)]
set_option maxRecDepth 20000 in
theorem DX10_livedIn : ∀ q ∈ kX10_livedIn, decode mX10_livedIn.2.1 q.1 = .ok (q.2.1, q.2.2) := by decide +kernel
def kX10_bitsOf : List (Nat × Instr × Nat) := [(0, .iconst 0, 1), (1, .istore_n 2, 1), (2, .lload_n 0, 1), (3, .lstore_n 3, 1), (4, .lload_n 3, 1), (5, .lconst 0, 1), (6, .lcmp, 1), (7, .ifCond .eq 15, 3), (10, .iinc 2 1, 3), (13, .lload_n 3, 1), (14, .lload_n 3, 1), (15, .lconst 1, 1), (16, .lsub, 1), (17, .land, 1), (18, .lstore_n 3, 1), (19, .goto (-15), 3), (22, .iload_n 2, 1), (23, .ireturn, 1)]
set_option maxRecDepth 20000 in
theorem DX10_bitsOf : ∀ q ∈ kX10_bitsOf, decode mX10_bitsOf.2.1 q.1 = .ok (q.2.1, q.2.2) := by decide +kernel
def kX10_doors : List (Nat × Instr × Nat) := [(0, .iload_n 1, 1), (1, .i2l, 1), (2, .lconst 0, 1), (3, .lconst 1, 1), (4, .invokestatic 112, 3), (7, .ifCond .ne 5, 3), (10, .iconst (-1), 1), (11, .ireturn, 1), (12, .iload_n 1, 1), (13, .ifCond .ne 20, 3), (16, .aload_n 0, 1), (17, .invokevirtual 270, 3), (20, .aload_n 0, 1), (21, .lconst 0, 1), (22, .invokevirtual 273, 3), (25, .iconst (-1), 1), (26, .ixor, 1), (27, .iand, 1), (28, .i2l, 1), (29, .invokestatic 277, 3), (32, .ireturn, 1), (33, .iconst 0, 1), (34, .istore_n 2, 1), (35, .iconst 0, 1), (36, .istore_n 3, 1), (37, .iload_n 3, 1), (38, .bipush 33, 2), (40, .if_icmp .ge 58, 3), (43, .iload_n 2, 1), (44, .aload_n 0, 1), (45, .getfield 9, 3), (48, .bipush 65, 2), (50, .iload_n 3, 1), (51, .iadd, 1), (52, .iaload, 1), (53, .iconst 1, 1), (54, .if_icmp .ne 35, 3), (57, .aload_n 0, 1), (58, .getfield 31, 3), (61, .aload_n 0, 1), (62, .getfield 22, 3), (65, .iload_n 3, 1), (66, .iaload, 1), (67, .baload, 1), (68, .ifCond .eq 21, 3), (71, .aload_n 0, 1), (72, .getfield 31, 3), (75, .aload_n 0, 1), (76, .getfield 25, 3), (79, .iload_n 3, 1), (80, .iaload, 1), (81, .baload, 1), (82, .ifCond .eq 7, 3), (85, .iconst 1, 1), (86, .goto 4, 3), (89, .iconst 0, 1), (90, .iadd, 1), (91, .istore_n 2, 1), (92, .iinc 3 1, 3), (95, .goto (-58), 3), (98, .iload_n 2, 1), (99, .ireturn, 1)]
set_option maxRecDepth 20000 in
theorem DX10_doors : ∀ q ∈ kX10_doors, decode mX10_doors.2.1 q.1 = .ok (q.2.1, q.2.2) := by decide +kernel
def kX10_opens : List (Nat × Instr × Nat) := [(0, .iload_n 2, 1), (1, .ifCond .ne 61, 3), (4, .aload_n 0, 1), (5, .invokevirtual 270, 3), (8, .aload_n 0, 1), (9, .lload_n 3, 1), (10, .invokevirtual 273, 3), (13, .iconst (-1), 1), (14, .ixor, 1), (15, .iand, 1), (16, .ifCond .ne 7, 3), (19, .iconst 1, 1), (20, .goto 4, 3), (23, .iconst 0, 1), (24, .istore 5, 2), (26, .aload_n 0, 1), (27, .iload 5, 2), (29, .ifCond .eq 25, 3), (32, .aload_n 0, 1), (33, .getfield 280, 3), (36, .lconst 0, 1), (37, .lcmp, 1), (38, .ifCond .lt 12, 3), (41, .lload_n 3, 1), (42, .aload_n 0, 1), (43, .getfield 280, 3), (46, .lcmp, 1), (47, .ifCond .ge 7, 3), (50, .lload_n 3, 1), (51, .goto 7, 3), (54, .aload_n 0, 1), (55, .getfield 280, 3), (58, .putfield 280, 3), (61, .return_, 1), (62, .iconst 0, 1), (63, .istore 5, 2), (65, .iload 5, 2), (67, .iload_n 1, 1), (68, .if_icmp .ge 37, 3), (71, .aload_n 0, 1), (72, .getfield 9, 3), (75, .bipush 65, 2), (77, .iload 5, 2), (79, .iadd, 1), (80, .iaload, 1), (81, .ifCond .ne 18, 3), (84, .aload_n 0, 1), (85, .iload 5, 2), (87, .iload_n 2, 1), (88, .iconst 1, 1), (89, .isub, 1), (90, .lload_n 3, 1), (91, .lconst 1, 1), (92, .iload 5, 2), (94, .lshl, 1), (95, .lor, 1), (96, .invokevirtual 284, 3), (99, .iinc 5 1, 3), (102, .goto (-37), 3), (105, .return_, 1)]
set_option maxRecDepth 20000 in
theorem DX10_opens : ∀ q ∈ kX10_opens, decode mX10_opens.2.1 q.1 = .ok (q.2.1, q.2.2) := by decide +kernel
def kX10_opened : List (Nat × Instr × Nat) := [(0, .iload_n 1, 1), (1, .i2l, 1), (2, .lconst 0, 1), (3, .lconst 1, 1), (4, .invokestatic 112, 3), (7, .ifCond .ne 7, 3), (10, .ldc2_w 290, 3), (13, .lreturn, 1), (14, .aload_n 0, 1), (15, .ldc2_w 292, 3), (18, .putfield 280, 3), (21, .iconst 0, 1), (22, .istore_n 2, 1), (23, .aload_n 0, 1), (24, .bipush 33, 2), (26, .iload_n 2, 1), (27, .lconst 0, 1), (28, .invokevirtual 284, 3), (31, .aload_n 0, 1), (32, .getfield 280, 3), (35, .lconst 0, 1), (36, .lcmp, 1), (37, .ifCond .ge 17, 3), (40, .iinc 2 1, 3), (43, .aload_n 0, 1), (44, .bipush 33, 2), (46, .iload_n 2, 1), (47, .lconst 0, 1), (48, .invokevirtual 284, 3), (51, .goto (-20), 3), (54, .iload_n 1, 1), (55, .ifCond .ne 8, 3), (58, .iload_n 2, 1), (59, .i2l, 1), (60, .goto 7, 3), (63, .aload_n 0, 1), (64, .getfield 280, 3), (67, .lreturn, 1)]
set_option maxRecDepth 20000 in
theorem DX10_opened : ∀ q ∈ kX10_opened, decode mX10_opened.2.1 q.1 = .ok (q.2.1, q.2.2) := by decide +kernel
def kX10_heard : List (Nat × Instr × Nat) := [(0, .iload_n 1, 1), (1, .invokestatic 122, 3), (4, .ifCond .eq 15, 3), (7, .iload_n 2, 1), (8, .i2l, 1), (9, .lconst 0, 1), (10, .ldc2_w 251, 3), (13, .invokestatic 112, 3), (16, .ifCond .ne 5, 3), (19, .iconst (-1), 1), (20, .ireturn, 1), (21, .aload_n 0, 1), (22, .iload_n 1, 1), (23, .bipush 100, 2), (25, .idiv, 1), (26, .iconst 1, 1), (27, .invokevirtual 262, 3), (30, .iload_n 2, 1), (31, .aload_n 0, 1), (32, .getfield 62, 3), (35, .iload_n 1, 1), (36, .bipush 100, 2), (38, .irem, 1), (39, .iaload, 1), (40, .isub, 1), (41, .istore_n 3, 1), (42, .iload_n 3, 1), (43, .ifCond .ge 7, 3), (46, .iconst 0, 1), (47, .goto 4, 3), (50, .iload_n 3, 1), (51, .ireturn, 1)]
set_option maxRecDepth 20000 in
theorem DX10_heard : ∀ q ∈ kX10_heard, decode mX10_heard.2.1 q.1 = .ok (q.2.1, q.2.2) := by decide +kernel
def kX10_whose : List (Nat × Instr × Nat) := [(0, .iload_n 1, 1), (1, .i2l, 1), (2, .lconst 0, 1), (3, .ldc2_w 251, 3), (6, .invokestatic 112, 3), (9, .ifCond .eq 15, 3), (12, .iload_n 2, 1), (13, .i2l, 1), (14, .lconst 0, 1), (15, .ldc2_w 294, 3), (18, .invokestatic 112, 3), (21, .ifCond .ne 5, 3), (24, .iconst (-1), 1), (25, .ireturn, 1), (26, .iconst 0, 1), (27, .istore_n 3, 1), (28, .iconst 0, 1), (29, .istore 4, 2), (31, .iload 4, 2), (33, .bipush 16, 2), (35, .if_icmp .ge 101, 3), (38, .aload_n 0, 1), (39, .iload 4, 2), (41, .iconst 1, 1), (42, .invokevirtual 262, 3), (45, .iconst 0, 1), (46, .istore 5, 2), (48, .iconst 0, 1), (49, .istore 6, 2), (51, .iload 6, 2), (53, .bipush 16, 2), (55, .if_icmp .ge 34, 3), (58, .iload 5, 2), (60, .iload_n 1, 1), (61, .aload_n 0, 1), (62, .getfield 62, 3), (65, .iload 6, 2), (67, .iaload, 1), (68, .isub, 1), (69, .ifCond .le 10, 3), (72, .iconst 1, 1), (73, .iload 6, 2), (75, .ishl, 1), (76, .goto 4, 3), (79, .iconst 0, 1), (80, .ior, 1), (81, .istore 5, 2), (83, .iinc 6 1, 3), (86, .goto (-35), 3), (89, .iload_n 3, 1), (90, .aload_n 0, 1), (91, .getfield 31, 3), (94, .iload 4, 2), (96, .baload, 1), (97, .ifCond .eq 30, 3), (100, .iload 5, 2), (102, .iconst 1, 1), (103, .iload 4, 2), (105, .ishl, 1), (106, .iconst (-1), 1), (107, .ixor, 1), (108, .iand, 1), (109, .iload_n 2, 1), (110, .iconst 1, 1), (111, .iload 4, 2), (113, .ishl, 1), (114, .iconst (-1), 1), (115, .ixor, 1), (116, .iand, 1), (117, .if_icmp .ne 10, 3), (120, .iconst 1, 1), (121, .iload 4, 2), (123, .ishl, 1), (124, .goto 4, 3), (127, .iconst 0, 1), (128, .ior, 1), (129, .istore_n 3, 1), (130, .iinc 4 1, 3), (133, .goto (-102), 3), (136, .iload_n 3, 1), (137, .ireturn, 1)]
set_option maxRecDepth 20000 in
theorem DX10_whose : ∀ q ∈ kX10_whose, decode mX10_whose.2.1 q.1 = .ok (q.2.1, q.2.2) := by decide +kernel
def kX10_asksColours : List (Nat × Instr × Nat) := [(0, .iconst 0, 1), (1, .istore_n 1, 1), (2, .iload_n 1, 1), (3, .bipush 33, 2), (5, .if_icmp .ge 24, 3), (8, .aload_n 0, 1), (9, .getfield 65, 3), (12, .iload_n 1, 1), (13, .aload_n 0, 1), (14, .getfield 9, 3), (17, .bipush 98, 2), (19, .iload_n 1, 1), (20, .iadd, 1), (21, .iaload, 1), (22, .iastore, 1), (23, .iinc 1 1, 3), (26, .goto (-24), 3), (29, .return_, 1)]
set_option maxRecDepth 20000 in
theorem DX10_asksColours : ∀ q ∈ kX10_asksColours, decode mX10_asksColours.2.1 q.1 = .ok (q.2.1, q.2.2) := by decide +kernel
def kX10_clashes : List (Nat × Instr × Nat) := [(0, .iconst 0, 1), (1, .istore_n 1, 1), (2, .iconst 0, 1), (3, .istore_n 2, 1), (4, .iload_n 2, 1), (5, .bipush 33, 2), (7, .if_icmp .ge 117, 3), (10, .iconst 0, 1), (11, .istore_n 3, 1), (12, .iload_n 3, 1), (13, .iload_n 2, 1), (14, .if_icmp .ge 104, 3), (17, .aload_n 0, 1), (18, .getfield 22, 3), (21, .iload_n 2, 1), (22, .iaload, 1), (23, .aload_n 0, 1), (24, .getfield 22, 3), (27, .iload_n 3, 1), (28, .iaload, 1), (29, .if_icmp .eq 48, 3), (32, .aload_n 0, 1), (33, .getfield 22, 3), (36, .iload_n 2, 1), (37, .iaload, 1), (38, .aload_n 0, 1), (39, .getfield 25, 3), (42, .iload_n 3, 1), (43, .iaload, 1), (44, .if_icmp .eq 33, 3), (47, .aload_n 0, 1), (48, .getfield 25, 3), (51, .iload_n 2, 1), (52, .iaload, 1), (53, .aload_n 0, 1), (54, .getfield 22, 3), (57, .iload_n 3, 1), (58, .iaload, 1), (59, .if_icmp .eq 18, 3), (62, .aload_n 0, 1), (63, .getfield 25, 3), (66, .iload_n 2, 1), (67, .iaload, 1), (68, .aload_n 0, 1), (69, .getfield 25, 3), (72, .iload_n 3, 1), (73, .iaload, 1), (74, .if_icmp .ne 7, 3), (77, .iconst 1, 1), (78, .goto 4, 3), (81, .iconst 0, 1), (82, .istore 4, 2), (84, .iload_n 1, 1), (85, .iload 4, 2), (87, .ifCond .eq 22, 3), (90, .aload_n 0, 1), (91, .getfield 65, 3), (94, .iload_n 2, 1), (95, .iaload, 1), (96, .aload_n 0, 1), (97, .getfield 65, 3), (100, .iload_n 3, 1), (101, .iaload, 1), (102, .if_icmp .ne 7, 3), (105, .iconst 1, 1), (106, .goto 4, 3), (109, .iconst 0, 1), (110, .iadd, 1), (111, .istore_n 1, 1), (112, .iinc 3 1, 3), (115, .goto (-103), 3), (118, .iinc 2 1, 3), (121, .goto (-117), 3), (124, .iload_n 1, 1), (125, .ireturn, 1)]
set_option maxRecDepth 20000 in
theorem DX10_clashes : ∀ q ∈ kX10_clashes, decode mX10_clashes.2.1 q.1 = .ok (q.2.1, q.2.2) := by decide +kernel
def kX10_bestColour : List (Nat × Instr × Nat) := [(0, .aload_n 0, 1), (1, .getfield 65, 3), (4, .iload_n 1, 1), (5, .iaload, 1), (6, .istore_n 2, 1), (7, .iconst (-1), 1), (8, .istore_n 3, 1), (9, .iconst 0, 1), (10, .istore 4, 2), (12, .iconst 0, 1), (13, .istore 5, 2), (15, .iload 5, 2), (17, .bipush 6, 2), (19, .if_icmp .ge 41, 3), (22, .aload_n 0, 1), (23, .getfield 65, 3), (26, .iload_n 1, 1), (27, .iload 5, 2), (29, .iastore, 1), (30, .aload_n 0, 1), (31, .invokevirtual 296, 3), (34, .istore 6, 2), (36, .iload_n 3, 1), (37, .ifCond .lt 10, 3), (40, .iload 6, 2), (42, .iload 4, 2), (44, .if_icmp .ge 10, 3), (47, .iload 5, 2), (49, .istore_n 3, 1), (50, .iload 6, 2), (52, .istore 4, 2), (54, .iinc 5 1, 3), (57, .goto (-42), 3), (60, .aload_n 0, 1), (61, .getfield 65, 3), (64, .iload_n 1, 1), (65, .iload_n 2, 1), (66, .iastore, 1), (67, .iload_n 3, 1), (68, .ireturn, 1)]
set_option maxRecDepth 20000 in
theorem DX10_bestColour : ∀ q ∈ kX10_bestColour, decode mX10_bestColour.2.1 q.1 = .ok (q.2.1, q.2.2) := by decide +kernel
def kX10_paint : List (Nat × Instr × Nat) := [(0, .iload_n 1, 1), (1, .invokestatic 134, 3), (4, .ifCond .ne 5, 3), (7, .iconst (-1), 1), (8, .ireturn, 1), (9, .aload_n 0, 1), (10, .invokevirtual 299, 3), (13, .aload_n 0, 1), (14, .iload_n 1, 1), (15, .invokevirtual 302, 3), (18, .ireturn, 1)]
set_option maxRecDepth 20000 in
theorem DX10_paint : ∀ q ∈ kX10_paint, decode mX10_paint.2.1 q.1 = .ok (q.2.1, q.2.2) := by decide +kernel
def kX10_colours : List (Nat × Instr × Nat) := [(0, .aload_n 0, 1), (1, .invokevirtual 299, 3), (4, .iconst 0, 1), (5, .istore_n 2, 1), (6, .iconst 0, 1), (7, .istore_n 3, 1), (8, .iload_n 3, 1), (9, .bipush 33, 2), (11, .if_icmp .ge 45, 3), (14, .iload_n 2, 1), (15, .iconst 1, 1), (16, .aload_n 0, 1), (17, .getfield 65, 3), (20, .iload_n 3, 1), (21, .iaload, 1), (22, .ishl, 1), (23, .ior, 1), (24, .istore_n 2, 1), (25, .aload_n 0, 1), (26, .getfield 65, 3), (29, .iload_n 3, 1), (30, .iload_n 1, 1), (31, .iconst 1, 1), (32, .if_icmp .ne 11, 3), (35, .aload_n 0, 1), (36, .iload_n 3, 1), (37, .invokevirtual 302, 3), (40, .goto 9, 3), (43, .aload_n 0, 1), (44, .getfield 65, 3), (47, .iload_n 3, 1), (48, .iaload, 1), (49, .iastore, 1), (50, .iinc 3 1, 3), (53, .goto (-45), 3), (56, .iload_n 1, 1), (57, .iconst 2, 1), (58, .if_icmp .ne 11, 3), (61, .iload_n 2, 1), (62, .i2l, 1), (63, .invokestatic 277, 3), (66, .goto 21, 3), (69, .iload_n 1, 1), (70, .i2l, 1), (71, .lconst 0, 1), (72, .lconst 1, 1), (73, .invokestatic 112, 3), (76, .ifCond .eq 10, 3), (79, .aload_n 0, 1), (80, .invokevirtual 296, 3), (83, .goto 4, 3), (86, .iconst (-1), 1), (87, .ireturn, 1)]
set_option maxRecDepth 20000 in
theorem DX10_colours : ∀ q ∈ kX10_colours, decode mX10_colours.2.1 q.1 = .ok (q.2.1, q.2.2) := by decide +kernel
def kX10_empty : List (Nat × Instr × Nat) := [(0, .iload_n 1, 1), (1, .invokestatic 118, 3), (4, .ifCond .ne 5, 3), (7, .iconst (-1), 1), (8, .ireturn, 1), (9, .aload_n 0, 1), (10, .getfield 31, 3), (13, .iload_n 1, 1), (14, .baload, 1), (15, .ifCond .ne 6, 3), (18, .bipush (-5), 2), (20, .ireturn, 1), (21, .aload_n 0, 1), (22, .getfield 31, 3), (25, .iload_n 1, 1), (26, .iconst 0, 1), (27, .bastore, 1), (28, .aload_n 0, 1), (29, .getfield 9, 3), (32, .iload_n 1, 1), (33, .iconst 0, 1), (34, .iastore, 1), (35, .aload_n 0, 1), (36, .invokevirtual 270, 3), (39, .i2l, 1), (40, .invokestatic 277, 3), (43, .ireturn, 1)]
set_option maxRecDepth 20000 in
theorem DX10_empty : ∀ q ∈ kX10_empty, decode mX10_empty.2.1 q.1 = .ok (q.2.1, q.2.2) := by decide +kernel
def kX10_whoTakes : List (Nat × Instr × Nat) := [(0, .bipush (-2), 2), (2, .istore_n 2, 1), (3, .iconst 0, 1), (4, .istore_n 3, 1), (5, .iload_n 3, 1), (6, .bipush 16, 2), (8, .if_icmp .ge 70, 3), (11, .aload_n 0, 1), (12, .getfield 31, 3), (15, .iload_n 3, 1), (16, .baload, 1), (17, .ifCond .eq 16, 3), (20, .aload_n 0, 1), (21, .iload_n 1, 1), (22, .iload_n 3, 1), (23, .invokevirtual 125, 3), (26, .ifCond .lt 7, 3), (29, .iconst 1, 1), (30, .goto 4, 3), (33, .iconst 0, 1), (34, .istore 4, 2), (36, .iload 4, 2), (38, .ifCond .eq 32, 3), (41, .iload_n 2, 1), (42, .ifCond .lt 24, 3), (45, .aload_n 0, 1), (46, .getfield 9, 3), (49, .bipush 16, 2), (51, .iload_n 3, 1), (52, .iadd, 1), (53, .iaload, 1), (54, .aload_n 0, 1), (55, .getfield 9, 3), (58, .bipush 16, 2), (60, .iload_n 2, 1), (61, .iadd, 1), (62, .iaload, 1), (63, .if_icmp .le 7, 3), (66, .iload_n 3, 1), (67, .goto 4, 3), (70, .iload_n 2, 1), (71, .istore_n 2, 1), (72, .iinc 3 1, 3), (75, .goto (-70), 3), (78, .iload_n 2, 1), (79, .ireturn, 1)]
set_option maxRecDepth 20000 in
theorem DX10_whoTakes : ∀ q ∈ kX10_whoTakes, decode mX10_whoTakes.2.1 q.1 = .ok (q.2.1, q.2.2) := by decide +kernel
def kX10_takes : List (Nat × Instr × Nat) := [(0, .iload_n 1, 1), (1, .invokestatic 118, 3), (4, .ifCond .eq 13, 3), (7, .iload_n 2, 1), (8, .i2l, 1), (9, .lconst 0, 1), (10, .lconst 1, 1), (11, .invokestatic 112, 3), (14, .ifCond .ne 5, 3), (17, .iconst (-1), 1), (18, .ireturn, 1), (19, .aload_n 0, 1), (20, .getfield 31, 3), (23, .iload_n 1, 1), (24, .baload, 1), (25, .ifCond .eq 6, 3), (28, .bipush (-5), 2), (30, .ireturn, 1), (31, .aload_n 0, 1), (32, .iload_n 1, 1), (33, .invokevirtual 305, 3), (36, .istore_n 3, 1), (37, .iload_n 2, 1), (38, .iconst 1, 1), (39, .if_icmp .ne 47, 3), (42, .iload_n 3, 1), (43, .ifCond .lt 43, 3), (46, .aload_n 0, 1), (47, .getfield 31, 3), (50, .iload_n 1, 1), (51, .iconst 1, 1), (52, .bastore, 1), (53, .aload_n 0, 1), (54, .getfield 9, 3), (57, .bipush 16, 2), (59, .iload_n 1, 1), (60, .iadd, 1), (61, .aload_n 0, 1), (62, .getfield 9, 3), (65, .bipush 16, 2), (67, .iload_n 3, 1), (68, .iadd, 1), (69, .iaload, 1), (70, .iastore, 1), (71, .aload_n 0, 1), (72, .getfield 9, 3), (75, .bipush 65, 2), (77, .aload_n 0, 1), (78, .iload_n 1, 1), (79, .iload_n 3, 1), (80, .invokevirtual 125, 3), (83, .iadd, 1), (84, .iconst 1, 1), (85, .iastore, 1), (86, .iload_n 3, 1), (87, .ireturn, 1)]
set_option maxRecDepth 20000 in
theorem DX10_takes : ∀ q ∈ kX10_takes, decode mX10_takes.2.1 q.1 = .ok (q.2.1, q.2.2) := by decide +kernel
def kX10_where : List (Nat × Instr × Nat) := [(0, .iload_n 1, 1), (1, .i2l, 1), (2, .lconst 0, 1), (3, .ldc2_w 242, 3), (6, .invokestatic 112, 3), (9, .ifCond .ne 5, 3), (12, .iconst (-1), 1), (13, .ireturn, 1), (14, .aload_n 0, 1), (15, .iload_n 1, 1), (16, .invokevirtual 244, 3), (19, .bipush (-2), 2), (21, .istore_n 2, 1), (22, .iconst 0, 1), (23, .istore_n 3, 1), (24, .iload_n 3, 1), (25, .bipush 16, 2), (27, .if_icmp .ge 43, 3), (30, .aload_n 0, 1), (31, .getfield 31, 3), (34, .iload_n 3, 1), (35, .baload, 1), (36, .ifCond .ne 26, 3), (39, .iload_n 2, 1), (40, .ifCond .lt 18, 3), (43, .aload_n 0, 1), (44, .getfield 44, 3), (47, .iload_n 3, 1), (48, .iaload, 1), (49, .aload_n 0, 1), (50, .getfield 44, 3), (53, .iload_n 2, 1), (54, .iaload, 1), (55, .if_icmp .le 7, 3), (58, .iload_n 3, 1), (59, .goto 4, 3), (62, .iload_n 2, 1), (63, .istore_n 2, 1), (64, .iinc 3 1, 3), (67, .goto (-43), 3), (70, .iload_n 2, 1), (71, .ireturn, 1)]
set_option maxRecDepth 20000 in
theorem DX10_where : ∀ q ∈ kX10_where, decode mX10_where.2.1 q.1 = .ok (q.2.1, q.2.2) := by decide +kernel
def kX10_isBorn : List (Nat × Instr × Nat) := [(0, .iconst 0, 1), (1, .istore_n 2, 1), (2, .iload_n 2, 1), (3, .bipush 16, 2), (5, .if_icmp .ge 53, 3), (8, .aload_n 0, 1), (9, .getfield 31, 3), (12, .iload_n 2, 1), (13, .baload, 1), (14, .ifCond .ne 38, 3), (17, .aload_n 0, 1), (18, .iload_n 1, 1), (19, .iload_n 2, 1), (20, .invokevirtual 125, 3), (23, .ifCond .lt 29, 3), (26, .aload_n 0, 1), (27, .getfield 31, 3), (30, .iload_n 2, 1), (31, .iconst 1, 1), (32, .bastore, 1), (33, .aload_n 0, 1), (34, .getfield 9, 3), (37, .bipush 16, 2), (39, .iload_n 2, 1), (40, .iadd, 1), (41, .aload_n 0, 1), (42, .getfield 9, 3), (45, .bipush 16, 2), (47, .iload_n 1, 1), (48, .iadd, 1), (49, .iaload, 1), (50, .iastore, 1), (51, .return_, 1), (52, .iinc 2 1, 3), (55, .goto (-53), 3), (58, .return_, 1)]
set_option maxRecDepth 20000 in
theorem DX10_isBorn : ∀ q ∈ kX10_isBorn, decode mX10_isBorn.2.1 q.1 = .ok (q.2.1, q.2.2) := by decide +kernel
def kX10_feuds : List (Nat × Instr × Nat) := [(0, .iconst 0, 1), (1, .istore_n 2, 1), (2, .iload_n 2, 1), (3, .bipush 33, 2), (5, .if_icmp .ge 53, 3), (8, .aload_n 0, 1), (9, .getfield 22, 3), (12, .iload_n 2, 1), (13, .iaload, 1), (14, .iload_n 1, 1), (15, .if_icmp .eq 13, 3), (18, .aload_n 0, 1), (19, .getfield 25, 3), (22, .iload_n 2, 1), (23, .iaload, 1), (24, .iload_n 1, 1), (25, .if_icmp .ne 27, 3), (28, .aload_n 0, 1), (29, .getfield 9, 3), (32, .bipush 65, 2), (34, .iload_n 2, 1), (35, .iadd, 1), (36, .iaload, 1), (37, .iconst 1, 1), (38, .if_icmp .ne 14, 3), (41, .aload_n 0, 1), (42, .getfield 9, 3), (45, .bipush 65, 2), (47, .iload_n 2, 1), (48, .iadd, 1), (49, .iconst 0, 1), (50, .iastore, 1), (51, .return_, 1), (52, .iinc 2 1, 3), (55, .goto (-53), 3), (58, .return_, 1)]
set_option maxRecDepth 20000 in
theorem DX10_feuds : ∀ q ∈ kX10_feuds, decode mX10_feuds.2.1 q.1 = .ok (q.2.1, q.2.2) := by decide +kernel
def kX10_years : List (Nat × Instr × Nat) := [(0, .iload_n 2, 1), (1, .i2l, 1), (2, .lconst 1, 1), (3, .ldc2_w 171, 3), (6, .invokestatic 112, 3), (9, .ifCond .ne 5, 3), (12, .iconst (-1), 1), (13, .ireturn, 1), (14, .iload_n 1, 1), (15, .istore_n 3, 1), (16, .iconst 0, 1), (17, .istore 4, 2), (19, .iload 4, 2), (21, .iload_n 2, 1), (22, .if_icmp .ge 162, 3), (25, .iconst 0, 1), (26, .istore 5, 2), (28, .iload 5, 2), (30, .bipush 16, 2), (32, .if_icmp .ge 146, 3), (35, .aload_n 0, 1), (36, .getfield 31, 3), (39, .iload 5, 2), (41, .baload, 1), (42, .ifCond .ne 6, 3), (45, .goto 127, 3), (48, .iload_n 3, 1), (49, .ldc_w 308, 3), (52, .imul, 1), (53, .sipush 12345, 3), (56, .iadd, 1), (57, .istore_n 3, 1), (58, .iload_n 3, 1), (59, .bipush 8, 2), (61, .iushr, 1), (62, .bipush 12, 2), (64, .irem, 1), (65, .tableswitch 107 0 3 #[31, 40, 49, 79], 31), (96, .aload_n 0, 1), (97, .iload 5, 2), (99, .invokevirtual 309, 3), (102, .goto 70, 3), (105, .aload_n 0, 1), (106, .iload 5, 2), (108, .invokevirtual 312, 3), (111, .goto 61, 3), (114, .aload_n 0, 1), (115, .getfield 9, 3), (118, .iload 5, 2), (120, .dup2, 1), (121, .iaload, 1), (122, .aload_n 0, 1), (123, .getfield 9, 3), (126, .iload 5, 2), (128, .iaload, 1), (129, .bipush 9, 2), (131, .if_icmp .ge 7, 3), (134, .iconst 1, 1), (135, .goto 4, 3), (138, .iconst 0, 1), (139, .iadd, 1), (140, .iastore, 1), (141, .goto 31, 3), (144, .aload_n 0, 1), (145, .getfield 9, 3), (148, .iload 5, 2), (150, .dup2, 1), (151, .iaload, 1), (152, .aload_n 0, 1), (153, .getfield 9, 3), (156, .iload 5, 2), (158, .iaload, 1), (159, .ifCond .le 7, 3), (162, .iconst 1, 1), (163, .goto 4, 3), (166, .iconst 0, 1), (167, .isub, 1), (168, .iastore, 1), (169, .goto 3, 3), (172, .iinc 5 1, 3), (175, .goto (-147), 3), (178, .iinc 4 1, 3), (181, .goto (-162), 3), (184, .aload_n 0, 1), (185, .invokevirtual 270, 3), (188, .i2l, 1), (189, .invokestatic 277, 3), (192, .ireturn, 1)]
set_option maxRecDepth 20000 in
theorem DX10_years : ∀ q ∈ kX10_years, decode mX10_years.2.1 q.1 = .ok (q.2.1, q.2.2) := by decide +kernel
def kX10_allWarmth : List (Nat × Instr × Nat) := [(0, .iconst 0, 1), (1, .istore_n 1, 1), (2, .iconst 0, 1), (3, .istore_n 2, 1), (4, .iload_n 2, 1), (5, .bipush 16, 2), (7, .if_icmp .ge 18, 3), (10, .iload_n 1, 1), (11, .aload_n 0, 1), (12, .getfield 28, 3), (15, .iload_n 2, 1), (16, .iaload, 1), (17, .iadd, 1), (18, .istore_n 1, 1), (19, .iinc 2 1, 3), (22, .goto (-18), 3), (25, .iload_n 1, 1), (26, .ireturn, 1)]
set_option maxRecDepth 20000 in
theorem DX10_allWarmth : ∀ q ∈ kX10_allWarmth, decode mX10_allWarmth.2.1 q.1 = .ok (q.2.1, q.2.2) := by decide +kernel
def kX10_image : List (Nat × Instr × Nat) := [(0, .aload_n 0, 1), (1, .iconst 1, 1), (2, .putfield 315, 3), (5, .iconst 0, 1), (6, .istore_n 1, 1), (7, .iload_n 1, 1), (8, .bipush 16, 2), (10, .if_icmp .ge 33, 3), (13, .aload_n 0, 1), (14, .getfield 68, 3), (17, .iload_n 1, 1), (18, .aload_n 0, 1), (19, .getfield 28, 3), (22, .iload_n 1, 1), (23, .iaload, 1), (24, .iastore, 1), (25, .aload_n 0, 1), (26, .getfield 71, 3), (29, .iload_n 1, 1), (30, .aload_n 0, 1), (31, .getfield 31, 3), (34, .iload_n 1, 1), (35, .baload, 1), (36, .bastore, 1), (37, .iinc 1 1, 3), (40, .goto (-33), 3), (43, .aload_n 0, 1), (44, .invokevirtual 319, 3), (47, .ireturn, 1)]
set_option maxRecDepth 20000 in
theorem DX10_image : ∀ q ∈ kX10_image, decode mX10_image.2.1 q.1 = .ok (q.2.1, q.2.2) := by decide +kernel
def kX10_back : List (Nat × Instr × Nat) := [(0, .aload_n 0, 1), (1, .getfield 315, 3), (4, .ifCond .ne 6, 3), (7, .bipush (-5), 2), (9, .ireturn, 1), (10, .iconst 0, 1), (11, .istore_n 1, 1), (12, .iload_n 1, 1), (13, .bipush 16, 2), (15, .if_icmp .ge 33, 3), (18, .aload_n 0, 1), (19, .getfield 28, 3), (22, .iload_n 1, 1), (23, .aload_n 0, 1), (24, .getfield 68, 3), (27, .iload_n 1, 1), (28, .iaload, 1), (29, .iastore, 1), (30, .aload_n 0, 1), (31, .getfield 31, 3), (34, .iload_n 1, 1), (35, .aload_n 0, 1), (36, .getfield 71, 3), (39, .iload_n 1, 1), (40, .baload, 1), (41, .bastore, 1), (42, .iinc 1 1, 3), (45, .goto (-33), 3), (48, .aload_n 0, 1), (49, .invokevirtual 319, 3), (52, .ireturn, 1)]
set_option maxRecDepth 20000 in
theorem DX10_back : ∀ q ∈ kX10_back, decode mX10_back.2.1 q.1 = .ok (q.2.1, q.2.2) := by decide +kernel
def kX10_doorMany : List (Nat × Instr × Nat) := [(0, .iconst 0, 1), (1, .istore_n 1, 1), (2, .iconst 0, 1), (3, .istore_n 2, 1), (4, .iload_n 2, 1), (5, .bipush 33, 2), (7, .if_icmp .ge 21, 3), (10, .iload_n 1, 1), (11, .aload_n 0, 1), (12, .getfield 9, 3), (15, .bipush 65, 2), (17, .iload_n 2, 1), (18, .iadd, 1), (19, .iaload, 1), (20, .iadd, 1), (21, .istore_n 1, 1), (22, .iinc 2 1, 3), (25, .goto (-21), 3), (28, .iload_n 1, 1), (29, .ireturn, 1)]
set_option maxRecDepth 20000 in
theorem DX10_doorMany : ∀ q ∈ kX10_doorMany, decode mX10_doorMany.2.1 q.1 = .ok (q.2.1, q.2.2) := by decide +kernel
def kX10_isBody : List (Nat × Instr × Nat) := [(0, .iload_n 1, 1), (1, .i2l, 1), (2, .lconst 0, 1), (3, .aload_n 0, 1), (4, .getfield 322, 3), (7, .iconst 1, 1), (8, .isub, 1), (9, .i2l, 1), (10, .invokestatic 112, 3), (13, .ireturn, 1)]
set_option maxRecDepth 20000 in
theorem DX10_isBody : ∀ q ∈ kX10_isBody, decode mX10_isBody.2.1 q.1 = .ok (q.2.1, q.2.2) := by decide +kernel
def kX10_kindOf : List (Nat × Instr × Nat) := [(0, .aload_n 0, 1), (1, .getfield 74, 3), (4, .iload_n 1, 1), (5, .iaload, 1), (6, .ireturn, 1)]
set_option maxRecDepth 20000 in
theorem DX10_kindOf : ∀ q ∈ kX10_kindOf, decode mX10_kindOf.2.1 q.1 = .ok (q.2.1, q.2.2) := by decide +kernel
def kX10_body : List (Nat × Instr × Nat) := [(0, .iload_n 1, 1), (1, .i2l, 1), (2, .lconst 0, 1), (3, .ldc2_w 325, 3), (6, .invokestatic 112, 3), (9, .ifCond .ne 5, 3), (12, .iconst (-1), 1), (13, .ireturn, 1), (14, .aload_n 0, 1), (15, .getfield 322, 3), (18, .bipush 50, 2), (20, .if_icmp .ne 6, 3), (23, .bipush (-3), 2), (25, .ireturn, 1), (26, .aload_n 0, 1), (27, .getfield 74, 3), (30, .aload_n 0, 1), (31, .getfield 322, 3), (34, .iload_n 1, 1), (35, .iastore, 1), (36, .aload_n 0, 1), (37, .dup, 1), (38, .getfield 322, 3), (41, .iconst 1, 1), (42, .iadd, 1), (43, .putfield 322, 3), (46, .aload_n 0, 1), (47, .getfield 322, 3), (50, .iconst 1, 1), (51, .isub, 1), (52, .ireturn, 1)]
set_option maxRecDepth 20000 in
theorem DX10_body : ∀ q ∈ kX10_body, decode mX10_body.2.1 q.1 = .ok (q.2.1, q.2.2) := by decide +kernel
def kX10_above : List (Nat × Instr × Nat) := [(0, .iload_n 0, 1), (1, .iconst 3, 1), (2, .if_icmp .ne 7, 3), (5, .iconst 2, 1), (6, .goto 32, 3), (9, .iload_n 0, 1), (10, .iconst 4, 1), (11, .if_icmp .ne 7, 3), (14, .iconst 1, 1), (15, .goto 23, 3), (18, .iload_n 0, 1), (19, .iconst 5, 1), (20, .if_icmp .ne 7, 3), (23, .iconst 3, 1), (24, .goto 14, 3), (27, .iload_n 0, 1), (28, .bipush 7, 2), (30, .if_icmp .ne 7, 3), (33, .iconst 4, 1), (34, .goto 4, 3), (37, .iconst 0, 1), (38, .ireturn, 1)]
set_option maxRecDepth 20000 in
theorem DX10_above : ∀ q ∈ kX10_above, decode mX10_above.2.1 q.1 = .ok (q.2.1, q.2.2) := by decide +kernel
def kX10_begins : List (Nat × Instr × Nat) := [(0, .aload_n 0, 1), (1, .getfield 327, 3), (4, .bipush 24, 2), (6, .if_icmp .ge 13, 3), (9, .aload_n 0, 1), (10, .getfield 77, 3), (13, .aload_n 0, 1), (14, .getfield 327, 3), (17, .iload_n 1, 1), (18, .iastore, 1), (19, .aload_n 0, 1), (20, .dup, 1), (21, .getfield 327, 3), (24, .iconst 1, 1), (25, .iadd, 1), (26, .putfield 327, 3), (29, .return_, 1)]
set_option maxRecDepth 20000 in
theorem DX10_begins : ∀ q ∈ kX10_begins, decode mX10_begins.2.1 q.1 = .ok (q.2.1, q.2.2) := by decide +kernel
def kX10_warmsAs : List (Nat × Instr × Nat) := [(0, .iload_n 1, 1), (1, .iconst 1, 1), (2, .if_icmp .eq 14, 3), (5, .iload_n 1, 1), (6, .iconst 4, 1), (7, .if_icmp .eq 9, 3), (10, .iload_n 1, 1), (11, .bipush 7, 2), (13, .if_icmp .ne 18, 3), (16, .aload_n 0, 1), (17, .bipush 20, 2), (19, .invokevirtual 330, 3), (22, .aload_n 0, 1), (23, .iconst 0, 1), (24, .iload_n 2, 1), (25, .invokevirtual 333, 3), (28, .iconst 3, 1), (29, .iadd, 1), (30, .ireturn, 1), (31, .iload_n 1, 1), (32, .bipush 6, 2), (34, .if_icmp .ne 18, 3), (37, .aload_n 0, 1), (38, .bipush 70, 2), (40, .invokevirtual 330, 3), (43, .aload_n 0, 1), (44, .iconst 0, 1), (45, .iload_n 2, 1), (46, .invokevirtual 333, 3), (49, .iconst 2, 1), (50, .imul, 1), (51, .ireturn, 1), (52, .aload_n 0, 1), (53, .iconst 1, 1), (54, .invokevirtual 330, 3), (57, .iload_n 2, 1), (58, .aload_n 0, 1), (59, .getfield 336, 3), (62, .iadd, 1), (63, .ireturn, 1)]
set_option maxRecDepth 20000 in
theorem DX10_warmsAs : ∀ q ∈ kX10_warmsAs, decode mX10_warmsAs.2.1 q.1 = .ok (q.2.1, q.2.2) := by decide +kernel
def kX10_wallsAs : List (Nat × Instr × Nat) := [(0, .iload_n 1, 1), (1, .iconst 3, 1), (2, .if_icmp .eq 8, 3), (5, .iload_n 1, 1), (6, .iconst 5, 1), (7, .if_icmp .ne 18, 3), (10, .aload_n 0, 1), (11, .bipush 41, 2), (13, .invokevirtual 330, 3), (16, .aload_n 0, 1), (17, .iconst 2, 1), (18, .iload_n 2, 1), (19, .iconst 1, 1), (20, .iadd, 1), (21, .invokevirtual 339, 3), (24, .ireturn, 1), (25, .iload_n 1, 1), (26, .iconst 2, 1), (27, .if_icmp .ne 17, 3), (30, .aload_n 0, 1), (31, .bipush 30, 2), (33, .invokevirtual 330, 3), (36, .aload_n 0, 1), (37, .iconst 0, 1), (38, .iload_n 2, 1), (39, .invokevirtual 339, 3), (42, .ineg, 1), (43, .ireturn, 1), (44, .iload_n 1, 1), (45, .bipush 7, 2), (47, .if_icmp .ne 28, 3), (50, .aload_n 0, 1), (51, .bipush 80, 2), (53, .invokevirtual 330, 3), (56, .aload_n 0, 1), (57, .iconst 4, 1), (58, .iload_n 2, 1), (59, .invokevirtual 339, 3), (62, .istore_n 3, 1), (63, .iload_n 3, 1), (64, .aload_n 0, 1), (65, .aload_n 0, 1), (66, .getfield 342, 3), (69, .iconst 2, 1), (70, .invokevirtual 345, 3), (73, .iadd, 1), (74, .ireturn, 1), (75, .aload_n 0, 1), (76, .bipush 10, 2), (78, .invokevirtual 330, 3), (81, .aload_n 0, 1), (82, .aload_n 0, 1), (83, .getfield 342, 3), (86, .iload_n 2, 1), (87, .invokevirtual 333, 3), (90, .iconst 2, 1), (91, .imul, 1), (92, .ireturn, 1)]
set_option maxRecDepth 20000 in
theorem DX10_wallsAs : ∀ q ∈ kX10_wallsAs, decode mX10_wallsAs.2.1 q.1 = .ok (q.2.1, q.2.2) := by decide +kernel
def kX10_pipesAs : List (Nat × Instr × Nat) := [(0, .iload_n 1, 1), (1, .iconst 3, 1), (2, .if_icmp .eq 8, 3), (5, .iload_n 1, 1), (6, .iconst 5, 1), (7, .if_icmp .ne 18, 3), (10, .aload_n 0, 1), (11, .bipush 40, 2), (13, .invokevirtual 330, 3), (16, .aload_n 0, 1), (17, .iconst 2, 1), (18, .iload_n 2, 1), (19, .invokevirtual 345, 3), (22, .iconst 3, 1), (23, .imul, 1), (24, .ireturn, 1), (25, .iload_n 1, 1), (26, .iconst 4, 1), (27, .if_icmp .eq 9, 3), (30, .iload_n 1, 1), (31, .bipush 7, 2), (33, .if_icmp .ne 28, 3), (36, .aload_n 0, 1), (37, .bipush 50, 2), (39, .invokevirtual 330, 3), (42, .aload_n 0, 1), (43, .iconst 1, 1), (44, .iload_n 2, 1), (45, .invokevirtual 345, 3), (48, .istore_n 3, 1), (49, .iload_n 3, 1), (50, .aload_n 0, 1), (51, .aload_n 0, 1), (52, .getfield 342, 3), (55, .iconst 2, 1), (56, .invokevirtual 333, 3), (59, .isub, 1), (60, .ireturn, 1), (61, .aload_n 0, 1), (62, .bipush 11, 2), (64, .invokevirtual 330, 3), (67, .iload_n 2, 1), (68, .aload_n 0, 1), (69, .getfield 336, 3), (72, .ixor, 1), (73, .ireturn, 1)]
set_option maxRecDepth 20000 in
theorem DX10_pipesAs : ∀ q ∈ kX10_pipesAs, decode mX10_pipesAs.2.1 q.1 = .ok (q.2.1, q.2.2) := by decide +kernel
def kX10_tellsAs : List (Nat × Instr × Nat) := [(0, .iload_n 1, 1), (1, .iconst 5, 1), (2, .if_icmp .ne 18, 3), (5, .aload_n 0, 1), (6, .bipush 60, 2), (8, .invokevirtual 330, 3), (11, .aload_n 0, 1), (12, .iconst 3, 1), (13, .iload_n 2, 1), (14, .invokevirtual 348, 3), (17, .iconst 5, 1), (18, .ixor, 1), (19, .ireturn, 1), (20, .iload_n 1, 1), (21, .bipush 7, 2), (23, .if_icmp .ne 18, 3), (26, .aload_n 0, 1), (27, .bipush 81, 2), (29, .invokevirtual 330, 3), (32, .aload_n 0, 1), (33, .iconst 4, 1), (34, .iload_n 2, 1), (35, .invokevirtual 348, 3), (38, .iconst 1, 1), (39, .isub, 1), (40, .ireturn, 1), (41, .aload_n 0, 1), (42, .iconst 2, 1), (43, .invokevirtual 330, 3), (46, .aload_n 0, 1), (47, .aload_n 0, 1), (48, .getfield 342, 3), (51, .iload_n 2, 1), (52, .invokevirtual 339, 3), (55, .istore_n 3, 1), (56, .iload_n 3, 1), (57, .aload_n 0, 1), (58, .aload_n 0, 1), (59, .getfield 342, 3), (62, .iconst 1, 1), (63, .invokevirtual 345, 3), (66, .isub, 1), (67, .ireturn, 1)]
set_option maxRecDepth 20000 in
theorem DX10_tellsAs : ∀ q ∈ kX10_tellsAs, decode mX10_tellsAs.2.1 q.1 = .ok (q.2.1, q.2.2) := by decide +kernel
def kX10_act : List (Nat × Instr × Nat) := [(0, .aload_n 0, 1), (1, .iconst 0, 1), (2, .putfield 327, 3), (5, .aload_n 0, 1), (6, .iload_n 1, 1), (7, .invokevirtual 351, 3), (10, .ifCond .ne 5, 3), (13, .iconst 0, 1), (14, .ireturn, 1), (15, .aload_n 0, 1), (16, .aload_n 0, 1), (17, .getfield 74, 3), (20, .iload_n 1, 1), (21, .iaload, 1), (22, .putfield 342, 3), (25, .aload_n 0, 1), (26, .iload_n 1, 1), (27, .putfield 336, 3), (30, .iload_n 2, 1), (31, .tableswitch 69 0 3 #[29, 39, 49, 59], 29), (60, .aload_n 0, 1), (61, .aload_n 0, 1), (62, .getfield 342, 3), (65, .iload_n 3, 1), (66, .invokevirtual 333, 3), (69, .ireturn, 1), (70, .aload_n 0, 1), (71, .aload_n 0, 1), (72, .getfield 342, 3), (75, .iload_n 3, 1), (76, .invokevirtual 339, 3), (79, .ireturn, 1), (80, .aload_n 0, 1), (81, .aload_n 0, 1), (82, .getfield 342, 3), (85, .iload_n 3, 1), (86, .invokevirtual 345, 3), (89, .ireturn, 1), (90, .aload_n 0, 1), (91, .aload_n 0, 1), (92, .getfield 342, 3), (95, .iload_n 3, 1), (96, .invokevirtual 348, 3), (99, .ireturn, 1), (100, .iconst 0, 1), (101, .ireturn, 1)]
set_option maxRecDepth 20000 in
theorem DX10_act : ∀ q ∈ kX10_act, decode mX10_act.2.1 q.1 = .ok (q.2.1, q.2.2) := by decide +kernel
def kX10_trace : List (Nat × Instr × Nat) := [(0, .iload_n 1, 1), (1, .ifCond .lt 26, 3), (4, .iload_n 1, 1), (5, .aload_n 0, 1), (6, .getfield 327, 3), (9, .if_icmp .ge 18, 3), (12, .iload_n 1, 1), (13, .bipush 24, 2), (15, .if_icmp .ge 12, 3), (18, .aload_n 0, 1), (19, .getfield 77, 3), (22, .iload_n 1, 1), (23, .iaload, 1), (24, .goto 4, 3), (27, .iconst (-1), 1), (28, .ireturn, 1)]
set_option maxRecDepth 20000 in
theorem DX10_trace : ∀ q ∈ kX10_trace, decode mX10_trace.2.1 q.1 = .ok (q.2.1, q.2.2) := by decide +kernel
def kX10_isShelf : List (Nat × Instr × Nat) := [(0, .iload_n 0, 1), (1, .i2l, 1), (2, .lconst 0, 1), (3, .ldc2_w 137, 3), (6, .invokestatic 112, 3), (9, .ireturn, 1)]
set_option maxRecDepth 20000 in
theorem DX10_isShelf : ∀ q ∈ kX10_isShelf, decode mX10_isShelf.2.1 q.1 = .ok (q.2.1, q.2.2) := by decide +kernel
def kX10_keep : List (Nat × Instr × Nat) := [(0, .iload_n 1, 1), (1, .invokestatic 175, 3), (4, .ifCond .eq 16, 3), (7, .iload_n 2, 1), (8, .iconst (-1), 1), (9, .if_icmp .eq 13, 3), (12, .aload_n 0, 1), (13, .iload_n 2, 1), (14, .invokevirtual 351, 3), (17, .ifCond .ne 5, 3), (20, .iconst (-1), 1), (21, .ireturn, 1), (22, .aload_n 0, 1), (23, .getfield 80, 3), (26, .iload_n 1, 1), (27, .iload_n 2, 1), (28, .iastore, 1), (29, .aload_n 0, 1), (30, .getfield 83, 3), (33, .iload_n 1, 1), (34, .iconst 0, 1), (35, .iastore, 1), (36, .iconst 1, 1), (37, .ireturn, 1)]
set_option maxRecDepth 20000 in
theorem DX10_keep : ∀ q ∈ kX10_keep, decode mX10_keep.2.1 q.1 = .ok (q.2.1, q.2.2) := by decide +kernel
def kX10_row : List (Nat × Instr × Nat) := [(0, .iload_n 1, 1), (1, .invokestatic 175, 3), (4, .ifCond .eq 21, 3), (7, .iload_n 2, 1), (8, .i2l, 1), (9, .lconst 0, 1), (10, .ldc2_w 354, 3), (13, .invokestatic 112, 3), (16, .ifCond .eq 9, 3), (19, .iload_n 3, 1), (20, .bipush 60, 2), (22, .if_icmp .le 5, 3), (25, .iconst (-1), 1), (26, .ireturn, 1), (27, .iload_n 3, 1), (28, .ifCond .ge 6, 3), (31, .bipush (-14), 2), (33, .ireturn, 1), (34, .aload_n 0, 1), (35, .getfield 80, 3), (38, .iload_n 1, 1), (39, .bipush 50, 2), (41, .iload_n 2, 1), (42, .iadd, 1), (43, .iastore, 1), (44, .aload_n 0, 1), (45, .getfield 83, 3), (48, .iload_n 1, 1), (49, .iload_n 3, 1), (50, .iastore, 1), (51, .bipush 60, 2), (53, .iload_n 1, 1), (54, .imul, 1), (55, .istore 4, 2), (57, .iload 4, 2), (59, .bipush 60, 2), (61, .iload_n 1, 1), (62, .imul, 1), (63, .bipush 60, 2), (65, .iadd, 1), (66, .if_icmp .ge 17, 3), (69, .aload_n 0, 1), (70, .getfield 86, 3), (73, .iload 4, 2), (75, .lconst 0, 1), (76, .lastore, 1), (77, .iinc 4 1, 3), (80, .goto (-23), 3), (83, .iconst 1, 1), (84, .ireturn, 1)]
set_option maxRecDepth 20000 in
theorem DX10_row : ∀ q ∈ kX10_row, decode mX10_row.2.1 q.1 = .ok (q.2.1, q.2.2) := by decide +kernel
def kX10_refusal : List (Nat × Instr × Nat) := [(0, .iload_n 1, 1), (1, .invokestatic 175, 3), (4, .ifCond .ne 5, 3), (7, .iconst (-1), 1), (8, .ireturn, 1), (9, .aload_n 0, 1), (10, .getfield 80, 3), (13, .iload_n 1, 1), (14, .iaload, 1), (15, .ifCond .ge 6, 3), (18, .bipush (-11), 2), (20, .ireturn, 1), (21, .aload_n 0, 1), (22, .getfield 80, 3), (25, .iload_n 1, 1), (26, .iaload, 1), (27, .bipush 50, 2), (29, .if_icmp .ge 6, 3), (32, .bipush (-12), 2), (34, .ireturn, 1), (35, .iload_n 2, 1), (36, .ifCond .lt 17, 3), (39, .iload_n 2, 1), (40, .aload_n 0, 1), (41, .getfield 83, 3), (44, .iload_n 1, 1), (45, .iaload, 1), (46, .if_icmp .ge 7, 3), (49, .iconst 0, 1), (50, .goto 5, 3), (53, .bipush (-13), 2), (55, .ireturn, 1)]
set_option maxRecDepth 20000 in
theorem DX10_refusal : ∀ q ∈ kX10_refusal, decode mX10_refusal.2.1 q.1 = .ok (q.2.1, q.2.2) := by decide +kernel
def kX10_asSort : List (Nat × Instr × Nat) := [(0, .iload_n 0, 1), (1, .ifCond .ne 10, 3), (4, .lload_n 1, 1), (5, .l2i, 1), (6, .i2b, 1), (7, .i2l, 1), (8, .goto 46, 3), (11, .iload_n 0, 1), (12, .iconst 1, 1), (13, .if_icmp .ne 10, 3), (16, .lload_n 1, 1), (17, .l2i, 1), (18, .i2s, 1), (19, .i2l, 1), (20, .goto 34, 3), (23, .iload_n 0, 1), (24, .iconst 2, 1), (25, .if_icmp .ne 9, 3), (28, .lload_n 1, 1), (29, .l2i, 1), (30, .i2l, 1), (31, .goto 23, 3), (34, .iload_n 0, 1), (35, .iconst 4, 1), (36, .if_icmp .ne 17, 3), (39, .lload_n 1, 1), (40, .lconst 0, 1), (41, .lcmp, 1), (42, .ifCond .eq 7, 3), (45, .lconst 1, 1), (46, .goto 8, 3), (49, .lconst 0, 1), (50, .goto 4, 3), (53, .lload_n 1, 1), (54, .lreturn, 1)]
set_option maxRecDepth 20000 in
theorem DX10_asSort : ∀ q ∈ kX10_asSort, decode mX10_asSort.2.1 q.1 = .ok (q.2.1, q.2.2) := by decide +kernel
def kX10_put : List (Nat × Instr × Nat) := [(0, .aload_n 0, 1), (1, .iload_n 1, 1), (2, .iload_n 2, 1), (3, .invokevirtual 356, 3), (6, .istore 5, 2), (8, .iload 5, 2), (10, .ifCond .ne 27, 3), (13, .aload_n 0, 1), (14, .getfield 86, 3), (17, .bipush 60, 2), (19, .iload_n 1, 1), (20, .imul, 1), (21, .iload_n 2, 1), (22, .iadd, 1), (23, .aload_n 0, 1), (24, .getfield 80, 3), (27, .iload_n 1, 1), (28, .iaload, 1), (29, .bipush 50, 2), (31, .isub, 1), (32, .lload_n 3, 1), (33, .invokestatic 359, 3), (36, .lastore, 1), (37, .iload 5, 2), (39, .ifCond .ne 7, 3), (42, .iconst 1, 1), (43, .goto 5, 3), (46, .iload 5, 2), (48, .ireturn, 1)]
set_option maxRecDepth 20000 in
theorem DX10_put : ∀ q ∈ kX10_put, decode mX10_put.2.1 q.1 = .ok (q.2.1, q.2.2) := by decide +kernel
def kX10_element : List (Nat × Instr × Nat) := [(0, .aload_n 0, 1), (1, .iload_n 1, 1), (2, .iload_n 2, 1), (3, .invokevirtual 356, 3), (6, .ifCond .eq 9, 3), (9, .ldc2_w 290, 3), (12, .goto 14, 3), (15, .aload_n 0, 1), (16, .getfield 86, 3), (19, .bipush 60, 2), (21, .iload_n 1, 1), (22, .imul, 1), (23, .iload_n 2, 1), (24, .iadd, 1), (25, .laload, 1), (26, .lreturn, 1)]
set_option maxRecDepth 20000 in
theorem DX10_element : ∀ q ∈ kX10_element, decode mX10_element.2.1 q.1 = .ok (q.2.1, q.2.2) := by decide +kernel
def kX10_shift : List (Nat × Instr × Nat) := [(0, .iload_n 1, 1), (1, .invokestatic 175, 3), (4, .ifCond .eq 10, 3), (7, .iload_n 3, 1), (8, .invokestatic 175, 3), (11, .ifCond .ne 5, 3), (14, .iconst (-1), 1), (15, .ireturn, 1), (16, .aload_n 0, 1), (17, .getfield 80, 3), (20, .iload_n 1, 1), (21, .iaload, 1), (22, .ifCond .lt 12, 3), (25, .aload_n 0, 1), (26, .getfield 80, 3), (29, .iload_n 3, 1), (30, .iaload, 1), (31, .ifCond .ge 6, 3), (34, .bipush (-11), 2), (36, .ireturn, 1), (37, .aload_n 0, 1), (38, .getfield 80, 3), (41, .iload_n 1, 1), (42, .iaload, 1), (43, .bipush 50, 2), (45, .if_icmp .lt 18, 3), (48, .aload_n 0, 1), (49, .getfield 80, 3), (52, .iload_n 1, 1), (53, .iaload, 1), (54, .aload_n 0, 1), (55, .getfield 80, 3), (58, .iload_n 3, 1), (59, .iaload, 1), (60, .if_icmp .eq 6, 3), (63, .bipush (-12), 2), (65, .ireturn, 1), (66, .iload 5, 2), (68, .ifCond .lt 39, 3), (71, .iload_n 2, 1), (72, .ifCond .lt 35, 3), (75, .iload 4, 2), (77, .ifCond .lt 30, 3), (80, .iload_n 2, 1), (81, .aload_n 0, 1), (82, .getfield 83, 3), (85, .iload_n 1, 1), (86, .iaload, 1), (87, .iload 5, 2), (89, .isub, 1), (90, .if_icmp .gt 17, 3), (93, .iload 4, 2), (95, .aload_n 0, 1), (96, .getfield 83, 3), (99, .iload_n 3, 1), (100, .iaload, 1), (101, .iload 5, 2), (103, .isub, 1), (104, .if_icmp .le 6, 3), (107, .bipush (-13), 2), (109, .ireturn, 1), (110, .iconst 0, 1), (111, .istore 6, 2), (113, .iload 6, 2), (115, .iload 5, 2), (117, .if_icmp .ge 30, 3), (120, .aload_n 0, 1), (121, .getfield 90, 3), (124, .iload 6, 2), (126, .aload_n 0, 1), (127, .getfield 86, 3), (130, .bipush 60, 2), (132, .iload_n 1, 1), (133, .imul, 1), (134, .iload_n 2, 1), (135, .iadd, 1), (136, .iload 6, 2), (138, .iadd, 1), (139, .laload, 1), (140, .lastore, 1), (141, .iinc 6 1, 3), (144, .goto (-31), 3), (147, .iconst 0, 1), (148, .istore 6, 2), (150, .iload 6, 2), (152, .iload 5, 2), (154, .if_icmp .ge 31, 3), (157, .aload_n 0, 1), (158, .getfield 86, 3), (161, .bipush 60, 2), (163, .iload_n 3, 1), (164, .imul, 1), (165, .iload 4, 2), (167, .iadd, 1), (168, .iload 6, 2), (170, .iadd, 1), (171, .aload_n 0, 1), (172, .getfield 90, 3), (175, .iload 6, 2), (177, .laload, 1), (178, .lastore, 1), (179, .iinc 6 1, 3), (182, .goto (-32), 3), (185, .iload 5, 2), (187, .ireturn, 1)]
set_option maxRecDepth 20000 in
theorem DX10_shift : ∀ q ∈ kX10_shift, decode mX10_shift.2.1 q.1 = .ok (q.2.1, q.2.2) := by decide +kernel
def kX10_taken : List (Nat × Instr × Nat) := [(0, .iload_n 1, 1), (1, .invokestatic 175, 3), (4, .ifCond .eq 15, 3), (7, .iload_n 2, 1), (8, .i2l, 1), (9, .lconst 0, 1), (10, .ldc2_w 325, 3), (13, .invokestatic 112, 3), (16, .ifCond .ne 5, 3), (19, .iconst (-1), 1), (20, .ireturn, 1), (21, .aload_n 0, 1), (22, .getfield 80, 3), (25, .iload_n 1, 1), (26, .iaload, 1), (27, .ifCond .ge 6, 3), (30, .bipush (-11), 2), (32, .ireturn, 1), (33, .aload_n 0, 1), (34, .getfield 80, 3), (37, .iload_n 1, 1), (38, .iaload, 1), (39, .bipush 50, 2), (41, .if_icmp .lt 6, 3), (44, .bipush (-12), 2), (46, .ireturn, 1), (47, .aload_n 0, 1), (48, .aload_n 0, 1), (49, .getfield 80, 3), (52, .iload_n 1, 1), (53, .iaload, 1), (54, .invokevirtual 363, 3), (57, .istore_n 3, 1), (58, .iload_n 3, 1), (59, .iload_n 2, 1), (60, .if_icmp .eq 15, 3), (63, .iload_n 3, 1), (64, .ifCond .le 11, 3), (67, .iload_n 3, 1), (68, .invokestatic 366, 3), (71, .istore_n 3, 1), (72, .goto (-14), 3), (75, .iload_n 3, 1), (76, .iload_n 2, 1), (77, .if_icmp .ne 16, 3), (80, .aload_n 0, 1), (81, .aload_n 0, 1), (82, .getfield 80, 3), (85, .iload_n 1, 1), (86, .iaload, 1), (87, .invokevirtual 363, 3), (90, .goto 5, 3), (93, .bipush (-12), 2), (95, .ireturn, 1)]
set_option maxRecDepth 20000 in
theorem DX10_taken : ∀ q ∈ kX10_taken, decode mX10_taken.2.1 q.1 = .ok (q.2.1, q.2.2) := by decide +kernel
def kX10_count : List (Nat × Instr × Nat) := [(0, .iload_n 1, 1), (1, .tableswitch 82 0 6 #[43, 52, 57, 62, 67, 72, 77], 43), (44, .aload_n 0, 1), (45, .invokevirtual 270, 3), (48, .i2l, 1), (49, .invokestatic 277, 3), (52, .ireturn, 1), (53, .aload_n 0, 1), (54, .invokevirtual 369, 3), (57, .ireturn, 1), (58, .aload_n 0, 1), (59, .getfield 253, 3), (62, .ireturn, 1), (63, .aload_n 0, 1), (64, .getfield 182, 3), (67, .ireturn, 1), (68, .aload_n 0, 1), (69, .getfield 104, 3), (72, .ireturn, 1), (73, .aload_n 0, 1), (74, .getfield 322, 3), (77, .ireturn, 1), (78, .aload_n 0, 1), (79, .getfield 327, 3), (82, .ireturn, 1), (83, .iconst (-1), 1), (84, .ireturn, 1)]
set_option maxRecDepth 20000 in
theorem DX10_count : ∀ q ∈ kX10_count, decode mX10_count.2.1 q.1 = .ok (q.2.1, q.2.2) := by decide +kernel
end
section
/-! the instructions of each method, by program -/
def kL_law_0 : List (Nat × Instr × Nat) := [(0, .new 7, 3), (3, .dup, 1), (4, .invokespecial 9, 3), (7, .astore_n 1, 1), (8, .new 10, 3), (11, .dup, 1), (12, .invokespecial 12, 3), (15, .astore_n 2, 1), (16, .iconst 0, 1), (17, .istore_n 3, 1), (18, .iload_n 3, 1), (19, .aload_n 0, 1), (20, .arraylength, 1), (21, .bipush 6, 2), (23, .isub, 1), (24, .if_icmp .gt 1315, 3), (27, .aload_n 0, 1), (28, .iload_n 3, 1), (29, .iaload, 1), (30, .bipush 63, 2), (32, .iand, 1), (33, .tableswitch 1300 0 38 #[171, 194, 237, 270, 313, 336, 349, 382, 415, 428, 461, 494, 517, 540, 563, 586, 609, 633, 666, 699, 722, 745, 768, 801, 824, 857, 870, 883, 896, 909, 932, 975, 998, 1031, 1074, 1147, 1181, 1244, 1277], 171), (204, .aload_n 1, 1), (205, .aload_n 0, 1), (206, .iload_n 3, 1), (207, .iconst 1, 1), (208, .iadd, 1), (209, .iaload, 1), (210, .invokevirtual 13, 3), (213, .aload_n 2, 1), (214, .aload_n 0, 1), (215, .iload_n 3, 1), (216, .iconst 1, 1), (217, .iadd, 1), (218, .iaload, 1), (219, .invokevirtual 17, 3), (222, .if_icmp .eq 1111, 3), (225, .iconst 0, 1), (226, .ireturn, 1), (227, .aload_n 1, 1)]
theorem DL_law_0 : ∀ q ∈ kL_law_0, decode code q.1 = .ok (q.2.1, q.2.2) := by decide +kernel
def kL_law_1 : List (Nat × Instr × Nat) := [(228, .aload_n 0, 1), (229, .iload_n 3, 1), (230, .iconst 1, 1), (231, .iadd, 1), (232, .iaload, 1), (233, .aload_n 0, 1), (234, .iload_n 3, 1), (235, .iconst 2, 1), (236, .iadd, 1), (237, .iaload, 1), (238, .aload_n 0, 1), (239, .iload_n 3, 1), (240, .iconst 3, 1), (241, .iadd, 1), (242, .iaload, 1), (243, .invokevirtual 18, 3), (246, .aload_n 2, 1), (247, .aload_n 0, 1), (248, .iload_n 3, 1), (249, .iconst 1, 1), (250, .iadd, 1), (251, .iaload, 1), (252, .aload_n 0, 1), (253, .iload_n 3, 1), (254, .iconst 2, 1), (255, .iadd, 1), (256, .iaload, 1), (257, .aload_n 0, 1), (258, .iload_n 3, 1), (259, .iconst 3, 1), (260, .iadd, 1), (261, .iaload, 1), (262, .invokevirtual 22, 3), (265, .if_icmp .eq 1068, 3), (268, .iconst 0, 1), (269, .ireturn, 1), (270, .aload_n 1, 1), (271, .aload_n 0, 1), (272, .iload_n 3, 1), (273, .iconst 1, 1)]
theorem DL_law_1 : ∀ q ∈ kL_law_1, decode code q.1 = .ok (q.2.1, q.2.2) := by decide +kernel
def kL_law_2 : List (Nat × Instr × Nat) := [(274, .iadd, 1), (275, .iaload, 1), (276, .aload_n 0, 1), (277, .iload_n 3, 1), (278, .iconst 2, 1), (279, .iadd, 1), (280, .iaload, 1), (281, .invokevirtual 23, 3), (284, .aload_n 2, 1), (285, .aload_n 0, 1), (286, .iload_n 3, 1), (287, .iconst 1, 1), (288, .iadd, 1), (289, .iaload, 1), (290, .aload_n 0, 1), (291, .iload_n 3, 1), (292, .iconst 2, 1), (293, .iadd, 1), (294, .iaload, 1), (295, .invokevirtual 27, 3), (298, .if_icmp .eq 1035, 3), (301, .iconst 0, 1), (302, .ireturn, 1), (303, .aload_n 1, 1), (304, .aload_n 0, 1), (305, .iload_n 3, 1), (306, .iconst 1, 1), (307, .iadd, 1), (308, .iaload, 1), (309, .aload_n 0, 1), (310, .iload_n 3, 1), (311, .iconst 2, 1), (312, .iadd, 1), (313, .iaload, 1), (314, .aload_n 0, 1), (315, .iload_n 3, 1), (316, .iconst 3, 1), (317, .iadd, 1), (318, .iaload, 1), (319, .invokevirtual 28, 3)]
theorem DL_law_2 : ∀ q ∈ kL_law_2, decode code q.1 = .ok (q.2.1, q.2.2) := by decide +kernel
def kL_law_3 : List (Nat × Instr × Nat) := [(322, .aload_n 2, 1), (323, .aload_n 0, 1), (324, .iload_n 3, 1), (325, .iconst 1, 1), (326, .iadd, 1), (327, .iaload, 1), (328, .aload_n 0, 1), (329, .iload_n 3, 1), (330, .iconst 2, 1), (331, .iadd, 1), (332, .iaload, 1), (333, .aload_n 0, 1), (334, .iload_n 3, 1), (335, .iconst 3, 1), (336, .iadd, 1), (337, .iaload, 1), (338, .invokevirtual 31, 3), (341, .if_icmp .eq 992, 3), (344, .iconst 0, 1), (345, .ireturn, 1), (346, .aload_n 1, 1), (347, .aload_n 0, 1), (348, .iload_n 3, 1), (349, .iconst 1, 1), (350, .iadd, 1), (351, .iaload, 1), (352, .invokevirtual 32, 3), (355, .aload_n 2, 1), (356, .aload_n 0, 1), (357, .iload_n 3, 1), (358, .iconst 1, 1), (359, .iadd, 1), (360, .iaload, 1), (361, .invokevirtual 35, 3), (364, .if_icmp .eq 969, 3), (367, .iconst 0, 1), (368, .ireturn, 1), (369, .aload_n 1, 1), (370, .invokevirtual 36, 3), (373, .aload_n 2, 1)]
theorem DL_law_3 : ∀ q ∈ kL_law_3, decode code q.1 = .ok (q.2.1, q.2.2) := by decide +kernel
def kL_law_4 : List (Nat × Instr × Nat) := [(374, .invokevirtual 40, 3), (377, .if_icmp .eq 956, 3), (380, .iconst 0, 1), (381, .ireturn, 1), (382, .aload_n 1, 1), (383, .aload_n 0, 1), (384, .iload_n 3, 1), (385, .iconst 1, 1), (386, .iadd, 1), (387, .iaload, 1), (388, .aload_n 0, 1), (389, .iload_n 3, 1), (390, .iconst 2, 1), (391, .iadd, 1), (392, .iaload, 1), (393, .invokevirtual 41, 3), (396, .aload_n 2, 1), (397, .aload_n 0, 1), (398, .iload_n 3, 1), (399, .iconst 1, 1), (400, .iadd, 1), (401, .iaload, 1), (402, .aload_n 0, 1), (403, .iload_n 3, 1), (404, .iconst 2, 1), (405, .iadd, 1), (406, .iaload, 1), (407, .invokevirtual 44, 3), (410, .if_icmp .eq 923, 3), (413, .iconst 0, 1), (414, .ireturn, 1), (415, .aload_n 1, 1), (416, .aload_n 0, 1), (417, .iload_n 3, 1), (418, .iconst 1, 1), (419, .iadd, 1), (420, .iaload, 1), (421, .aload_n 0, 1), (422, .iload_n 3, 1), (423, .iconst 2, 1)]
theorem DL_law_4 : ∀ q ∈ kL_law_4, decode code q.1 = .ok (q.2.1, q.2.2) := by decide +kernel
def kL_law_5 : List (Nat × Instr × Nat) := [(424, .iadd, 1), (425, .iaload, 1), (426, .invokevirtual 45, 3), (429, .aload_n 2, 1), (430, .aload_n 0, 1), (431, .iload_n 3, 1), (432, .iconst 1, 1), (433, .iadd, 1), (434, .iaload, 1), (435, .aload_n 0, 1), (436, .iload_n 3, 1), (437, .iconst 2, 1), (438, .iadd, 1), (439, .iaload, 1), (440, .invokevirtual 48, 3), (443, .if_icmp .eq 890, 3), (446, .iconst 0, 1), (447, .ireturn, 1), (448, .aload_n 1, 1), (449, .invokevirtual 49, 3), (452, .aload_n 2, 1), (453, .invokevirtual 52, 3), (456, .if_icmp .eq 877, 3), (459, .iconst 0, 1), (460, .ireturn, 1), (461, .aload_n 1, 1), (462, .aload_n 0, 1), (463, .iload_n 3, 1), (464, .iconst 1, 1), (465, .iadd, 1), (466, .iaload, 1), (467, .aload_n 0, 1), (468, .iload_n 3, 1), (469, .iconst 2, 1), (470, .iadd, 1), (471, .iaload, 1), (472, .invokevirtual 53, 3), (475, .aload_n 2, 1), (476, .aload_n 0, 1), (477, .iload_n 3, 1)]
theorem DL_law_5 : ∀ q ∈ kL_law_5, decode code q.1 = .ok (q.2.1, q.2.2) := by decide +kernel
def kL_law_6 : List (Nat × Instr × Nat) := [(478, .iconst 1, 1), (479, .iadd, 1), (480, .iaload, 1), (481, .aload_n 0, 1), (482, .iload_n 3, 1), (483, .iconst 2, 1), (484, .iadd, 1), (485, .iaload, 1), (486, .invokevirtual 56, 3), (489, .if_icmp .eq 844, 3), (492, .iconst 0, 1), (493, .ireturn, 1), (494, .aload_n 1, 1), (495, .aload_n 0, 1), (496, .iload_n 3, 1), (497, .iconst 1, 1), (498, .iadd, 1), (499, .iaload, 1), (500, .aload_n 0, 1), (501, .iload_n 3, 1), (502, .iconst 2, 1), (503, .iadd, 1), (504, .iaload, 1), (505, .invokevirtual 57, 3), (508, .aload_n 2, 1), (509, .aload_n 0, 1), (510, .iload_n 3, 1), (511, .iconst 1, 1), (512, .iadd, 1), (513, .iaload, 1), (514, .aload_n 0, 1), (515, .iload_n 3, 1), (516, .iconst 2, 1), (517, .iadd, 1), (518, .iaload, 1), (519, .invokevirtual 60, 3), (522, .if_icmp .eq 811, 3), (525, .iconst 0, 1), (526, .ireturn, 1), (527, .aload_n 1, 1)]
theorem DL_law_6 : ∀ q ∈ kL_law_6, decode code q.1 = .ok (q.2.1, q.2.2) := by decide +kernel
def kL_law_7 : List (Nat × Instr × Nat) := [(528, .aload_n 0, 1), (529, .iload_n 3, 1), (530, .iconst 1, 1), (531, .iadd, 1), (532, .iaload, 1), (533, .invokevirtual 61, 3), (536, .aload_n 2, 1), (537, .aload_n 0, 1), (538, .iload_n 3, 1), (539, .iconst 1, 1), (540, .iadd, 1), (541, .iaload, 1), (542, .invokevirtual 64, 3), (545, .if_icmp .eq 788, 3), (548, .iconst 0, 1), (549, .ireturn, 1), (550, .aload_n 1, 1), (551, .aload_n 0, 1), (552, .iload_n 3, 1), (553, .iconst 1, 1), (554, .iadd, 1), (555, .iaload, 1), (556, .invokevirtual 65, 3), (559, .aload_n 2, 1), (560, .aload_n 0, 1), (561, .iload_n 3, 1), (562, .iconst 1, 1), (563, .iadd, 1), (564, .iaload, 1), (565, .invokevirtual 68, 3), (568, .if_icmp .eq 765, 3), (571, .iconst 0, 1), (572, .ireturn, 1), (573, .aload_n 1, 1), (574, .aload_n 0, 1), (575, .iload_n 3, 1), (576, .iconst 1, 1), (577, .iadd, 1), (578, .iaload, 1), (579, .invokevirtual 69, 3)]
theorem DL_law_7 : ∀ q ∈ kL_law_7, decode code q.1 = .ok (q.2.1, q.2.2) := by decide +kernel
def kL_law_8 : List (Nat × Instr × Nat) := [(582, .aload_n 2, 1), (583, .aload_n 0, 1), (584, .iload_n 3, 1), (585, .iconst 1, 1), (586, .iadd, 1), (587, .iaload, 1), (588, .invokevirtual 72, 3), (591, .if_icmp .eq 742, 3), (594, .iconst 0, 1), (595, .ireturn, 1), (596, .aload_n 1, 1), (597, .aload_n 0, 1), (598, .iload_n 3, 1), (599, .iconst 1, 1), (600, .iadd, 1), (601, .iaload, 1), (602, .invokevirtual 73, 3), (605, .aload_n 2, 1), (606, .aload_n 0, 1), (607, .iload_n 3, 1), (608, .iconst 1, 1), (609, .iadd, 1), (610, .iaload, 1), (611, .invokevirtual 76, 3), (614, .if_icmp .eq 719, 3), (617, .iconst 0, 1), (618, .ireturn, 1), (619, .aload_n 1, 1), (620, .aload_n 0, 1), (621, .iload_n 3, 1), (622, .iconst 1, 1), (623, .iadd, 1), (624, .iaload, 1), (625, .invokevirtual 77, 3), (628, .aload_n 2, 1), (629, .aload_n 0, 1), (630, .iload_n 3, 1), (631, .iconst 1, 1), (632, .iadd, 1), (633, .iaload, 1)]
theorem DL_law_8 : ∀ q ∈ kL_law_8, decode code q.1 = .ok (q.2.1, q.2.2) := by decide +kernel
def kL_law_9 : List (Nat × Instr × Nat) := [(634, .invokevirtual 80, 3), (637, .if_icmp .eq 696, 3), (640, .iconst 0, 1), (641, .ireturn, 1), (642, .aload_n 1, 1), (643, .aload_n 0, 1), (644, .iload_n 3, 1), (645, .iconst 1, 1), (646, .iadd, 1), (647, .iaload, 1), (648, .invokevirtual 81, 3), (651, .aload_n 2, 1), (652, .aload_n 0, 1), (653, .iload_n 3, 1), (654, .iconst 1, 1), (655, .iadd, 1), (656, .iaload, 1), (657, .invokevirtual 85, 3), (660, .lcmp, 1), (661, .ifCond .eq 672, 3), (664, .iconst 0, 1), (665, .ireturn, 1), (666, .aload_n 1, 1), (667, .aload_n 0, 1), (668, .iload_n 3, 1), (669, .iconst 1, 1), (670, .iadd, 1), (671, .iaload, 1), (672, .aload_n 0, 1), (673, .iload_n 3, 1), (674, .iconst 2, 1), (675, .iadd, 1), (676, .iaload, 1), (677, .invokevirtual 86, 3), (680, .aload_n 2, 1), (681, .aload_n 0, 1), (682, .iload_n 3, 1), (683, .iconst 1, 1), (684, .iadd, 1), (685, .iaload, 1)]
theorem DL_law_9 : ∀ q ∈ kL_law_9, decode code q.1 = .ok (q.2.1, q.2.2) := by decide +kernel
def kL_law_10 : List (Nat × Instr × Nat) := [(686, .aload_n 0, 1), (687, .iload_n 3, 1), (688, .iconst 2, 1), (689, .iadd, 1), (690, .iaload, 1), (691, .invokevirtual 89, 3), (694, .if_icmp .eq 639, 3), (697, .iconst 0, 1), (698, .ireturn, 1), (699, .aload_n 1, 1), (700, .aload_n 0, 1), (701, .iload_n 3, 1), (702, .iconst 1, 1), (703, .iadd, 1), (704, .iaload, 1), (705, .aload_n 0, 1), (706, .iload_n 3, 1), (707, .iconst 2, 1), (708, .iadd, 1), (709, .iaload, 1), (710, .invokevirtual 90, 3), (713, .aload_n 2, 1), (714, .aload_n 0, 1), (715, .iload_n 3, 1), (716, .iconst 1, 1), (717, .iadd, 1), (718, .iaload, 1), (719, .aload_n 0, 1), (720, .iload_n 3, 1), (721, .iconst 2, 1), (722, .iadd, 1), (723, .iaload, 1), (724, .invokevirtual 93, 3), (727, .if_icmp .eq 606, 3), (730, .iconst 0, 1), (731, .ireturn, 1), (732, .aload_n 1, 1), (733, .aload_n 0, 1), (734, .iload_n 3, 1), (735, .iconst 1, 1)]
theorem DL_law_10 : ∀ q ∈ kL_law_10, decode code q.1 = .ok (q.2.1, q.2.2) := by decide +kernel
def kL_law_11 : List (Nat × Instr × Nat) := [(736, .iadd, 1), (737, .iaload, 1), (738, .invokevirtual 94, 3), (741, .aload_n 2, 1), (742, .aload_n 0, 1), (743, .iload_n 3, 1), (744, .iconst 1, 1), (745, .iadd, 1), (746, .iaload, 1), (747, .invokevirtual 97, 3), (750, .if_icmp .eq 583, 3), (753, .iconst 0, 1), (754, .ireturn, 1), (755, .aload_n 1, 1), (756, .aload_n 0, 1), (757, .iload_n 3, 1), (758, .iconst 1, 1), (759, .iadd, 1), (760, .iaload, 1), (761, .invokevirtual 98, 3), (764, .aload_n 2, 1), (765, .aload_n 0, 1), (766, .iload_n 3, 1), (767, .iconst 1, 1), (768, .iadd, 1), (769, .iaload, 1), (770, .invokevirtual 101, 3), (773, .if_icmp .eq 560, 3), (776, .iconst 0, 1), (777, .ireturn, 1), (778, .aload_n 1, 1), (779, .aload_n 0, 1), (780, .iload_n 3, 1), (781, .iconst 1, 1), (782, .iadd, 1), (783, .iaload, 1), (784, .invokevirtual 102, 3), (787, .aload_n 2, 1), (788, .aload_n 0, 1), (789, .iload_n 3, 1)]
theorem DL_law_11 : ∀ q ∈ kL_law_11, decode code q.1 = .ok (q.2.1, q.2.2) := by decide +kernel
def kL_law_12 : List (Nat × Instr × Nat) := [(790, .iconst 1, 1), (791, .iadd, 1), (792, .iaload, 1), (793, .invokevirtual 105, 3), (796, .if_icmp .eq 537, 3), (799, .iconst 0, 1), (800, .ireturn, 1), (801, .aload_n 1, 1), (802, .aload_n 0, 1), (803, .iload_n 3, 1), (804, .iconst 1, 1), (805, .iadd, 1), (806, .iaload, 1), (807, .aload_n 0, 1), (808, .iload_n 3, 1), (809, .iconst 2, 1), (810, .iadd, 1), (811, .iaload, 1), (812, .invokevirtual 106, 3), (815, .aload_n 2, 1), (816, .aload_n 0, 1), (817, .iload_n 3, 1), (818, .iconst 1, 1), (819, .iadd, 1), (820, .iaload, 1), (821, .aload_n 0, 1), (822, .iload_n 3, 1), (823, .iconst 2, 1), (824, .iadd, 1), (825, .iaload, 1), (826, .invokevirtual 109, 3), (829, .if_icmp .eq 504, 3), (832, .iconst 0, 1), (833, .ireturn, 1), (834, .aload_n 1, 1), (835, .aload_n 0, 1), (836, .iload_n 3, 1), (837, .iconst 1, 1), (838, .iadd, 1), (839, .iaload, 1)]
theorem DL_law_12 : ∀ q ∈ kL_law_12, decode code q.1 = .ok (q.2.1, q.2.2) := by decide +kernel
def kL_law_13 : List (Nat × Instr × Nat) := [(840, .invokevirtual 110, 3), (843, .aload_n 2, 1), (844, .aload_n 0, 1), (845, .iload_n 3, 1), (846, .iconst 1, 1), (847, .iadd, 1), (848, .iaload, 1), (849, .invokevirtual 113, 3), (852, .if_icmp .eq 481, 3), (855, .iconst 0, 1), (856, .ireturn, 1), (857, .aload_n 1, 1), (858, .aload_n 0, 1), (859, .iload_n 3, 1), (860, .iconst 1, 1), (861, .iadd, 1), (862, .iaload, 1), (863, .aload_n 0, 1), (864, .iload_n 3, 1), (865, .iconst 2, 1), (866, .iadd, 1), (867, .iaload, 1), (868, .invokevirtual 114, 3), (871, .aload_n 2, 1), (872, .aload_n 0, 1), (873, .iload_n 3, 1), (874, .iconst 1, 1), (875, .iadd, 1), (876, .iaload, 1), (877, .aload_n 0, 1), (878, .iload_n 3, 1), (879, .iconst 2, 1), (880, .iadd, 1), (881, .iaload, 1), (882, .invokevirtual 117, 3), (885, .if_icmp .eq 448, 3), (888, .iconst 0, 1), (889, .ireturn, 1), (890, .aload_n 1, 1), (891, .invokevirtual 118, 3)]
theorem DL_law_13 : ∀ q ∈ kL_law_13, decode code q.1 = .ok (q.2.1, q.2.2) := by decide +kernel
def kL_law_14 : List (Nat × Instr × Nat) := [(894, .aload_n 2, 1), (895, .invokevirtual 121, 3), (898, .if_icmp .eq 435, 3), (901, .iconst 0, 1), (902, .ireturn, 1), (903, .aload_n 1, 1), (904, .invokevirtual 122, 3), (907, .aload_n 2, 1), (908, .invokevirtual 125, 3), (911, .if_icmp .eq 422, 3), (914, .iconst 0, 1), (915, .ireturn, 1), (916, .aload_n 1, 1), (917, .invokevirtual 126, 3), (920, .aload_n 2, 1), (921, .invokevirtual 129, 3), (924, .if_icmp .eq 409, 3), (927, .iconst 0, 1), (928, .ireturn, 1), (929, .aload_n 1, 1), (930, .invokevirtual 130, 3), (933, .aload_n 2, 1), (934, .invokevirtual 133, 3), (937, .if_icmp .eq 396, 3), (940, .iconst 0, 1), (941, .ireturn, 1), (942, .aload_n 1, 1), (943, .aload_n 0, 1), (944, .iload_n 3, 1), (945, .iconst 1, 1), (946, .iadd, 1), (947, .iaload, 1), (948, .invokevirtual 134, 3), (951, .aload_n 2, 1), (952, .aload_n 0, 1), (953, .iload_n 3, 1), (954, .iconst 1, 1), (955, .iadd, 1), (956, .iaload, 1), (957, .invokevirtual 137, 3)]
theorem DL_law_14 : ∀ q ∈ kL_law_14, decode code q.1 = .ok (q.2.1, q.2.2) := by decide +kernel
def kL_law_15 : List (Nat × Instr × Nat) := [(960, .if_icmp .eq 373, 3), (963, .iconst 0, 1), (964, .ireturn, 1), (965, .aload_n 1, 1), (966, .aload_n 0, 1), (967, .iload_n 3, 1), (968, .iconst 1, 1), (969, .iadd, 1), (970, .iaload, 1), (971, .aload_n 0, 1), (972, .iload_n 3, 1), (973, .iconst 2, 1), (974, .iadd, 1), (975, .iaload, 1), (976, .aload_n 0, 1), (977, .iload_n 3, 1), (978, .iconst 3, 1), (979, .iadd, 1), (980, .iaload, 1), (981, .invokevirtual 138, 3), (984, .aload_n 2, 1), (985, .aload_n 0, 1), (986, .iload_n 3, 1), (987, .iconst 1, 1), (988, .iadd, 1), (989, .iaload, 1), (990, .aload_n 0, 1), (991, .iload_n 3, 1), (992, .iconst 2, 1), (993, .iadd, 1), (994, .iaload, 1), (995, .aload_n 0, 1), (996, .iload_n 3, 1), (997, .iconst 3, 1), (998, .iadd, 1), (999, .iaload, 1), (1000, .invokevirtual 141, 3), (1003, .if_icmp .eq 330, 3), (1006, .iconst 0, 1), (1007, .ireturn, 1)]
theorem DL_law_15 : ∀ q ∈ kL_law_15, decode code q.1 = .ok (q.2.1, q.2.2) := by decide +kernel
def kL_law_16 : List (Nat × Instr × Nat) := [(1008, .aload_n 1, 1), (1009, .aload_n 0, 1), (1010, .iload_n 3, 1), (1011, .iconst 1, 1), (1012, .iadd, 1), (1013, .iaload, 1), (1014, .invokevirtual 142, 3), (1017, .aload_n 2, 1), (1018, .aload_n 0, 1), (1019, .iload_n 3, 1), (1020, .iconst 1, 1), (1021, .iadd, 1), (1022, .iaload, 1), (1023, .invokevirtual 145, 3), (1026, .if_icmp .eq 307, 3), (1029, .iconst 0, 1), (1030, .ireturn, 1), (1031, .aload_n 1, 1), (1032, .aload_n 0, 1), (1033, .iload_n 3, 1), (1034, .iconst 1, 1), (1035, .iadd, 1), (1036, .iaload, 1), (1037, .aload_n 0, 1), (1038, .iload_n 3, 1), (1039, .iconst 2, 1), (1040, .iadd, 1), (1041, .iaload, 1), (1042, .invokevirtual 146, 3), (1045, .aload_n 2, 1), (1046, .aload_n 0, 1), (1047, .iload_n 3, 1), (1048, .iconst 1, 1), (1049, .iadd, 1), (1050, .iaload, 1), (1051, .aload_n 0, 1), (1052, .iload_n 3, 1), (1053, .iconst 2, 1), (1054, .iadd, 1), (1055, .iaload, 1)]
theorem DL_law_16 : ∀ q ∈ kL_law_16, decode code q.1 = .ok (q.2.1, q.2.2) := by decide +kernel
def kL_law_17 : List (Nat × Instr × Nat) := [(1056, .invokevirtual 149, 3), (1059, .if_icmp .eq 274, 3), (1062, .iconst 0, 1), (1063, .ireturn, 1), (1064, .aload_n 1, 1), (1065, .aload_n 0, 1), (1066, .iload_n 3, 1), (1067, .iconst 1, 1), (1068, .iadd, 1), (1069, .iaload, 1), (1070, .aload_n 0, 1), (1071, .iload_n 3, 1), (1072, .iconst 2, 1), (1073, .iadd, 1), (1074, .iaload, 1), (1075, .aload_n 0, 1), (1076, .iload_n 3, 1), (1077, .iconst 3, 1), (1078, .iadd, 1), (1079, .iaload, 1), (1080, .invokevirtual 150, 3), (1083, .aload_n 2, 1), (1084, .aload_n 0, 1), (1085, .iload_n 3, 1), (1086, .iconst 1, 1), (1087, .iadd, 1), (1088, .iaload, 1), (1089, .aload_n 0, 1), (1090, .iload_n 3, 1), (1091, .iconst 2, 1), (1092, .iadd, 1), (1093, .iaload, 1), (1094, .aload_n 0, 1), (1095, .iload_n 3, 1), (1096, .iconst 3, 1), (1097, .iadd, 1), (1098, .iaload, 1), (1099, .invokevirtual 153, 3), (1102, .if_icmp .eq 231, 3), (1105, .iconst 0, 1)]
theorem DL_law_17 : ∀ q ∈ kL_law_17, decode code q.1 = .ok (q.2.1, q.2.2) := by decide +kernel
def kL_law_18 : List (Nat × Instr × Nat) := [(1106, .ireturn, 1), (1107, .aload_n 1, 1), (1108, .aload_n 0, 1), (1109, .iload_n 3, 1), (1110, .iconst 1, 1), (1111, .iadd, 1), (1112, .iaload, 1), (1113, .aload_n 0, 1), (1114, .iload_n 3, 1), (1115, .iconst 2, 1), (1116, .iadd, 1), (1117, .iaload, 1), (1118, .aload_n 0, 1), (1119, .iload_n 3, 1), (1120, .iconst 3, 1), (1121, .iadd, 1), (1122, .iaload, 1), (1123, .i2l, 1), (1124, .bipush 32, 2), (1126, .lshl, 1), (1127, .aload_n 0, 1), (1128, .iload_n 3, 1), (1129, .iconst 4, 1), (1130, .iadd, 1), (1131, .iaload, 1), (1132, .i2l, 1), (1133, .ldc2_w 154, 3), (1136, .land, 1), (1137, .lor, 1), (1138, .invokevirtual 156, 3), (1141, .aload_n 2, 1), (1142, .aload_n 0, 1), (1143, .iload_n 3, 1), (1144, .iconst 1, 1), (1145, .iadd, 1), (1146, .iaload, 1), (1147, .aload_n 0, 1), (1148, .iload_n 3, 1), (1149, .iconst 2, 1), (1150, .iadd, 1)]
theorem DL_law_18 : ∀ q ∈ kL_law_18, decode code q.1 = .ok (q.2.1, q.2.2) := by decide +kernel
def kL_law_19 : List (Nat × Instr × Nat) := [(1151, .iaload, 1), (1152, .aload_n 0, 1), (1153, .iload_n 3, 1), (1154, .iconst 3, 1), (1155, .iadd, 1), (1156, .iaload, 1), (1157, .i2l, 1), (1158, .bipush 32, 2), (1160, .lshl, 1), (1161, .aload_n 0, 1), (1162, .iload_n 3, 1), (1163, .iconst 4, 1), (1164, .iadd, 1), (1165, .iaload, 1), (1166, .i2l, 1), (1167, .ldc2_w 154, 3), (1170, .land, 1), (1171, .lor, 1), (1172, .invokevirtual 160, 3), (1175, .if_icmp .eq 158, 3), (1178, .iconst 0, 1), (1179, .ireturn, 1), (1180, .aload_n 1, 1), (1181, .aload_n 0, 1), (1182, .iload_n 3, 1), (1183, .iconst 1, 1), (1184, .iadd, 1), (1185, .iaload, 1), (1186, .aload_n 0, 1), (1187, .iload_n 3, 1), (1188, .iconst 2, 1), (1189, .iadd, 1), (1190, .iaload, 1), (1191, .invokevirtual 161, 3), (1194, .aload_n 2, 1), (1195, .aload_n 0, 1), (1196, .iload_n 3, 1), (1197, .iconst 1, 1), (1198, .iadd, 1), (1199, .iaload, 1)]
theorem DL_law_19 : ∀ q ∈ kL_law_19, decode code q.1 = .ok (q.2.1, q.2.2) := by decide +kernel
def kL_law_20 : List (Nat × Instr × Nat) := [(1200, .aload_n 0, 1), (1201, .iload_n 3, 1), (1202, .iconst 2, 1), (1203, .iadd, 1), (1204, .iaload, 1), (1205, .invokevirtual 165, 3), (1208, .lcmp, 1), (1209, .ifCond .eq 124, 3), (1212, .iconst 0, 1), (1213, .ireturn, 1), (1214, .aload_n 1, 1), (1215, .aload_n 0, 1), (1216, .iload_n 3, 1), (1217, .iconst 1, 1), (1218, .iadd, 1), (1219, .iaload, 1), (1220, .aload_n 0, 1), (1221, .iload_n 3, 1), (1222, .iconst 2, 1), (1223, .iadd, 1), (1224, .iaload, 1), (1225, .aload_n 0, 1), (1226, .iload_n 3, 1), (1227, .iconst 3, 1), (1228, .iadd, 1), (1229, .iaload, 1), (1230, .aload_n 0, 1), (1231, .iload_n 3, 1), (1232, .iconst 4, 1), (1233, .iadd, 1), (1234, .iaload, 1), (1235, .aload_n 0, 1), (1236, .iload_n 3, 1), (1237, .iconst 5, 1), (1238, .iadd, 1), (1239, .iaload, 1), (1240, .invokevirtual 166, 3), (1243, .aload_n 2, 1), (1244, .aload_n 0, 1), (1245, .iload_n 3, 1)]
theorem DL_law_20 : ∀ q ∈ kL_law_20, decode code q.1 = .ok (q.2.1, q.2.2) := by decide +kernel
def kL_law_21 : List (Nat × Instr × Nat) := [(1246, .iconst 1, 1), (1247, .iadd, 1), (1248, .iaload, 1), (1249, .aload_n 0, 1), (1250, .iload_n 3, 1), (1251, .iconst 2, 1), (1252, .iadd, 1), (1253, .iaload, 1), (1254, .aload_n 0, 1), (1255, .iload_n 3, 1), (1256, .iconst 3, 1), (1257, .iadd, 1), (1258, .iaload, 1), (1259, .aload_n 0, 1), (1260, .iload_n 3, 1), (1261, .iconst 4, 1), (1262, .iadd, 1), (1263, .iaload, 1), (1264, .aload_n 0, 1), (1265, .iload_n 3, 1), (1266, .iconst 5, 1), (1267, .iadd, 1), (1268, .iaload, 1), (1269, .invokevirtual 170, 3), (1272, .if_icmp .eq 61, 3), (1275, .iconst 0, 1), (1276, .ireturn, 1), (1277, .aload_n 1, 1), (1278, .aload_n 0, 1), (1279, .iload_n 3, 1), (1280, .iconst 1, 1), (1281, .iadd, 1), (1282, .iaload, 1), (1283, .aload_n 0, 1), (1284, .iload_n 3, 1), (1285, .iconst 2, 1), (1286, .iadd, 1), (1287, .iaload, 1), (1288, .invokevirtual 171, 3), (1291, .aload_n 2, 1)]
theorem DL_law_21 : ∀ q ∈ kL_law_21, decode code q.1 = .ok (q.2.1, q.2.2) := by decide +kernel
def kL_law_22 : List (Nat × Instr × Nat) := [(1292, .aload_n 0, 1), (1293, .iload_n 3, 1), (1294, .iconst 1, 1), (1295, .iadd, 1), (1296, .iaload, 1), (1297, .aload_n 0, 1), (1298, .iload_n 3, 1), (1299, .iconst 2, 1), (1300, .iadd, 1), (1301, .iaload, 1), (1302, .invokevirtual 174, 3), (1305, .if_icmp .eq 28, 3), (1308, .iconst 0, 1), (1309, .ireturn, 1), (1310, .aload_n 1, 1), (1311, .aload_n 0, 1), (1312, .iload_n 3, 1), (1313, .iconst 1, 1), (1314, .iadd, 1), (1315, .iaload, 1), (1316, .invokevirtual 175, 3), (1319, .aload_n 2, 1), (1320, .aload_n 0, 1), (1321, .iload_n 3, 1), (1322, .iconst 1, 1), (1323, .iadd, 1), (1324, .iaload, 1), (1325, .invokevirtual 178, 3), (1328, .if_icmp .eq 5, 3), (1331, .iconst 0, 1), (1332, .ireturn, 1), (1333, .iinc 3 6, 3), (1336, .goto (-1318), 3), (1339, .iconst 1, 1), (1340, .ireturn, 1)]
theorem DL_law_22 : ∀ q ∈ kL_law_22, decode code q.1 = .ok (q.2.1, q.2.2) := by decide +kernel
end
section
/-! a small machine of whole numbers over the kit's machine: values, shapes, a memory, and the judgement zW over them -/
abbrev zV : Type := Int ⊕ Int ⊕ Int
abbrev zSh : Type := Nat × Nat
abbrev zMm : Type := Int → Int → Int
def zrf (ad : Int → Nat) (r : Int) : Value := if r = -1 then .null else .ref (ad r)
def zc (ad : Int → Nat) (v : zV) : Value := match v with
  | .inl x => .int (Int32.ofInt x)
  | .inr (.inl x) => .long (Int64.ofInt x)
  | .inr (.inr r) => zrf ad r
def zisr (ty : FieldType) : Bool := match ty with
  | .object _ => true
  | .array _ => true
  | _ => false
def zfv (ad : Int → Nat) (ty : FieldType) (x g : Int) : Value := match ty with
  | .long => .long (Int64.ofInt x)
  | .object _ => zrf ad g
  | .array _ => zrf ad g
  | _ => .int (Int32.ofInt x)
/-- a cell: its shape (0 ints, 1 booleans, 2 longs, 3 rows of longs, ci + 4 an object of class ci), its row of numbers, its row of references -/
def zE (ad : Int → Nat) (cA : FieldType → ClassId) (sh : zSh) (f g : Int → Int) : va_E := match sh.1 with
  | 0 => .inl (cA .int, sh.2, .inl (fun (j : Nat) => Int32.ofInt (f j)))
  | 1 => .inl (cA .boolean, sh.2, .inl (fun (j : Nat) => Int32.ofInt (f j)))
  | 2 => .inl (cA .long, sh.2, .inr (.inl (fun (j : Nat) => Int64.ofInt (f j))))
  | 3 => .inl (cA (.array .long), sh.2, .inr (.inr (.inr (.inr (fun (j : Nat) => if j < sh.2 then (if g j = -1 then none else some (ad (g j))) else none)))))
  | ci + 4 => .inr (ci, (List.range sh.2).map (fun (j : Nat) => zfv ad (zty ci j) (f j) (g j)))
/-- the references of cell r lie in row -10 - r -/
def zWs (ad : Int → Nat) (cA : FieldType → ClassId) (S : List zSh) (M : zMm) : va_W := (List.range S.length).map (fun (i : Nat) => (ad i, zE ad cA (S.getD i (0, 0)) (M i) (M (-10 - (i : Int)))))
def ztys (cA : FieldType → ClassId) : List (ClassId × FieldType) := [(cA .int, .int), (cA .boolean, .boolean), (cA .long, .long), (cA (.array .long), .array .long)]
def zup (M : zMm) (c k v : Int) : zMm := fun c' k' => if c' = c ∧ k' = k then v else M c' k'
def z32 (x : Int) : Prop := -2147483648 ≤ x ∧ x < 2147483648
def z64 (x : Int) : Prop := -9223372036854775808 ≤ x ∧ x < 9223372036854775808
def zrr (n : Nat) (r : Int) : Prop := -4 ≤ r ∧ r < n
def zok1 (n : Nat) (ty : FieldType) (x g : Int) : Prop := match ty with
  | .boolean => 0 ≤ x ∧ x ≤ 1
  | .long => z64 x
  | .object _ => zrr n g
  | .array _ => zrr n g
  | _ => z32 x
def zokE (n : Nat) (sh : zSh) (j : Nat) (x g : Int) : Prop := match sh.1 with
  | 0 => z32 x
  | 1 => 0 ≤ x ∧ x ≤ 1
  | 2 => z64 x
  | 3 => zrr n g
  | ci + 4 => zok1 n (zty ci j) x g
def zcM (S : List zSh) (M : zMm) : Prop := ∀ (i : Nat) (sh : zSh), S[i]? = some sh → ∀ j : Nat, j < sh.2 → zokE S.length sh j (M i j) (M (-10 - (i : Int)) j)
def zcV (n : Nat) (v : zV) : Prop := match v with
  | .inl x => z32 x
  | .inr (.inl x) => z64 x
  | .inr (.inr r) => zrr n r
def zw (x : Int) : Int := (x + 2147483648) % 4294967296 - 2147483648
theorem zw_id {x : Int} (h : z32 x) : zw x = x := by unfold z32 at h; unfold zw; omega
theorem zw_32 (x : Int) : z32 (zw x) := by unfold z32 zw; omega
theorem z32_of (v : Int32) : z32 v.toInt := by
  have h1 := v.le_toInt
  have h2 := v.toInt_lt
  unfold z32; omega
theorem z64_of (v : Int64) : z64 v.toInt := by
  have h1 := v.le_toInt
  have h2 := v.toInt_lt
  unfold z64; omega
theorem zi_to {x : Int} (h : z32 x) : (Int32.ofInt x).toInt = x := Int32.toInt_ofInt_of_le (by unfold z32 at h; omega) (by unfold z32 at h; omega)
theorem zl_to {x : Int} (h : z64 x) : (Int64.ofInt x).toInt = x := Int64.toInt_ofInt_of_le (by unfold z64 at h; omega) (by unfold z64 at h; omega)
theorem zi_w (x : Int) : (Int32.ofInt x).toInt = zw x := by
  rw [Int32.toInt_ofInt]
  have h := Int.bmod_def x Int32.size
  rw [h]
  show _ = (x + 2147483648) % 4294967296 - 2147483648
  have e : ((Int32.size : Nat) : Int) = 4294967296 := by decide
  rw [e]
  split <;> omega
theorem zi_ofw (x : Int) : Int32.ofInt (zw x) = Int32.ofInt x := by rw [← zi_w, Int32.ofInt_toInt]
theorem zi_inj {x y : Int} (hx : z32 x) (hy : z32 y) : Int32.ofInt x = Int32.ofInt y ↔ x = y := ⟨fun h => by rw [← zi_to hx, ← zi_to hy, h], fun h => by rw [h]⟩
theorem zi_lt {x y : Int} (hx : z32 x) (hy : z32 y) : Int32.ofInt x < Int32.ofInt y ↔ x < y := by rw [Int32.lt_iff_toInt_lt, zi_to hx, zi_to hy]
theorem zi_le {x y : Int} (hx : z32 x) (hy : z32 y) : Int32.ofInt x ≤ Int32.ofInt y ↔ x ≤ y := by rw [Int32.le_iff_toInt_le, zi_to hx, zi_to hy]
theorem zi_nat {x : Int} (hx : z32 x) : (Int32.ofInt x).toNatClampNeg = x.toNat := by
  show (Int32.ofInt x).toInt.toNat = _
  rw [zi_to hx]
theorem zi_in {x : Int} {n : Nat} (h0 : 0 ≤ x) (h1 : x < n) (hx : z32 x) : vp_in (Int32.ofInt x) n := by
  unfold vp_in
  rw [zi_nat hx]
  rintro (h | h)
  · rw [show (0 : Int32) = Int32.ofInt 0 from rfl, zi_lt hx (by unfold z32; omega)] at h
    omega
  · omega
-- the static part of a walk of method y: the machine, the tables, the classes, the row of numbers outside (script -2, ABOVE -3, BODIES -4), and how a return ends
def zSt (ad0 : Int → Nat) (Mn : zMm) (A : Nat → Prop) (s : State) (H : Heap) : Prop :=
  (∀ r : Int, r = -2 ∨ r = -3 ∨ r = -4 → va_T .int (ad0 r) (Mn r (-1)).toNat (fun (j : Nat) => .int (Int32.ofInt (Mn r j))) A s H ∧ 0 ≤ Mn r (-1) ∧ Mn r (-1) < 2147483648 ∧ ∀ j : Int, 0 ≤ j → j < Mn r (-1) → z32 (Mn r j)) ∧
  va_Z "SixWalls$Cells" "ABOVE" "[I" (.ref (ad0 (-3))) A s H ∧ va_Z "SixWalls$Cells" "BODIES" "[I" (.ref (ad0 (-4))) A s H
def zret (rv : Option zV) : Instr := match rv with
  | none => .return_
  | some (.inl _) => .ireturn
  | some (.inr (.inl _)) => .lreturn
  | some (.inr (.inr _)) => .areturn
def zretOk (ret : Option FieldType) (rv : Option zV) : Prop := match ret, rv with
  | none, none => True
  | some .int, some (.inl x) => z32 x
  | some .boolean, some (.inl x) => 0 ≤ x ∧ x ≤ 1
  | some .long, some (.inr (.inl x)) => z64 x
  | _, _ => False
/-- the world of a walk: what the memory says is in the heap; nothing else has changed -/
def zWd (b : Nat × Nat) (S : List zSh) (M : zMm) (D : va_G) (cA : FieldType → ClassId) (ad0 : Int → Nat) (n0 : Nat) (Mn : zMm) (A : Nat → Prop) (R : Room) (s : State) (ad : Int → Nat) (H : Heap) (locs : List Loc) (cells slots : Nat) : Prop :=
  (∀ r : Int, r < n0 → ad r = ad0 r) ∧ n0 ≤ S.length ∧ (∀ r : Int, -5 < r → r < 0 → M r = Mn r) ∧ va_P D zcl (zWs ad cA S M) H ∧ va_D A (zWs ad cA S M) ∧ va_S A s.heap H locs ∧ cells + b.1 ≤ R.cells ∧ slots + b.2 ≤ R.slots ∧ zcM S M
def zLs (nL : Nat) (n : Nat) (L : List (Nat × zV)) (ad : Int → Nat) (ls : Array Slot) : Prop := lv_has ls nL (L.map (fun q => (q.1, zc ad q.2))) ∧ ∀ q ∈ L, zcV n q.2
/-- the tables' words that every method may take along; and those that go by the state -/
def zTb : List Cond := lw_tbl.filter goodWord
theorem zT {w : Cond} (h : w ∈ lw_tbl) (hg : goodWord w = true) : w ∈ zTb := List.mem_filter.mpr ⟨h, hg⟩
theorem zT_ws {ci : Nat} {C : String} {T : u_T} {N : Nat} (h : zcl[ci]? = some (C, T, N)) : ∀ w ∈ u_ws C T N, w ∈ zTb := by
  intro w hw
  refine zT ((zcl_ok ci _ h).1 w hw) ?_
  obtain ⟨k, -, rfl⟩ := List.mem_map.mp hw
  unfold u_lay
  split <;> rfl
def zNs (s : State) : Prop := (∀ (a : String) (i : Nat) (x : MethodName) (h : String), Cond.methodLinkNest a i x h ∈ lw_tbl → va_Nw (.methodLinkNest a i x h) s) ∧ (Cond.arrayOver (.array .long)).before #[] s = true
def zPost : Type := Option zV → List zSh → zMm → Prop
def zEnv (y : zM) (d : Nat) (p : Program) (R : Room) (s : State) (m : MethodId) (args : Array Value) (meth : Method) (c : Code) (D : va_G) (cA : FieldType → ClassId) (ad0 : Int → Nat) (Mn : zMm) (A : Nat → Prop) : Prop :=
  p.tables.exec = Jvm.exec ∧ c.code = y.2.1 ∧ c.maxLocals = y.2.2.1 ∧ s.vm.findClass y.1.cls = some m.cls ∧ (∀ w ∈ zTb, w.before args s = true) ∧ d ≤ R.frames ∧ 40 * d ≤ R.locals ∧ (y.1.name = "<init>" → meth.name = "<init>") ∧ va_K D zcl (ztys cA) s ∧ zSt ad0 Mn A s s.heap ∧ (∀ q, s.heap.size ≤ q → A q) ∧ zNs s
def zRet (y : zM) (Q : zPost) (p : Program) (l : Launch) (e : Env) (R : Room) (s : State) (m : MethodId) (args : Array Value) (below : List Frame) (meth : Method) (c : Code) (D : va_G) (cA : FieldType → ClassId) (ad0 : Int → Nat) (n0 : Nat) (Mn : zMm) (A : Nat → Prop) (Z : State → Prop) : Prop :=
  ∀ (rv : Option zV) (S : List zSh) (M : zMm) (ad : Int → Nat) (H : Heap) (locs : List Loc) (cells slots pc : Nat) (ls : Array Slot), zWd (0, 0) S M D cA ad0 n0 Mn A R s ad H locs cells slots → (∀ v ∈ rv, zcV S.length v) → Q rv S M → zretOk y.2.2.2 rv → decode y.2.1 pc = .ok (zret rv, 1) →
    W p l e R s m args below meth c H locs cells slots Z (F0 m pc ls (rv.toList.map (zc ad)))
/-- THE JUDGEMENT: from the frame at pc with these locals and stack and this memory, method y (in room for d frames, b cells and slots more) returns with Q -/
def zW (y : zM) (d : Nat) (Q : zPost) (b : Nat × Nat) (S : List zSh) (pc : Nat) (L : List (Nat × zV)) (st : List zV) (M : zMm) : Prop :=
  ∀ (p : Program) (l : Launch) (e : Env) (R : Room) (s : State) (m : MethodId) (args : Array Value) (below : List Frame) (meth : Method) (c : Code) (D : va_G) (cA : FieldType → ClassId) (ad0 : Int → Nat) (n0 : Nat) (Mn : zMm) (A : Nat → Prop) (Z : State → Prop),
    zEnv y d p R s m args meth c D cA ad0 Mn A → zRet y Q p l e R s m args below meth c D cA ad0 n0 Mn A Z →
    ∀ (ad : Int → Nat) (H : Heap) (locs : List Loc) (cells slots : Nat) (ls : Array Slot), zWd b S M D cA ad0 n0 Mn A R s ad H locs cells slots → zLs y.2.2.1 S.length L ad ls → (∀ v ∈ st, zcV S.length v) →
      W p l e R s m args below meth c H locs cells slots Z (F0 m pc ls (st.map (zc ad)))
theorem zWs_len {ad : Int → Nat} {cA : FieldType → ClassId} {S : List zSh} {M : zMm} : (zWs ad cA S M).length = S.length := by simp [zWs]
theorem zWs_at {ad : Int → Nat} {cA : FieldType → ClassId} {S : List zSh} {M : zMm} {i : Nat} {sh : zSh} (h : S[i]? = some sh) : (zWs ad cA S M)[i]? = some (ad i, zE ad cA sh (M i) (M (-10 - (i : Int)))) := by
  have hi : i < S.length := (List.getElem?_eq_some_iff.mp h).1
  unfold zWs
  rw [List.getElem?_map, List.getElem?_range hi]
  simp only [Option.map_some, List.getD_eq_getElem?_getD, h, Option.getD_some]
theorem zWs_ext {ad' : Int → Nat} {cA : FieldType → ClassId} {S : List zSh} {M' : zMm} {ws : va_W} (hl : ws.length = S.length) (h : ∀ (i : Nat) (sh : zSh), S[i]? = some sh → ws[i]? = some (ad' i, zE ad' cA sh (M' i) (M' (-10 - (i : Int))))) : ws = zWs ad' cA S M' := by
  apply List.ext_getElem?
  intro i
  by_cases hi : i < S.length
  · obtain ⟨sh, hs⟩ : ∃ sh, S[i]? = some sh := ⟨S[i], List.getElem?_eq_getElem hi⟩
    rw [h i sh hs, zWs_at hs]
  · rw [List.getElem?_eq_none (by omega), List.getElem?_eq_none (by rw [zWs_len]; omega)]
theorem zWs_set {ad : Int → Nat} {cA : FieldType → ClassId} {S : List zSh} {M M' : zMm} {r : Nat} {sh : zSh} {e : va_E} (hr : S[r]? = some sh) (he : e = zE ad cA sh (M' r) (M' (-10 - (r : Int)))) (hk : ∀ i : Nat, i < S.length → i ≠ r → M' i = M i ∧ M' (-10 - (i : Int)) = M (-10 - (i : Int))) : (zWs ad cA S M).set r (ad r, e) = zWs ad cA S M' := by
  refine zWs_ext (by rw [List.length_set, zWs_len]) fun i sh' hi => ?_
  have hi' : i < S.length := (List.getElem?_eq_some_iff.mp hi).1
  rw [List.getElem?_set]
  by_cases hir : r = i
  · subst hir
    rw [hr] at hi
    cases hi
    rw [if_pos rfl, if_pos (by rw [zWs_len]; exact hi'), he]
  · rw [if_neg hir, zWs_at hi, (hk i hi' (fun h => hir h.symm)).1, (hk i hi' (fun h => hir h.symm)).2]
end
section
/-! the rules of zW: constants, locals, numbers, branches, returns -/
def zcat2 (v : zV) : Bool := match v with
  | .inr (.inl _) => true
  | _ => false
def zkeep1 (i : Nat) (q : Nat × zV) : Bool := !(q.1 == i) && !(q.1 + 1 == i && zcat2 q.2)
def zkeep2 (i : Nat) (q : Nat × zV) : Bool := !(q.1 == i) && (!(q.1 == i + 1) && !(q.1 + 1 == i && zcat2 q.2))
def zins (i : Nat) (v : zV) : List (Nat × zV) → List (Nat × zV)
  | [] => [(i, v)]
  | q :: t => if Nat.ble i q.1 then (i, v) :: q :: t else q :: zins i v t
def zput (i : Nat) (v : zV) (L : List (Nat × zV)) : List (Nat × zV) := zins i v (L.filter (zkeep1 i))
def zput2 (i : Nat) (v : zV) (L : List (Nat × zV)) : List (Nat × zV) := zins i v (L.filter (zkeep2 i))
theorem zins_mem {i : Nat} {v : zV} {q : Nat × zV} : ∀ {L : List (Nat × zV)}, q ∈ zins i v L → q = (i, v) ∨ q ∈ L
  | [], h => by simpa [zins] using h
  | a :: t, h => by
    unfold zins at h
    split at h
    · simpa using h
    · rcases List.mem_cons.mp h with h | h
      · exact Or.inr (by simp [h])
      · rcases zins_mem h with h | h
        · exact Or.inl h
        · exact Or.inr (by simp [h])
theorem zcat_of (ad : Int → Nat) (v : zV) : ((zc ad v).category == 2) = zcat2 v := by
  rcases v with x | x | x
  · rfl
  · rfl
  · show ((zrf ad x).category == 2) = false
    unfold zrf
    split <;> rfl
theorem lv_mono {ls : Array Slot} {n : Nat} {l l' : List (Nat × Value)} (h : lv_has ls n l) (hs : ∀ q ∈ l', q ∈ l) : lv_has ls n l' := ⟨h.1, h.2.1, fun q hq => h.2.2 q (hs q hq)⟩
theorem zLs_at {nL n : Nat} {L : List (Nat × zV)} {ad : Int → Nat} {ls : Array Slot} (h : zLs nL n L ad ls) {j i : Nat} {v : zV} (hj : L[j]? = some (i, v)) : ls[i]? = some (.val (zc ad v)) := h.1.2.2 (i, zc ad v) (List.mem_map.mpr ⟨(i, v), List.mem_of_getElem? hj, rfl⟩)
theorem zLs_cat {nL n : Nat} {L : List (Nat × zV)} {ad : Int → Nat} {ls : Array Slot} (h : zLs nL n L ad ls) {j i : Nat} {v : zV} (hj : L[j]? = some (i, v)) : zcV n v := h.2 (i, v) (List.mem_of_getElem? hj)
theorem zLs_put {nL n : Nat} {L : List (Nat × zV)} {ad : Int → Nat} {ls ls' : Array Slot} (h : zLs nL n L ad ls) {i : Nat} {v : zV} (hv : zcV n v) (h' : lv_has ls' nL ((i, zc ad v) :: (L.map (fun q => (q.1, zc ad q.2))).filter (fun q => !(q.1 == i) && !(q.1 + 1 == i && q.2.category == 2)))) : zLs nL n (zput i v L) ad ls' := by
  refine ⟨lv_mono h' fun q hq => ?_, fun q hq => ?_⟩
  · obtain ⟨q0, h0, rfl⟩ := List.mem_map.mp hq
    rcases zins_mem h0 with h0 | h0
    · subst h0; exact List.mem_cons_self
    · obtain ⟨h1, h2⟩ := List.mem_filter.mp h0
      refine List.mem_cons_of_mem _ (List.mem_filter.mpr ⟨List.mem_map.mpr ⟨q0, h1, rfl⟩, ?_⟩)
      show (!(q0.1 == i) && !(q0.1 + 1 == i && (zc ad q0.2).category == 2)) = true
      rw [zcat_of]; exact h2
  · rcases zins_mem hq with h0 | h0
    · subst h0; exact hv
    · exact h.2 q (List.mem_filter.mp h0).1
theorem zLs_put2 {nL n : Nat} {L : List (Nat × zV)} {ad : Int → Nat} {ls ls' : Array Slot} (h : zLs nL n L ad ls) {i : Nat} {v : zV} (hv : zcV n v) (h' : lv_has ls' nL ((i, zc ad v) :: (L.map (fun q => (q.1, zc ad q.2))).filter (fun q => !(q.1 == i) && (!(q.1 == i + 1) && !(q.1 + 1 == i && q.2.category == 2))))) : zLs nL n (zput2 i v L) ad ls' := by
  refine ⟨lv_mono h' fun q hq => ?_, fun q hq => ?_⟩
  · obtain ⟨q0, h0, rfl⟩ := List.mem_map.mp hq
    rcases zins_mem h0 with h0 | h0
    · subst h0; exact List.mem_cons_self
    · obtain ⟨h1, h2⟩ := List.mem_filter.mp h0
      refine List.mem_cons_of_mem _ (List.mem_filter.mpr ⟨List.mem_map.mpr ⟨q0, h1, rfl⟩, ?_⟩)
      show (!(q0.1 == i) && (!(q0.1 == i + 1) && !(q0.1 + 1 == i && (zc ad q0.2).category == 2))) = true
      rw [zcat_of]; exact h2
  · rcases zins_mem hq with h0 | h0
    · subst h0; exact hv
    · exact h.2 q (List.mem_filter.mp h0).1
section
variable {y : zM} {d : Nat} {Q : zPost} {b : Nat × Nat} {S : List zSh} {pc : Nat} {L : List (Nat × zV)} {st : List zV} {M : zMm}
theorem zStep {pc' : Nat} {st0 st' : List zV} (h : ∀ (p : Program) (l : Launch) (e : Env) (R : Room) (s : State) (m : MethodId) (args : Array Value) (below : List Frame) (meth : Method) (c : Code) (Z : State → Prop) (ad : Int → Nat) (H : Heap) (locs : List Loc) (cells slots : Nat) (ls : Array Slot), p.tables.exec = Jvm.exec → c.code = y.2.1 → (s.vm.findClass y.1.cls = some m.cls ∧ ∀ w ∈ zTb, w.before args s = true) → zLs y.2.2.1 S.length L ad ls → (∀ v ∈ st0, zcV S.length v) → W p l e R s m args below meth c H locs cells slots Z (F0 m pc' ls (st'.map (zc ad))) → W p l e R s m args below meth c H locs cells slots Z (F0 m pc ls (st0.map (zc ad))))
    (hc : (∀ q ∈ L, zcV S.length q.2) → (∀ v ∈ st0, zcV S.length v) → ∀ v ∈ st', zcV S.length v) (k : zW y d Q b S pc' L st' M) : zW y d Q b S pc L st0 M :=
  fun p l e R s m args below meth c D cA ad0 n0 Mn A Z hE hR ad H locs cells slots ls hW hL hs =>
    h p l e R s m args below meth c Z ad H locs cells slots ls hE.1 hE.2.1 ⟨hE.2.2.2.1, hE.2.2.2.2.1⟩ hL hs (k p l e R s m args below meth c D cA ad0 n0 Mn A Z hE hR ad H locs cells slots ls hW hL (hc hL.2 hs))
theorem zStoreG {pc' : Nat} {L' : List (Nat × zV)} {st0 st' : List zV} (h : ∀ (p : Program) (l : Launch) (e : Env) (R : Room) (s : State) (m : MethodId) (args : Array Value) (below : List Frame) (meth : Method) (c : Code) (Z : State → Prop) (ad : Int → Nat) (H : Heap) (locs : List Loc) (cells slots : Nat) (ls : Array Slot), p.tables.exec = Jvm.exec → c.code = y.2.1 → zLs y.2.2.1 S.length L ad ls → (∀ v ∈ st0, zcV S.length v) → (∀ ls', zLs y.2.2.1 S.length L' ad ls' → W p l e R s m args below meth c H locs cells slots Z (F0 m pc' ls' (st'.map (zc ad)))) → W p l e R s m args below meth c H locs cells slots Z (F0 m pc ls (st0.map (zc ad))))
    (hc : (∀ v ∈ st0, zcV S.length v) → ∀ v ∈ st', zcV S.length v) (k : zW y d Q b S pc' L' st' M) : zW y d Q b S pc L st0 M :=
  fun p l e R s m args below meth c D cA ad0 n0 Mn A Z hE hR ad H locs cells slots ls hW hL hs =>
    h p l e R s m args below meth c Z ad H locs cells slots ls hE.1 hE.2.1 hL hs (fun ls' hL' => k p l e R s m args below meth c D cA ad0 n0 Mn A Z hE hR ad H locs cells slots ls' hW hL' (hc hs))
/-- what the walk knows of its numbers -/
theorem z_can (k : zcM S M → (∀ q ∈ L, zcV S.length q.2) → (∀ v ∈ st, zcV S.length v) → zW y d Q b S pc L st M) : zW y d Q b S pc L st M :=
  fun p l e R s m args below meth c D cA ad0 n0 Mn A Z hE hR ad H locs cells slots ls hW hL hs => k hW.2.2.2.2.2.2.2.2 hL.2 hs p l e R s m args below meth c D cA ad0 n0 Mn A Z hE hR ad H locs cells slots ls hW hL hs
theorem z_cM (k : zcM S M → zW y d Q b S pc L st M) : zW y d Q b S pc L st M := z_can fun h _ _ => k h
/-- fewer locals -/
theorem z_weak {L' : List (Nat × zV)} (h : ∀ q ∈ L', q ∈ L) (k : zW y d Q b S pc L' st M) : zW y d Q b S pc L st M :=
  fun p l e R s m args below meth c D cA ad0 n0 Mn A Z hE hR ad H locs cells slots ls hW hL hs => k p l e R s m args below meth c D cA ad0 n0 Mn A Z hE hR ad H locs cells slots ls hW ⟨lv_mono hL.1 fun q hq => by
    obtain ⟨q0, h0, rfl⟩ := List.mem_map.mp hq
    exact List.mem_map.mpr ⟨q0, h q0 h0, rfl⟩, fun q hq => hL.2 q (h q hq)⟩ hs
theorem z_mono {Q' : zPost} (h : ∀ rv S' M', Q' rv S' M' → Q rv S' M') (k : zW y d Q' b S pc L st M) : zW y d Q b S pc L st M :=
  fun p l e R s m args below meth c D cA ad0 n0 Mn A Z hE hR => k p l e R s m args below meth c D cA ad0 n0 Mn A Z hE (fun rv S' M' ad H locs cells slots pc ls hw hv hq => hR rv S' M' ad H locs cells slots pc ls hw hv (h _ _ _ hq))
theorem z_deep {d' : Nat} (hd : d' ≤ d) (k : zW y d' Q b S pc L st M) : zW y d Q b S pc L st M :=
  fun p l e R s m args below meth c D cA ad0 n0 Mn A Z hE hR => k p l e R s m args below meth c D cA ad0 n0 Mn A Z ⟨hE.1, hE.2.1, hE.2.2.1, hE.2.2.2.1, hE.2.2.2.2.1, Nat.le_trans hd hE.2.2.2.2.2.1, Nat.le_trans (Nat.mul_le_mul_left 40 hd) hE.2.2.2.2.2.2.1, hE.2.2.2.2.2.2.2⟩ hR
theorem zc_hd {n : Nat} {v : zV} {l : List zV} (h : ∀ w ∈ v :: l, zcV n w) : zcV n v := h v List.mem_cons_self
theorem zc_tl {n : Nat} {v : zV} {l : List zV} (h : ∀ w ∈ v :: l, zcV n w) : ∀ w ∈ l, zcV n w := fun w hw => h w (List.mem_cons_of_mem _ hw)
theorem zc_cons {n : Nat} {v : zV} {l : List zV} (hv : zcV n v) (h : ∀ w ∈ l, zcV n w) : ∀ w ∈ v :: l, zcV n w := List.forall_mem_cons.mpr ⟨hv, h⟩

theorem z_iconst (n : Int) (hd : decode y.2.1 pc = .ok (.iconst n, 1)) (hn : -128 ≤ n ∧ n < 128) (kk : zW y d Q b S (pc + 1) L (.inl n :: st) M) : zW y d Q b S pc L st M :=
  zStep (st0 := st) (st' := (.inl n :: st)) (fun p l e R s m args below meth c Z ad H locs cells slots ls hx hb ho hL hs k => lv_iconst hx hb hd rfl k) (fun hQ hs => zc_cons (show z32 n by unfold z32; omega) hs) kk
theorem zi8 {n : Int} (h : -128 ≤ n ∧ n < 128) : (Int8.ofInt n).toInt32 = Int32.ofInt n := by
  apply Int32.toInt_inj.mp
  rw [Int8.toInt_toInt32, Int8.toInt_ofInt_of_le (by omega) (by omega), zi_to (by unfold z32; omega)]
theorem zi16 {n : Int} (h : -32768 ≤ n ∧ n < 32768) : (Int16.ofInt n).toInt32 = Int32.ofInt n := by
  apply Int32.toInt_inj.mp
  rw [Int16.toInt_toInt32, Int16.toInt_ofInt_of_le (by omega) (by omega), zi_to (by unfold z32; omega)]
theorem z_bipush (n : Int) (hd : decode y.2.1 pc = .ok (.bipush n, 2)) (hn : -128 ≤ n ∧ n < 128) (kk : zW y d Q b S (pc + 2) L (.inl n :: st) M) : zW y d Q b S pc L st M :=
  zStep (st0 := st) (st' := (.inl n :: st)) (fun p l e R s m args below meth c Z ad H locs cells slots ls hx hb ho hL hs k => lv_bipush hx hb hd (zi8 hn) k) (fun hQ hs => zc_cons (show z32 n by unfold z32; omega) hs) kk
theorem z_sipush (n : Int) (hd : decode y.2.1 pc = .ok (.sipush n, 3)) (hn : -32768 ≤ n ∧ n < 32768) (kk : zW y d Q b S (pc + 3) L (.inl n :: st) M) : zW y d Q b S pc L st M :=
  zStep (st0 := st) (st' := (.inl n :: st)) (fun p l e R s m args below meth c Z ad H locs cells slots ls hx hb ho hL hs k => lv_sipush hx hb hd (zi16 hn) k) (fun hQ hs => zc_cons (show z32 n by unfold z32; omega) hs) kk
theorem z_lconst {n : Fin 2} (v : Int) (hd : decode y.2.1 pc = .ok (.lconst n, 1)) (hn : v = ((n : Nat) : Int)) (kk : zW y d Q b S (pc + 1) L (.inr (.inl v) :: st) M) : zW y d Q b S pc L st M :=
  zStep (st0 := st) (st' := (.inr (.inl v) :: st)) (fun p l e R s m args below meth c Z ad H locs cells slots ls hx hb ho hL hs k => lv_lconst hx hb hd (by rw [hn]; exact Int64.ofInt_eq_ofNat.symm) k) (fun hQ hs => zc_cons (show z64 v by have := n.isLt; unfold z64; omega) hs) kk
theorem z_ldc {idx : Nat} {w : Int32} (n : Int) (hd : decode y.2.1 pc = .ok (.ldc idx, 2)) (hw : Cond.constant y.1.cls idx w ∈ lw_tbl) (hn : Int32.ofInt n = w) (h32 : z32 n) (kk : zW y d Q b S (pc + 2) L (.inl n :: st) M) : zW y d Q b S pc L st M :=
  zStep (st0 := st) (st' := (.inl n :: st)) (fun p l e R s m args below meth c Z ad H locs cells slots ls hx hb ho hL hs k => lv_ldc hx hb ho.1 (ho.2 _ (zT hw rfl)) hd (by subst hn; exact k)) (fun hQ hs => zc_cons h32 hs) kk
theorem z_ldcw {idx : Nat} {w : Int32} (n : Int) (hd : decode y.2.1 pc = .ok (.ldc_w idx, 3)) (hw : Cond.constant y.1.cls idx w ∈ lw_tbl) (hn : Int32.ofInt n = w) (h32 : z32 n) (kk : zW y d Q b S (pc + 3) L (.inl n :: st) M) : zW y d Q b S pc L st M :=
  zStep (st0 := st) (st' := (.inl n :: st)) (fun p l e R s m args below meth c Z ad H locs cells slots ls hx hb ho hL hs k => lv_ldcw hx hb ho.1 (ho.2 _ (zT hw rfl)) hd (by subst hn; exact k)) (fun hQ hs => zc_cons h32 hs) kk
theorem z_ldc2 {idx : Nat} {w : Int64} (n : Int) (hd : decode y.2.1 pc = .ok (.ldc2_w idx, 3)) (hw : Cond.constantLong y.1.cls idx w ∈ lw_tbl) (hn : Int64.ofInt n = w) (h64 : z64 n) (kk : zW y d Q b S (pc + 3) L (.inr (.inl n) :: st) M) : zW y d Q b S pc L st M :=
  zStep (st0 := st) (st' := (.inr (.inl n) :: st)) (fun p l e R s m args below meth c Z ad H locs cells slots ls hx hb ho hL hs k => lv_ldc2 hx hb ho.1 (ho.2 _ (zT hw rfl)) hd (by subst hn; exact k)) (fun hQ hs => zc_cons h64 hs) kk
theorem z_iload_n (j : Nat) {kf : Fin 4} {i : Nat} {x : Int} (hd : decode y.2.1 pc = .ok (.iload_n kf, 1)) (hi : (kf : Nat) = i) (hl : L[j]? = some (i, (.inl x))) (kk : zW y d Q b S (pc + 1) L ((.inl x) :: st) M) : zW y d Q b S pc L st M :=
  zStep (st0 := st) (st' := ((.inl x) :: st)) (fun p l e R s m args below meth c Z ad H locs cells slots ls hx hb ho hL hs k => lv_iload_n hx hb hd hi (zLs_at hL hl) k) (fun hQ hs => zc_cons (hQ _ (List.mem_of_getElem? hl)) hs) kk
theorem z_iload (j : Nat) {i : Nat} {x : Int} (hd : decode y.2.1 pc = .ok (.iload i, 2)) (hl : L[j]? = some (i, (.inl x))) (kk : zW y d Q b S (pc + 2) L ((.inl x) :: st) M) : zW y d Q b S pc L st M :=
  zStep (st0 := st) (st' := ((.inl x) :: st)) (fun p l e R s m args below meth c Z ad H locs cells slots ls hx hb ho hL hs k => lv_iload hx hb hd (zLs_at hL hl) k) (fun hQ hs => zc_cons (hQ _ (List.mem_of_getElem? hl)) hs) kk
theorem z_lload_n (j : Nat) {kf : Fin 4} {i : Nat} {x : Int} (hd : decode y.2.1 pc = .ok (.lload_n kf, 1)) (hi : (kf : Nat) = i) (hl : L[j]? = some (i, (.inr (.inl x)))) (kk : zW y d Q b S (pc + 1) L ((.inr (.inl x)) :: st) M) : zW y d Q b S pc L st M :=
  zStep (st0 := st) (st' := ((.inr (.inl x)) :: st)) (fun p l e R s m args below meth c Z ad H locs cells slots ls hx hb ho hL hs k => lv_lload_n hx hb hd hi (zLs_at hL hl) k) (fun hQ hs => zc_cons (hQ _ (List.mem_of_getElem? hl)) hs) kk
theorem z_lload (j : Nat) {i : Nat} {x : Int} (hd : decode y.2.1 pc = .ok (.lload i, 2)) (hl : L[j]? = some (i, (.inr (.inl x)))) (kk : zW y d Q b S (pc + 2) L ((.inr (.inl x)) :: st) M) : zW y d Q b S pc L st M :=
  zStep (st0 := st) (st' := ((.inr (.inl x)) :: st)) (fun p l e R s m args below meth c Z ad H locs cells slots ls hx hb ho hL hs k => lv_lload hx hb hd (zLs_at hL hl) k) (fun hQ hs => zc_cons (hQ _ (List.mem_of_getElem? hl)) hs) kk
theorem zrf_ne {ad : Int → Nat} {r : Int} (h : r ≠ -1) : zrf ad r = .ref (ad r) := by unfold zrf; rw [if_neg h]
theorem z_aload_n (j : Nat) {kf : Fin 4} {i : Nat} {x : Int} (hd : decode y.2.1 pc = .ok (.aload_n kf, 1)) (hi : (kf : Nat) = i) (hl : L[j]? = some (i, .inr (.inr x))) (hx1 : x ≠ -1) (kk : zW y d Q b S (pc + 1) L (.inr (.inr x) :: st) M) : zW y d Q b S pc L st M :=
  zStep (st0 := st) (st' := (.inr (.inr x) :: st)) (fun p l e R s m args below meth c Z ad H locs cells slots ls hx hb ho hL hs k => lv_aload_n (x := ad x) hx hb hd hi (by rw [zLs_at hL hl]; show some (Slot.val (zrf ad x)) = _; rw [zrf_ne hx1]) (by rw [List.map_cons] at k; rw [show zc ad (.inr (.inr x)) = .ref (ad x) from zrf_ne hx1] at k; exact k)) (fun hQ hs => zc_cons (hQ _ (List.mem_of_getElem? hl)) hs) kk
theorem z_aload (j : Nat) {i : Nat} {x : Int} (hd : decode y.2.1 pc = .ok (.aload i, 2)) (hl : L[j]? = some (i, .inr (.inr x))) (hx1 : x ≠ -1) (kk : zW y d Q b S (pc + 2) L (.inr (.inr x) :: st) M) : zW y d Q b S pc L st M :=
  zStep (st0 := st) (st' := (.inr (.inr x) :: st)) (fun p l e R s m args below meth c Z ad H locs cells slots ls hx hb ho hL hs k => lv_aload (x := ad x) hx hb hd (by rw [zLs_at hL hl]; show some (Slot.val (zrf ad x)) = _; rw [zrf_ne hx1]) (by rw [List.map_cons] at k; rw [show zc ad (.inr (.inr x)) = .ref (ad x) from zrf_ne hx1] at k; exact k)) (fun hQ hs => zc_cons (hQ _ (List.mem_of_getElem? hl)) hs) kk
theorem z_istore_n {L' : List (Nat × zV)} {kf : Fin 4} {i : Nat} {x : Int} (hd : decode y.2.1 pc = .ok (.istore_n kf, 1)) (hi : (kf : Nat) = i) (hL' : zput i (.inl x) L = L') (hn : i < y.2.2.1) (kk : zW y d Q b S (pc + 1) L' st M) : zW y d Q b S pc L ((.inl x) :: st) M :=
  zStoreG (st0 := ((.inl x) :: st)) (st' := st) (fun p l e R s m args below meth c Z ad H locs cells slots ls hx hb hL hs k => lv_istore_n hx hb hd hi hL.1 hn rfl (fun ls' h' => k ls' (by rw [← hL']; exact zLs_put hL (zc_hd hs) h'))) zc_tl kk
theorem z_istore {L' : List (Nat × zV)} {i : Nat} {x : Int} (hd : decode y.2.1 pc = .ok (.istore i, 2)) (hL' : zput i (.inl x) L = L') (hn : i < y.2.2.1) (kk : zW y d Q b S (pc + 2) L' st M) : zW y d Q b S pc L ((.inl x) :: st) M :=
  zStoreG (st0 := ((.inl x) :: st)) (st' := st) (fun p l e R s m args below meth c Z ad H locs cells slots ls hx hb hL hs k => lv_istore hx hb hd hL.1 hn rfl (fun ls' h' => k ls' (by rw [← hL']; exact zLs_put hL (zc_hd hs) h'))) zc_tl kk
theorem z_lstore_n {L' : List (Nat × zV)} {kf : Fin 4} {i : Nat} {x : Int} (hd : decode y.2.1 pc = .ok (.lstore_n kf, 1)) (hi : (kf : Nat) = i) (hL' : zput2 i (.inr (.inl x)) L = L') (hn : i + 1 < y.2.2.1) (kk : zW y d Q b S (pc + 1) L' st M) : zW y d Q b S pc L (.inr (.inl x) :: st) M :=
  zStoreG (fun p l e R s m args below meth c Z ad H locs cells slots ls hx hb hL hs k => lv_lstore_n hx hb hd hi hL.1 hn rfl (fun ls' h' => k ls' (by rw [← hL']; exact zLs_put2 hL (zc_hd hs) h'))) zc_tl kk
theorem z_lstore {L' : List (Nat × zV)} {i : Nat} {x : Int} (hd : decode y.2.1 pc = .ok (.lstore i, 2)) (hL' : zput2 i (.inr (.inl x)) L = L') (hn : i + 1 < y.2.2.1) (kk : zW y d Q b S (pc + 2) L' st M) : zW y d Q b S pc L (.inr (.inl x) :: st) M :=
  zStoreG (fun p l e R s m args below meth c Z ad H locs cells slots ls hx hb hL hs k => lv_lstore hx hb hd hL.1 hn rfl (fun ls' h' => k ls' (by rw [← hL']; exact zLs_put2 hL (zc_hd hs) h'))) zc_tl kk
theorem z_astore_n {L' : List (Nat × zV)} {kf : Fin 4} {i : Nat} {x : Int} (hd : decode y.2.1 pc = .ok (.astore_n kf, 1)) (hi : (kf : Nat) = i) (hx1 : x ≠ -1) (hL' : zput i (.inr (.inr x)) L = L') (hn : i < y.2.2.1) (kk : zW y d Q b S (pc + 1) L' st M) : zW y d Q b S pc L (.inr (.inr x) :: st) M :=
  zStoreG (fun p l e R s m args below meth c Z ad H locs cells slots ls hx hb hL hs k => by
    rw [List.map_cons, show zc ad (.inr (.inr x)) = .ref (ad x) from zrf_ne hx1]
    exact lv_astore_n hx hb hd hi hL.1 hn rfl (fun ls' h' => k ls' (by rw [← hL']; exact zLs_put hL (zc_hd hs) (by rw [show zc ad (.inr (.inr x)) = .ref (ad x) from zrf_ne hx1]; exact h')))) zc_tl kk
theorem z_iinc {L' : List (Nat × zV)} (j : Nat) {i : Nat} {n x : Int} (hd : decode y.2.1 pc = .ok (.iinc i n, 3)) (hl : L[j]? = some (i, .inl x)) (hr : z32 (x + n)) (hL' : zput i (.inl (x + n)) L = L') (hn : i < y.2.2.1) (kk : zW y d Q b S (pc + 3) L' st M) : zW y d Q b S pc L st M :=
  zStoreG (fun p l e R s m args below meth c Z ad H locs cells slots ls hx hb hL hs k => lv_iinc (v := Int32.ofInt (x + n)) (k := j) hx hb hd hL.1 (by rw [List.getElem?_map, hl]; rfl) (Int32.ofInt_add x n).symm hn rfl (fun ls' h' => k ls' (by rw [← hL']; exact zLs_put hL (v := .inl (x + n)) hr h'))) (fun h => h) kk
theorem z_iaddw {x x' : Int} (hd : decode y.2.1 pc = .ok (.iadd, 1)) (kk : zW y d Q b S (pc + 1) L (.inl (zw (x + x')) :: st) M) : zW y d Q b S pc L (.inl x' :: .inl x :: st) M :=
  zStep (st0 := (.inl x' :: .inl x :: st)) (st' := (.inl (zw (x + x')) :: st)) (fun p l e R s m args below meth c Z ad H locs cells slots ls hx hb ho hL hs k => lv_iadd hx hb hd (by rw [List.map_cons] at k; rw [show zc ad (.inl (zw (x + x'))) = .int (Int32.ofInt x + Int32.ofInt x') from congrArg Value.int ((zi_ofw _).trans (Int32.ofInt_add _ _))] at k; exact k)) (fun hQ hs => zc_cons (zw_32 _) (zc_tl (zc_tl hs))) kk
theorem z_iadd {x x' : Int} (hd : decode y.2.1 pc = .ok (.iadd, 1)) (hr : z32 (x + x')) (kk : zW y d Q b S (pc + 1) L (.inl (x + x') :: st) M) : zW y d Q b S pc L (.inl x' :: .inl x :: st) M := z_iaddw hd (by rw [zw_id hr]; exact kk)
theorem z_isubw {x x' : Int} (hd : decode y.2.1 pc = .ok (.isub, 1)) (kk : zW y d Q b S (pc + 1) L (.inl (zw (x - x')) :: st) M) : zW y d Q b S pc L (.inl x' :: .inl x :: st) M :=
  zStep (st0 := (.inl x' :: .inl x :: st)) (st' := (.inl (zw (x - x')) :: st)) (fun p l e R s m args below meth c Z ad H locs cells slots ls hx hb ho hL hs k => lv_isub hx hb hd (by rw [List.map_cons] at k; rw [show zc ad (.inl (zw (x - x'))) = .int (Int32.ofInt x - Int32.ofInt x') from congrArg Value.int ((zi_ofw _).trans (Int32.ofInt_sub _ _))] at k; exact k)) (fun hQ hs => zc_cons (zw_32 _) (zc_tl (zc_tl hs))) kk
theorem z_isub {x x' : Int} (hd : decode y.2.1 pc = .ok (.isub, 1)) (hr : z32 (x - x')) (kk : zW y d Q b S (pc + 1) L (.inl (x - x') :: st) M) : zW y d Q b S pc L (.inl x' :: .inl x :: st) M := z_isubw hd (by rw [zw_id hr]; exact kk)
theorem z_imulw {x x' : Int} (hd : decode y.2.1 pc = .ok (.imul, 1)) (kk : zW y d Q b S (pc + 1) L (.inl (zw (x * x')) :: st) M) : zW y d Q b S pc L (.inl x' :: .inl x :: st) M :=
  zStep (st0 := (.inl x' :: .inl x :: st)) (st' := (.inl (zw (x * x')) :: st)) (fun p l e R s m args below meth c Z ad H locs cells slots ls hx hb ho hL hs k => lv_imul hx hb hd (by rw [List.map_cons] at k; rw [show zc ad (.inl (zw (x * x'))) = .int (Int32.ofInt x * Int32.ofInt x') from congrArg Value.int ((zi_ofw _).trans (Int32.ofInt_mul _ _))] at k; exact k)) (fun hQ hs => zc_cons (zw_32 _) (zc_tl (zc_tl hs))) kk
theorem z_imul {x x' : Int} (hd : decode y.2.1 pc = .ok (.imul, 1)) (hr : z32 (x * x')) (kk : zW y d Q b S (pc + 1) L (.inl (x * x') :: st) M) : zW y d Q b S pc L (.inl x' :: .inl x :: st) M := z_imulw hd (by rw [zw_id hr]; exact kk)
theorem z_inegw {x : Int} (hd : decode y.2.1 pc = .ok (.ineg, 1)) (kk : zW y d Q b S (pc + 1) L (.inl (zw (-x)) :: st) M) : zW y d Q b S pc L (.inl x :: st) M :=
  zStep (st0 := (.inl x :: st)) (st' := (.inl (zw (-x)) :: st)) (fun p l e R s m args below meth c Z ad H locs cells slots ls hx hb ho hL hs k => lv_ineg hx hb hd (by rw [List.map_cons] at k; rw [show zc ad (.inl (zw (-x))) = .int (-Int32.ofInt x) from congrArg Value.int ((zi_ofw _).trans (Int32.ofInt_neg _))] at k; exact k)) (fun hQ hs => zc_cons (zw_32 _) (zc_tl hs)) kk
theorem z_ineg {x : Int} (hd : decode y.2.1 pc = .ok (.ineg, 1)) (hr : z32 (-x)) (kk : zW y d Q b S (pc + 1) L (.inl (-x) :: st) M) : zW y d Q b S pc L (.inl x :: st) M := z_inegw hd (by rw [zw_id hr]; exact kk)
theorem zi_div {x x' : Int} (h : z32 x) (h' : z32 x') : Int32.ofInt (zw (x.tdiv x')) = Int32.ofInt x / Int32.ofInt x' := by
  rw [zi_ofw]
  apply Int32.toInt_inj.mp
  rw [Int32.toInt_div, zi_to h, zi_to h', Int32.toInt_ofInt]
theorem zi_mod {x x' : Int} (h : z32 x) (h' : z32 x') : Int32.ofInt (zw (x.tmod x')) = Int32.ofInt x % Int32.ofInt x' := by
  rw [zi_ofw]
  apply Int32.toInt_inj.mp
  rw [Int32.toInt_mod, zi_to h, zi_to h', ← zi_to h, ← zi_to h', ← Int32.toInt_mod, Int32.ofInt_toInt]
theorem zi_ne0 {x : Int} (h : z32 x) (hn : x ≠ 0) : ¬ Int32.ofInt x = 0 := fun e => hn ((zi_inj h (by unfold z32; omega)).mp e)
theorem z_idivw {x x' : Int} (hd : decode y.2.1 pc = .ok (.idiv, 1)) (hn : x' ≠ 0) (kk : zW y d Q b S (pc + 1) L (.inl (zw (x.tdiv x')) :: st) M) : zW y d Q b S pc L (.inl x' :: .inl x :: st) M :=
  zStep (st0 := (.inl x' :: .inl x :: st)) (st' := (.inl (zw (x.tdiv x')) :: st)) (fun p l e R s m args below meth c Z ad H locs cells slots ls hx hb ho hL hs k => lv_idiv hx hb hd (zi_ne0 (zc_hd hs) hn) (by rw [List.map_cons] at k; rw [show zc ad (.inl (zw (x.tdiv x'))) = .int (Int32.ofInt x / Int32.ofInt x') from congrArg Value.int (zi_div (zc_hd (zc_tl hs)) (zc_hd hs))] at k; exact k)) (fun hQ hs => zc_cons (zw_32 _) (zc_tl (zc_tl hs))) kk
theorem z_iremw {x x' : Int} (hd : decode y.2.1 pc = .ok (.irem, 1)) (hn : x' ≠ 0) (kk : zW y d Q b S (pc + 1) L (.inl (zw (x.tmod x')) :: st) M) : zW y d Q b S pc L (.inl x' :: .inl x :: st) M :=
  zStep (st0 := (.inl x' :: .inl x :: st)) (st' := (.inl (zw (x.tmod x')) :: st)) (fun p l e R s m args below meth c Z ad H locs cells slots ls hx hb ho hL hs k => lv_irem hx hb hd (zi_ne0 (zc_hd hs) hn) (by rw [List.map_cons] at k; rw [show zc ad (.inl (zw (x.tmod x'))) = .int (Int32.ofInt x - Int32.ofInt x / Int32.ofInt x' * Int32.ofInt x') from congrArg Value.int ((zi_mod (zc_hd (zc_tl hs)) (zc_hd hs)).trans (irem_eq_mod _ _).symm)] at k; exact k)) (fun hQ hs => zc_cons (zw_32 _) (zc_tl (zc_tl hs))) kk
def zand (x x' : Int) : Int := (Int32.ofInt x &&& Int32.ofInt x').toInt
def zor (x x' : Int) : Int := (Int32.ofInt x ||| Int32.ofInt x').toInt
def zxor (x x' : Int) : Int := (Int32.ofInt x ^^^ Int32.ofInt x').toInt
def zshl (x x' : Int) : Int := (Int32.ofInt x <<< (Int32.ofInt x' &&& 31)).toInt
def zshr (x x' : Int) : Int := (Int32.ofInt x >>> (Int32.ofInt x' &&& 31)).toInt
def zushr (x x' : Int) : Int := ((Int32.ofInt x).toUInt32 >>> ((Int32.ofInt x').toUInt32 &&& Int32.toUInt32 31)).toInt32.toInt
def zi2b (x : Int) : Int := (Int32.ofInt x).toInt8.toInt32.toInt
def zi2s (x : Int) : Int := (Int32.ofInt x).toInt16.toInt32.toInt
def zlw (x : Int) : Int := (x + 9223372036854775808) % 18446744073709551616 - 9223372036854775808
def zland (x x' : Int) : Int := (Int64.ofInt x &&& Int64.ofInt x').toInt
def zlor (x x' : Int) : Int := (Int64.ofInt x ||| Int64.ofInt x').toInt
def zlshl (x x' : Int) : Int := (Int64.ofInt x <<< ((Int32.ofInt x').toInt64 &&& 63)).toInt
def zlshr (x x' : Int) : Int := (Int64.ofInt x >>> ((Int32.ofInt x').toInt64 &&& 63)).toInt
def zlushr (x x' : Int) : Int := ((Int64.ofInt x).toUInt64 >>> ((Int32.ofInt x').toInt64.toUInt64 &&& Int64.toUInt64 63)).toInt64.toInt
def zcmp (x x' : Int) : Int := if x > x' then 1 else if x = x' then 0 else -1
theorem zi_of (v : Int32) : Value.int (Int32.ofInt v.toInt) = .int v := congrArg Value.int (Int32.ofInt_toInt v)
theorem zl_of (v : Int64) : Value.long (Int64.ofInt v.toInt) = .long v := congrArg Value.long (Int64.ofInt_toInt v)
theorem zlw_id {x : Int} (h : z64 x) : zlw x = x := by unfold z64 at h; unfold zlw; omega
theorem zlw_64 (x : Int) : z64 (zlw x) := by unfold z64 zlw; omega
theorem zl_w (x : Int) : (Int64.ofInt x).toInt = zlw x := by
  rw [Int64.toInt_ofInt]
  have h := Int.bmod_def x Int64.size
  rw [h]
  show _ = (x + 9223372036854775808) % 18446744073709551616 - 9223372036854775808
  have e : ((Int64.size : Nat) : Int) = 18446744073709551616 := by decide
  rw [e]
  split <;> omega
theorem zl_ofw (x : Int) : Int64.ofInt (zlw x) = Int64.ofInt x := by rw [← zl_w, Int64.ofInt_toInt]
theorem z_iand {x x' : Int} (hd : decode y.2.1 pc = .ok (.iand, 1)) (kk : zW y d Q b S (pc + 1) L (.inl (zand x x') :: st) M) : zW y d Q b S pc L (.inl x' :: .inl x :: st) M :=
  zStep (st0 := (.inl x' :: .inl x :: st)) (st' := (.inl (zand x x') :: st)) (fun p l e R s m args below meth c Z ad H locs cells slots ls hx hb ho hL hs k => lv_iand hx hb hd (by rw [List.map_cons] at k; rw [show zc ad (.inl (zand x x')) = _ from zi_of _] at k; exact k)) (fun hQ hs => zc_cons (z32_of _) (zc_tl (zc_tl hs))) kk
theorem z_ior {x x' : Int} (hd : decode y.2.1 pc = .ok (.ior, 1)) (kk : zW y d Q b S (pc + 1) L (.inl (zor x x') :: st) M) : zW y d Q b S pc L (.inl x' :: .inl x :: st) M :=
  zStep (st0 := (.inl x' :: .inl x :: st)) (st' := (.inl (zor x x') :: st)) (fun p l e R s m args below meth c Z ad H locs cells slots ls hx hb ho hL hs k => lv_ior hx hb hd (by rw [List.map_cons] at k; rw [show zc ad (.inl (zor x x')) = _ from zi_of _] at k; exact k)) (fun hQ hs => zc_cons (z32_of _) (zc_tl (zc_tl hs))) kk
theorem z_ixor {x x' : Int} (hd : decode y.2.1 pc = .ok (.ixor, 1)) (kk : zW y d Q b S (pc + 1) L (.inl (zxor x x') :: st) M) : zW y d Q b S pc L (.inl x' :: .inl x :: st) M :=
  zStep (st0 := (.inl x' :: .inl x :: st)) (st' := (.inl (zxor x x') :: st)) (fun p l e R s m args below meth c Z ad H locs cells slots ls hx hb ho hL hs k => lv_ixor hx hb hd (by rw [List.map_cons] at k; rw [show zc ad (.inl (zxor x x')) = _ from zi_of _] at k; exact k)) (fun hQ hs => zc_cons (z32_of _) (zc_tl (zc_tl hs))) kk
theorem z_ishl {x x' : Int} (hd : decode y.2.1 pc = .ok (.ishl, 1)) (kk : zW y d Q b S (pc + 1) L (.inl (zshl x x') :: st) M) : zW y d Q b S pc L (.inl x' :: .inl x :: st) M :=
  zStep (st0 := (.inl x' :: .inl x :: st)) (st' := (.inl (zshl x x') :: st)) (fun p l e R s m args below meth c Z ad H locs cells slots ls hx hb ho hL hs k => lv_ishl hx hb hd (by rw [List.map_cons] at k; rw [show zc ad (.inl (zshl x x')) = _ from zi_of _] at k; exact k)) (fun hQ hs => zc_cons (z32_of _) (zc_tl (zc_tl hs))) kk
theorem z_ishr {x x' : Int} (hd : decode y.2.1 pc = .ok (.ishr, 1)) (kk : zW y d Q b S (pc + 1) L (.inl (zshr x x') :: st) M) : zW y d Q b S pc L (.inl x' :: .inl x :: st) M :=
  zStep (st0 := (.inl x' :: .inl x :: st)) (st' := (.inl (zshr x x') :: st)) (fun p l e R s m args below meth c Z ad H locs cells slots ls hx hb ho hL hs k => lv_ishr hx hb hd (by rw [List.map_cons] at k; rw [show zc ad (.inl (zshr x x')) = _ from zi_of _] at k; exact k)) (fun hQ hs => zc_cons (z32_of _) (zc_tl (zc_tl hs))) kk
theorem z_iushr {x x' : Int} (hd : decode y.2.1 pc = .ok (.iushr, 1)) (kk : zW y d Q b S (pc + 1) L (.inl (zushr x x') :: st) M) : zW y d Q b S pc L (.inl x' :: .inl x :: st) M :=
  zStep (st0 := (.inl x' :: .inl x :: st)) (st' := (.inl (zushr x x') :: st)) (fun p l e R s m args below meth c Z ad H locs cells slots ls hx hb ho hL hs k => lv_iushr hx hb hd rfl (by rw [List.map_cons] at k; rw [show zc ad (.inl (zushr x x')) = _ from zi_of _] at k; exact k)) (fun hQ hs => zc_cons (z32_of _) (zc_tl (zc_tl hs))) kk
theorem z_i2b {x : Int} (hd : decode y.2.1 pc = .ok (.i2b, 1)) (kk : zW y d Q b S (pc + 1) L (.inl (zi2b x) :: st) M) : zW y d Q b S pc L (.inl x :: st) M :=
  zStep (st0 := (.inl x :: st)) (st' := (.inl (zi2b x) :: st)) (fun p l e R s m args below meth c Z ad H locs cells slots ls hx hb ho hL hs k => lv_i2b hx hb hd rfl (by rw [List.map_cons] at k; rw [show zc ad (.inl (zi2b x)) = _ from zi_of _] at k; exact k)) (fun hQ hs => zc_cons (z32_of _) (zc_tl hs)) kk
theorem z_i2s {x : Int} (hd : decode y.2.1 pc = .ok (.i2s, 1)) (kk : zW y d Q b S (pc + 1) L (.inl (zi2s x) :: st) M) : zW y d Q b S pc L (.inl x :: st) M :=
  zStep (st0 := (.inl x :: st)) (st' := (.inl (zi2s x) :: st)) (fun p l e R s m args below meth c Z ad H locs cells slots ls hx hb ho hL hs k => lv_i2s hx hb hd rfl (by rw [List.map_cons] at k; rw [show zc ad (.inl (zi2s x)) = _ from zi_of _] at k; exact k)) (fun hQ hs => zc_cons (z32_of _) (zc_tl hs)) kk
theorem zi2l {x : Int} (h : z32 x) : (Int32.ofInt x).toInt64 = Int64.ofInt x := by
  apply Int64.toInt_inj.mp
  rw [Int32.toInt_toInt64, zi_to h, zl_to (by unfold z32 at h; unfold z64; omega)]
theorem z_i2l {x : Int} (hd : decode y.2.1 pc = .ok (.i2l, 1)) (kk : zW y d Q b S (pc + 1) L (.inr (.inl x) :: st) M) : zW y d Q b S pc L (.inl x :: st) M :=
  zStep (st0 := (.inl x :: st)) (st' := (.inr (.inl x) :: st)) (fun p l e R s m args below meth c Z ad H locs cells slots ls hx hb ho hL hs k => lv_i2l hx hb hd (zi2l (zc_hd hs)) k) (fun hQ hs => zc_cons (show z64 x by have h : z32 x := zc_hd hs; unfold z32 at h; unfold z64; omega) (zc_tl hs)) kk
theorem z_l2i {x : Int} (hd : decode y.2.1 pc = .ok (.l2i, 1)) (kk : zW y d Q b S (pc + 1) L (.inl (zw x) :: st) M) : zW y d Q b S pc L (.inr (.inl x) :: st) M :=
  zStep (st0 := (.inr (.inl x) :: st)) (st' := (.inl (zw x) :: st)) (fun p l e R s m args below meth c Z ad H locs cells slots ls hx hb ho hL hs k => lv_l2i hx hb hd rfl (by rw [List.map_cons] at k; rw [show zc ad (.inl (zw x)) = .int (Int64.ofInt x).toInt32 from congrArg Value.int ((zi_ofw x).trans (Int64.toInt32_ofInt (n := x)).symm)] at k; exact k)) (fun hQ hs => zc_cons (zw_32 _) (zc_tl hs)) kk
theorem z_land {x x' : Int} (hd : decode y.2.1 pc = .ok (.land, 1)) (kk : zW y d Q b S (pc + 1) L (.inr (.inl (zland x x')) :: st) M) : zW y d Q b S pc L (.inr (.inl x') :: .inr (.inl x) :: st) M :=
  zStep (st0 := (.inr (.inl x') :: .inr (.inl x) :: st)) (st' := (.inr (.inl (zland x x')) :: st)) (fun p l e R s m args below meth c Z ad H locs cells slots ls hx hb ho hL hs k => lv_land hx hb hd (by rw [List.map_cons] at k; rw [show zc ad (.inr (.inl (zland x x'))) = _ from zl_of _] at k; exact k)) (fun hQ hs => zc_cons (z64_of _) (zc_tl (zc_tl hs))) kk
theorem z_lor {x x' : Int} (hd : decode y.2.1 pc = .ok (.lor, 1)) (kk : zW y d Q b S (pc + 1) L (.inr (.inl (zlor x x')) :: st) M) : zW y d Q b S pc L (.inr (.inl x') :: .inr (.inl x) :: st) M :=
  zStep (st0 := (.inr (.inl x') :: .inr (.inl x) :: st)) (st' := (.inr (.inl (zlor x x')) :: st)) (fun p l e R s m args below meth c Z ad H locs cells slots ls hx hb ho hL hs k => lv_lor hx hb hd (by rw [List.map_cons] at k; rw [show zc ad (.inr (.inl (zlor x x'))) = _ from zl_of _] at k; exact k)) (fun hQ hs => zc_cons (z64_of _) (zc_tl (zc_tl hs))) kk
theorem z_laddw {x x' : Int} (hd : decode y.2.1 pc = .ok (.ladd, 1)) (kk : zW y d Q b S (pc + 1) L (.inr (.inl (zlw (x + x'))) :: st) M) : zW y d Q b S pc L (.inr (.inl x') :: .inr (.inl x) :: st) M :=
  zStep (st0 := (.inr (.inl x') :: .inr (.inl x) :: st)) (st' := (.inr (.inl (zlw (x + x'))) :: st)) (fun p l e R s m args below meth c Z ad H locs cells slots ls hx hb ho hL hs k => lv_ladd hx hb hd (by rw [List.map_cons] at k; rw [show zc ad (.inr (.inl (zlw (x + x')))) = .long (Int64.ofInt x + Int64.ofInt x') from congrArg Value.long ((zl_ofw _).trans (Int64.ofInt_add _ _))] at k; exact k)) (fun hQ hs => zc_cons (zlw_64 _) (zc_tl (zc_tl hs))) kk
theorem z_lsubw {x x' : Int} (hd : decode y.2.1 pc = .ok (.lsub, 1)) (kk : zW y d Q b S (pc + 1) L (.inr (.inl (zlw (x - x'))) :: st) M) : zW y d Q b S pc L (.inr (.inl x') :: .inr (.inl x) :: st) M :=
  zStep (st0 := (.inr (.inl x') :: .inr (.inl x) :: st)) (st' := (.inr (.inl (zlw (x - x'))) :: st)) (fun p l e R s m args below meth c Z ad H locs cells slots ls hx hb ho hL hs k => lv_lsub hx hb hd (by rw [List.map_cons] at k; rw [show zc ad (.inr (.inl (zlw (x - x')))) = .long (Int64.ofInt x - Int64.ofInt x') from congrArg Value.long ((zl_ofw _).trans (Int64.ofInt_sub _ _))] at k; exact k)) (fun hQ hs => zc_cons (zlw_64 _) (zc_tl (zc_tl hs))) kk
theorem z_lshl {x x' : Int} (hd : decode y.2.1 pc = .ok (.lshl, 1)) (kk : zW y d Q b S (pc + 1) L (.inr (.inl (zlshl x x')) :: st) M) : zW y d Q b S pc L (.inl x' :: .inr (.inl x) :: st) M :=
  zStep (st0 := (.inl x' :: .inr (.inl x) :: st)) (st' := (.inr (.inl (zlshl x x')) :: st)) (fun p l e R s m args below meth c Z ad H locs cells slots ls hx hb ho hL hs k => lv_lshl hx hb hd rfl (by rw [List.map_cons] at k; rw [show zc ad (.inr (.inl (zlshl x x'))) = _ from zl_of _] at k; exact k)) (fun hQ hs => zc_cons (z64_of _) (zc_tl (zc_tl hs))) kk
theorem z_lshr {x x' : Int} (hd : decode y.2.1 pc = .ok (.lshr, 1)) (kk : zW y d Q b S (pc + 1) L (.inr (.inl (zlshr x x')) :: st) M) : zW y d Q b S pc L (.inl x' :: .inr (.inl x) :: st) M :=
  zStep (st0 := (.inl x' :: .inr (.inl x) :: st)) (st' := (.inr (.inl (zlshr x x')) :: st)) (fun p l e R s m args below meth c Z ad H locs cells slots ls hx hb ho hL hs k => lv_lshr hx hb hd rfl (by rw [List.map_cons] at k; rw [show zc ad (.inr (.inl (zlshr x x'))) = _ from zl_of _] at k; exact k)) (fun hQ hs => zc_cons (z64_of _) (zc_tl (zc_tl hs))) kk
theorem z_lushr {x x' : Int} (hd : decode y.2.1 pc = .ok (.lushr, 1)) (kk : zW y d Q b S (pc + 1) L (.inr (.inl (zlushr x x')) :: st) M) : zW y d Q b S pc L (.inl x' :: .inr (.inl x) :: st) M :=
  zStep (st0 := (.inl x' :: .inr (.inl x) :: st)) (st' := (.inr (.inl (zlushr x x')) :: st)) (fun p l e R s m args below meth c Z ad H locs cells slots ls hx hb ho hL hs k => lv_lushr hx hb hd rfl (by rw [List.map_cons] at k; rw [show zc ad (.inr (.inl (zlushr x x'))) = _ from zl_of _] at k; exact k)) (fun hQ hs => zc_cons (z64_of _) (zc_tl (zc_tl hs))) kk
theorem zl_lt {x y : Int} (hx : z64 x) (hy : z64 y) : Int64.ofInt x < Int64.ofInt y ↔ x < y := by rw [Int64.lt_iff_toInt_lt, zl_to hx, zl_to hy]
theorem zl_inj {x y : Int} (hx : z64 x) (hy : z64 y) : Int64.ofInt x = Int64.ofInt y ↔ x = y := ⟨fun h => by rw [← zl_to hx, ← zl_to hy, h], fun h => by rw [h]⟩
theorem zl_cmp {x x' : Int} (h : z64 x) (h' : z64 x') : lg_cmp (Int64.ofInt x) (Int64.ofInt x') = Int32.ofInt (zcmp x x') := by
  unfold lg_cmp zcmp
  show (if Int64.ofInt x' < Int64.ofInt x then _ else _) = _
  by_cases h1 : x' < x
  · rw [if_pos ((zl_lt h' h).mpr h1), if_pos h1]; rfl
  · rw [if_neg (fun q => h1 ((zl_lt h' h).mp q)), if_neg (fun q => h1 q)]
    by_cases h2 : x = x'
    · rw [if_pos ((zl_inj h h').mpr h2), if_pos h2]; rfl
    · rw [if_neg (fun q => h2 ((zl_inj h h').mp q)), if_neg h2]; rfl
theorem zcmp_32 (x x' : Int) : z32 (zcmp x x') := by unfold zcmp z32; split <;> (try split) <;> omega
theorem z_lcmp {x x' : Int} (hd : decode y.2.1 pc = .ok (.lcmp, 1)) (kk : zW y d Q b S (pc + 1) L (.inl (zcmp x x') :: st) M) : zW y d Q b S pc L (.inr (.inl x') :: .inr (.inl x) :: st) M :=
  zStep (st0 := (.inr (.inl x') :: .inr (.inl x) :: st)) (st' := (.inl (zcmp x x') :: st)) (fun p l e R s m args below meth c Z ad H locs cells slots ls hx hb ho hL hs k => W.lcmp hx hb hd (by rw [zl_cmp (zc_hd (zc_tl hs)) (zc_hd hs)]; exact k)) (fun hQ hs => zc_cons (zcmp_32 _ _) (zc_tl (zc_tl hs))) kk
theorem zcat1 (ad : Int → Nat) {v : zV} (h : zcat2 v = false) : (zc ad v).category = 1 := by
  rcases v with x | x | x
  · rfl
  · simp [zcat2] at h
  · show (zrf ad x).category = 1
    unfold zrf
    split <;> rfl
theorem z_dup {v : zV} (hd : decode y.2.1 pc = .ok (.dup, 1)) (hv : zcat2 v = false) (kk : zW y d Q b S (pc + 1) L (v :: v :: st) M) : zW y d Q b S pc L (v :: st) M :=
  zStep (st0 := (v :: st)) (st' := (v :: v :: st)) (fun p l e R s m args below meth c Z ad H locs cells slots ls hx hb ho hL hs k => lv_dup hx hb hd (zcat1 ad hv) k) (fun hQ hs => zc_cons (zc_hd hs) hs) kk
theorem z_dup2 {v w : zV} (hd : decode y.2.1 pc = .ok (.dup2, 1)) (hv : zcat2 v = false) (hw : zcat2 w = false) (kk : zW y d Q b S (pc + 1) L (v :: w :: v :: w :: st) M) : zW y d Q b S pc L (v :: w :: st) M :=
  zStep (st0 := (v :: w :: st)) (st' := (v :: w :: v :: w :: st)) (fun p l e R s m args below meth c Z ad H locs cells slots ls hx hb ho hL hs k => lv_dup2_11 hx hb hd (zcat1 ad hv) (zcat1 ad hw) k) (fun hQ hs => zc_cons (zc_hd hs) (zc_cons (zc_hd (zc_tl hs)) hs)) kk
theorem z_pop {v : zV} (hd : decode y.2.1 pc = .ok (.pop, 1)) (hv : zcat2 v = false) (kk : zW y d Q b S (pc + 1) L st M) : zW y d Q b S pc L (v :: st) M :=
  zStep (st0 := (v :: st)) (st' := st) (fun p l e R s m args below meth c Z ad H locs cells slots ls hx hb ho hL hs k => lv_pop hx hb hd (zcat1 ad hv) k) (fun hQ hs => zc_tl hs) kk
theorem z_goto {off : Int} (tgt : Nat) (hd : decode y.2.1 pc = .ok (.goto off, 3)) (ht : (pc : Int) + off = (tgt : Int)) (kk : zW y d Q b S tgt L st M) : zW y d Q b S pc L st M :=
  zStep (st0 := st) (st' := st) (fun p l e R s m args below meth c Z ad H locs cells slots ls hx hb ho hL hs k => lv_goto hx hb hd ht k) (fun hQ hs => hs) kk
theorem z_if_eq {x off : Int} (tgt : Nat) (hd : decode y.2.1 pc = .ok (.ifCond .eq off, 3)) (ht : (pc : Int) + off = (tgt : Int)) (kt : x = 0 → zW y d Q b S tgt L st M) (kf : ¬ (x = 0) → zW y d Q b S (pc + 3) L st M) : zW y d Q b S pc L (.inl x :: st) M :=
  fun p l e R s m args below meth c D cA ad0 n0 Mn A Z hE hR ad H locs cells slots ls hW hL hs => lv_if_eq hE.1 hE.2.1 hd ht (fun q => kt ((zi_inj (show z32 x from zc_hd hs) (show z32 0 by unfold z32; omega)).mp q) p l e R s m args below meth c D cA ad0 n0 Mn A Z hE hR ad H locs cells slots ls hW hL (zc_tl hs)) (fun q => kf (fun q2 => q ((zi_inj (show z32 x from zc_hd hs) (show z32 0 by unfold z32; omega)).mpr q2)) p l e R s m args below meth c D cA ad0 n0 Mn A Z hE hR ad H locs cells slots ls hW hL (zc_tl hs))
theorem z_icmp_eq {x x' off : Int} (tgt : Nat) (hd : decode y.2.1 pc = .ok (.if_icmp .eq off, 3)) (ht : (pc : Int) + off = (tgt : Int)) (kt : x = x' → zW y d Q b S tgt L st M) (kf : ¬ (x = x') → zW y d Q b S (pc + 3) L st M) : zW y d Q b S pc L (.inl x' :: .inl x :: st) M :=
  fun p l e R s m args below meth c D cA ad0 n0 Mn A Z hE hR ad H locs cells slots ls hW hL hs => lv_icmp_eq hE.1 hE.2.1 hd ht (fun q => kt ((zi_inj (show z32 x from zc_hd (zc_tl hs)) (show z32 x' from zc_hd hs)).mp q) p l e R s m args below meth c D cA ad0 n0 Mn A Z hE hR ad H locs cells slots ls hW hL (zc_tl (zc_tl hs))) (fun q => kf (fun q2 => q ((zi_inj (show z32 x from zc_hd (zc_tl hs)) (show z32 x' from zc_hd hs)).mpr q2)) p l e R s m args below meth c D cA ad0 n0 Mn A Z hE hR ad H locs cells slots ls hW hL (zc_tl (zc_tl hs)))
theorem z_if_ne {x off : Int} (tgt : Nat) (hd : decode y.2.1 pc = .ok (.ifCond .ne off, 3)) (ht : (pc : Int) + off = (tgt : Int)) (kt : x ≠ 0 → zW y d Q b S tgt L st M) (kf : ¬ (x ≠ 0) → zW y d Q b S (pc + 3) L st M) : zW y d Q b S pc L (.inl x :: st) M :=
  fun p l e R s m args below meth c D cA ad0 n0 Mn A Z hE hR ad H locs cells slots ls hW hL hs => lv_if_ne hE.1 hE.2.1 hd ht (fun q => kt ((not_congr (zi_inj (show z32 x from zc_hd hs) (show z32 0 by unfold z32; omega))).mp q) p l e R s m args below meth c D cA ad0 n0 Mn A Z hE hR ad H locs cells slots ls hW hL (zc_tl hs)) (fun q => kf (fun q2 => q2 ((zi_inj (show z32 x from zc_hd hs) (show z32 0 by unfold z32; omega)).mp q)) p l e R s m args below meth c D cA ad0 n0 Mn A Z hE hR ad H locs cells slots ls hW hL (zc_tl hs))
theorem z_icmp_ne {x x' off : Int} (tgt : Nat) (hd : decode y.2.1 pc = .ok (.if_icmp .ne off, 3)) (ht : (pc : Int) + off = (tgt : Int)) (kt : x ≠ x' → zW y d Q b S tgt L st M) (kf : ¬ (x ≠ x') → zW y d Q b S (pc + 3) L st M) : zW y d Q b S pc L (.inl x' :: .inl x :: st) M :=
  fun p l e R s m args below meth c D cA ad0 n0 Mn A Z hE hR ad H locs cells slots ls hW hL hs => lv_icmp_ne hE.1 hE.2.1 hd ht (fun q => kt ((not_congr (zi_inj (show z32 x from zc_hd (zc_tl hs)) (show z32 x' from zc_hd hs))).mp q) p l e R s m args below meth c D cA ad0 n0 Mn A Z hE hR ad H locs cells slots ls hW hL (zc_tl (zc_tl hs))) (fun q => kf (fun q2 => q2 ((zi_inj (show z32 x from zc_hd (zc_tl hs)) (show z32 x' from zc_hd hs)).mp q)) p l e R s m args below meth c D cA ad0 n0 Mn A Z hE hR ad H locs cells slots ls hW hL (zc_tl (zc_tl hs)))
theorem z_if_lt {x off : Int} (tgt : Nat) (hd : decode y.2.1 pc = .ok (.ifCond .lt off, 3)) (ht : (pc : Int) + off = (tgt : Int)) (kt : x < 0 → zW y d Q b S tgt L st M) (kf : ¬ (x < 0) → zW y d Q b S (pc + 3) L st M) : zW y d Q b S pc L (.inl x :: st) M :=
  fun p l e R s m args below meth c D cA ad0 n0 Mn A Z hE hR ad H locs cells slots ls hW hL hs => lv_if_lt hE.1 hE.2.1 hd ht (fun q => kt ((zi_lt (show z32 x from zc_hd hs) (show z32 0 by unfold z32; omega)).mp q) p l e R s m args below meth c D cA ad0 n0 Mn A Z hE hR ad H locs cells slots ls hW hL (zc_tl hs)) (fun q => kf (fun q2 => q ((zi_lt (show z32 x from zc_hd hs) (show z32 0 by unfold z32; omega)).mpr q2)) p l e R s m args below meth c D cA ad0 n0 Mn A Z hE hR ad H locs cells slots ls hW hL (zc_tl hs))
theorem z_icmp_lt {x x' off : Int} (tgt : Nat) (hd : decode y.2.1 pc = .ok (.if_icmp .lt off, 3)) (ht : (pc : Int) + off = (tgt : Int)) (kt : x < x' → zW y d Q b S tgt L st M) (kf : ¬ (x < x') → zW y d Q b S (pc + 3) L st M) : zW y d Q b S pc L (.inl x' :: .inl x :: st) M :=
  fun p l e R s m args below meth c D cA ad0 n0 Mn A Z hE hR ad H locs cells slots ls hW hL hs => lv_icmp_lt hE.1 hE.2.1 hd ht (fun q => kt ((zi_lt (show z32 x from zc_hd (zc_tl hs)) (show z32 x' from zc_hd hs)).mp q) p l e R s m args below meth c D cA ad0 n0 Mn A Z hE hR ad H locs cells slots ls hW hL (zc_tl (zc_tl hs))) (fun q => kf (fun q2 => q ((zi_lt (show z32 x from zc_hd (zc_tl hs)) (show z32 x' from zc_hd hs)).mpr q2)) p l e R s m args below meth c D cA ad0 n0 Mn A Z hE hR ad H locs cells slots ls hW hL (zc_tl (zc_tl hs)))
theorem z_if_ge {x off : Int} (tgt : Nat) (hd : decode y.2.1 pc = .ok (.ifCond .ge off, 3)) (ht : (pc : Int) + off = (tgt : Int)) (kt : 0 ≤ x → zW y d Q b S tgt L st M) (kf : ¬ (0 ≤ x) → zW y d Q b S (pc + 3) L st M) : zW y d Q b S pc L (.inl x :: st) M :=
  fun p l e R s m args below meth c D cA ad0 n0 Mn A Z hE hR ad H locs cells slots ls hW hL hs => lv_if_ge hE.1 hE.2.1 hd ht (fun q => kt ((zi_le (show z32 0 by unfold z32; omega) (show z32 x from zc_hd hs)).mp q) p l e R s m args below meth c D cA ad0 n0 Mn A Z hE hR ad H locs cells slots ls hW hL (zc_tl hs)) (fun q => kf (fun q2 => q ((zi_le (show z32 0 by unfold z32; omega) (show z32 x from zc_hd hs)).mpr q2)) p l e R s m args below meth c D cA ad0 n0 Mn A Z hE hR ad H locs cells slots ls hW hL (zc_tl hs))
theorem z_icmp_ge {x x' off : Int} (tgt : Nat) (hd : decode y.2.1 pc = .ok (.if_icmp .ge off, 3)) (ht : (pc : Int) + off = (tgt : Int)) (kt : x' ≤ x → zW y d Q b S tgt L st M) (kf : ¬ (x' ≤ x) → zW y d Q b S (pc + 3) L st M) : zW y d Q b S pc L (.inl x' :: .inl x :: st) M :=
  fun p l e R s m args below meth c D cA ad0 n0 Mn A Z hE hR ad H locs cells slots ls hW hL hs => lv_icmp_ge hE.1 hE.2.1 hd ht (fun q => kt ((zi_le (show z32 x' from zc_hd hs) (show z32 x from zc_hd (zc_tl hs))).mp q) p l e R s m args below meth c D cA ad0 n0 Mn A Z hE hR ad H locs cells slots ls hW hL (zc_tl (zc_tl hs))) (fun q => kf (fun q2 => q ((zi_le (show z32 x' from zc_hd hs) (show z32 x from zc_hd (zc_tl hs))).mpr q2)) p l e R s m args below meth c D cA ad0 n0 Mn A Z hE hR ad H locs cells slots ls hW hL (zc_tl (zc_tl hs)))
theorem z_if_gt {x off : Int} (tgt : Nat) (hd : decode y.2.1 pc = .ok (.ifCond .gt off, 3)) (ht : (pc : Int) + off = (tgt : Int)) (kt : 0 < x → zW y d Q b S tgt L st M) (kf : ¬ (0 < x) → zW y d Q b S (pc + 3) L st M) : zW y d Q b S pc L (.inl x :: st) M :=
  fun p l e R s m args below meth c D cA ad0 n0 Mn A Z hE hR ad H locs cells slots ls hW hL hs => lv_if_gt hE.1 hE.2.1 hd ht (fun q => kt ((zi_lt (show z32 0 by unfold z32; omega) (show z32 x from zc_hd hs)).mp q) p l e R s m args below meth c D cA ad0 n0 Mn A Z hE hR ad H locs cells slots ls hW hL (zc_tl hs)) (fun q => kf (fun q2 => q ((zi_lt (show z32 0 by unfold z32; omega) (show z32 x from zc_hd hs)).mpr q2)) p l e R s m args below meth c D cA ad0 n0 Mn A Z hE hR ad H locs cells slots ls hW hL (zc_tl hs))
theorem z_icmp_gt {x x' off : Int} (tgt : Nat) (hd : decode y.2.1 pc = .ok (.if_icmp .gt off, 3)) (ht : (pc : Int) + off = (tgt : Int)) (kt : x' < x → zW y d Q b S tgt L st M) (kf : ¬ (x' < x) → zW y d Q b S (pc + 3) L st M) : zW y d Q b S pc L (.inl x' :: .inl x :: st) M :=
  fun p l e R s m args below meth c D cA ad0 n0 Mn A Z hE hR ad H locs cells slots ls hW hL hs => lv_icmp_gt hE.1 hE.2.1 hd ht (fun q => kt ((zi_lt (show z32 x' from zc_hd hs) (show z32 x from zc_hd (zc_tl hs))).mp q) p l e R s m args below meth c D cA ad0 n0 Mn A Z hE hR ad H locs cells slots ls hW hL (zc_tl (zc_tl hs))) (fun q => kf (fun q2 => q ((zi_lt (show z32 x' from zc_hd hs) (show z32 x from zc_hd (zc_tl hs))).mpr q2)) p l e R s m args below meth c D cA ad0 n0 Mn A Z hE hR ad H locs cells slots ls hW hL (zc_tl (zc_tl hs)))
theorem z_if_le {x off : Int} (tgt : Nat) (hd : decode y.2.1 pc = .ok (.ifCond .le off, 3)) (ht : (pc : Int) + off = (tgt : Int)) (kt : x ≤ 0 → zW y d Q b S tgt L st M) (kf : ¬ (x ≤ 0) → zW y d Q b S (pc + 3) L st M) : zW y d Q b S pc L (.inl x :: st) M :=
  fun p l e R s m args below meth c D cA ad0 n0 Mn A Z hE hR ad H locs cells slots ls hW hL hs => lv_if_le hE.1 hE.2.1 hd ht (fun q => kt ((zi_le (show z32 x from zc_hd hs) (show z32 0 by unfold z32; omega)).mp q) p l e R s m args below meth c D cA ad0 n0 Mn A Z hE hR ad H locs cells slots ls hW hL (zc_tl hs)) (fun q => kf (fun q2 => q ((zi_le (show z32 x from zc_hd hs) (show z32 0 by unfold z32; omega)).mpr q2)) p l e R s m args below meth c D cA ad0 n0 Mn A Z hE hR ad H locs cells slots ls hW hL (zc_tl hs))
theorem z_icmp_le {x x' off : Int} (tgt : Nat) (hd : decode y.2.1 pc = .ok (.if_icmp .le off, 3)) (ht : (pc : Int) + off = (tgt : Int)) (kt : x ≤ x' → zW y d Q b S tgt L st M) (kf : ¬ (x ≤ x') → zW y d Q b S (pc + 3) L st M) : zW y d Q b S pc L (.inl x' :: .inl x :: st) M :=
  fun p l e R s m args below meth c D cA ad0 n0 Mn A Z hE hR ad H locs cells slots ls hW hL hs => lv_icmp_le hE.1 hE.2.1 hd ht (fun q => kt ((zi_le (show z32 x from zc_hd (zc_tl hs)) (show z32 x' from zc_hd hs)).mp q) p l e R s m args below meth c D cA ad0 n0 Mn A Z hE hR ad H locs cells slots ls hW hL (zc_tl (zc_tl hs))) (fun q => kf (fun q2 => q ((zi_le (show z32 x from zc_hd (zc_tl hs)) (show z32 x' from zc_hd hs)).mpr q2)) p l e R s m args below meth c D cA ad0 n0 Mn A Z hE hR ad H locs cells slots ls hW hL (zc_tl (zc_tl hs)))
theorem z_tsw {x dflt lo hi : Int} {offs : Array Int} {len : Nat} (hd : decode y.2.1 pc = .ok (.tableswitch dflt lo hi offs, len)) (hsz : (offs.size : Int) = hi - lo + 1)
    (kin : ∀ (j : Nat) (off : Int), offs.toList[j]? = some off → x = lo + j → ∃ tgt : Nat, (pc : Int) + off = (tgt : Int) ∧ zW y d Q b S tgt L st M) (kout : x < lo ∨ hi < x → ∃ tgt : Nat, (pc : Int) + dflt = (tgt : Int) ∧ zW y d Q b S tgt L st M) : zW y d Q b S pc L (.inl x :: st) M := by
  intro p l e R s m args below meth c D cA ad0 n0 Mn A Z hE hR ad H locs cells slots ls hW hL hs
  have hx : (Int32.ofInt x).toInt = x := zi_to (zc_hd hs)
  by_cases ho : x < lo ∨ hi < x
  · obtain ⟨tgt, ht, k⟩ := kout ho
    exact lv_tableOut hE.1 hE.2.1 hd (by rw [hx]; exact ho) ht (k p l e R s m args below meth c D cA ad0 n0 Mn A Z hE hR ad H locs cells slots ls hW hL (zc_tl hs))
  · have h1 : ¬ x < lo := fun h => ho (Or.inl h)
    have h2 : ¬ hi < x := fun h => ho (Or.inr h)
    have hlt : (x - lo).toNat < offs.size := by omega
    obtain ⟨tgt, ht, k⟩ := kin (x - lo).toNat offs[(x - lo).toNat] (by rw [Array.getElem?_toList, Array.getElem?_eq_getElem hlt]) (by omega)
    exact lv_tableIn hE.1 hE.2.1 hd (by rw [hx]; exact h1) (by rw [hx]; exact h2) (by rw [hx, Array.getElem?_eq_getElem hlt]) ht (k p l e R s m args below meth c D cA ad0 n0 Mn A Z hE hR ad H locs cells slots ls hW hL (zc_tl hs))
theorem z_lsw {x dflt : Int} {ps : Array (Int × Int)} {len : Nat} {off : Int} (tgt : Nat) (hd : decode y.2.1 pc = .ok (.lookupswitch dflt ps, len)) (hp : (ps.toList.zip (ps.toList.drop 1)).all (fun (a, next) => a.1 < next.1) = true) (ho : Op.lookupswitch.offset ps.toList dflt x = off) (ht : (pc : Int) + off = (tgt : Int)) (k : zW y d Q b S tgt L st M) : zW y d Q b S pc L (.inl x :: st) M := by
  intro p l e R s m args below meth c D cA ad0 n0 Mn A Z hE hR ad H locs cells slots ls hW hL hs
  exact lv_lookup hE.1 hE.2.1 hd hp (by rw [zi_to (zc_hd hs)]; exact ho) ht (k p l e R s m args below meth c D cA ad0 n0 Mn A Z hE hR ad H locs cells slots ls hW hL (zc_tl hs))
theorem zWd_0 {D : va_G} {cA : FieldType → ClassId} {ad0 : Int → Nat} {n0 : Nat} {Mn : zMm} {A : Nat → Prop} {R : Room} {s : State} {ad : Int → Nat} {H : Heap} {locs : List Loc} {cells slots : Nat} (h : zWd b S M D cA ad0 n0 Mn A R s ad H locs cells slots) : zWd (0, 0) S M D cA ad0 n0 Mn A R s ad H locs cells slots := by
  obtain ⟨h1, h2, h3, h4, h5, h6, h7, h8, h9⟩ := h
  exact ⟨h1, h2, h3, h4, h5, h6, by show cells + 0 ≤ _; omega, by show slots + 0 ≤ _; omega, h9⟩
theorem z_iret {x : Int} (hd : decode y.2.1 pc = .ok (.ireturn, 1)) (hr : y.2.2.2 = some .int) (hq : Q (some (.inl x)) S M) : zW y d Q b S pc L [.inl x] M :=
  fun p l e R s m args below meth c D cA ad0 n0 Mn A Z hE hR ad H locs cells slots ls hW hL hs => hR (some (.inl x)) S M ad H locs cells slots pc ls (zWd_0 hW) (fun v hv => by cases hv; exact zc_hd hs) hq (by rw [hr]; exact zc_hd hs) hd
theorem z_zret {x : Int} (hd : decode y.2.1 pc = .ok (.ireturn, 1)) (hr : y.2.2.2 = some .boolean) (hx : 0 ≤ x ∧ x ≤ 1) (hq : Q (some (.inl x)) S M) : zW y d Q b S pc L [.inl x] M :=
  fun p l e R s m args below meth c D cA ad0 n0 Mn A Z hE hR ad H locs cells slots ls hW hL hs => hR (some (.inl x)) S M ad H locs cells slots pc ls (zWd_0 hW) (fun v hv => by cases hv; exact zc_hd hs) hq (by rw [hr]; exact hx) hd
theorem z_lret {x : Int} (hd : decode y.2.1 pc = .ok (.lreturn, 1)) (hr : y.2.2.2 = some .long) (hq : Q (some (.inr (.inl x))) S M) : zW y d Q b S pc L [.inr (.inl x)] M :=
  fun p l e R s m args below meth c D cA ad0 n0 Mn A Z hE hR ad H locs cells slots ls hW hL hs => hR (some (.inr (.inl x))) S M ad H locs cells slots pc ls (zWd_0 hW) (fun v hv => by cases hv; exact zc_hd hs) hq (by rw [hr]; exact zc_hd hs) hd
theorem z_vret (hd : decode y.2.1 pc = .ok (.return_, 1)) (hr : y.2.2.2 = none) (hq : Q none S M) : zW y d Q b S pc L [] M :=
  fun p l e R s m args below meth c D cA ad0 n0 Mn A Z hE hR ad H locs cells slots ls hW hL hs => hR none S M ad H locs cells slots pc ls (zWd_0 hW) (fun v hv => by cases hv) hq (by rw [hr]; trivial) hd
end
end
section
/-! the rules of zW: fields and rows -/
theorem zup_self (M : zMm) (c k v : Int) : zup M c k v c k = v := by simp [zup]
theorem zup_row {M : zMm} {c k v c' : Int} (h : c' ≠ c) : zup M c k v c' = M c' := by
  funext k'
  simp [zup, h]
theorem zup_ne {M : zMm} {c k v c' k' : Int} (h : k' ≠ k) : zup M c k v c' k' = M c' k' := by simp [zup, h]
theorem zcM_up {S : List zSh} {M : zMm} {r : Nat} {sh : zSh} {k v : Int} (h : zcM S M) (hr : S[r]? = some sh) (hv : ∀ j : Nat, k = j → j < sh.2 → zokE S.length sh j v (M (-10 - (r : Int)) j)) : zcM S (zup M r k v) := by
  intro i sh' hi j hj
  have e2 : zup M r k v (-10 - (i : Int)) = M (-10 - (i : Int)) := zup_row (by omega)
  rw [e2]
  by_cases hir : i = r
  · subst hir
    rw [hr] at hi
    cases hi
    by_cases hk : (j : Int) = k
    · subst hk
      rw [zup_self]
      exact hv j rfl hj
    · rw [zup_ne hk]
      exact h i sh hr j hj
  · rw [zup_row (by omega)]
    exact h i sh' hi j hj
theorem zcM_upr {S : List zSh} {M : zMm} {r : Nat} {sh : zSh} {k g : Int} (h : zcM S M) (hr : S[r]? = some sh) (hv : ∀ j : Nat, k = j → j < sh.2 → zokE S.length sh j (M r j) g) : zcM S (zup M (-10 - (r : Int)) k g) := by
  intro i sh' hi j hj
  have e2 : zup M (-10 - (r : Int)) k g i = M i := zup_row (by omega)
  rw [e2]
  by_cases hir : i = r
  · subst hir
    rw [hr] at hi
    cases hi
    by_cases hk : (j : Int) = k
    · subst hk
      rw [zup_self]
      exact hv j rfl hj
    · rw [zup_ne hk]
      exact h i sh hr j hj
  · rw [zup_row (by omega)]
    exact h i sh' hi j hj
theorem zWd_upd {b : Nat × Nat} {S : List zSh} {M M' : zMm} {D : va_G} {cA : FieldType → ClassId} {ad0 : Int → Nat} {n0 : Nat} {Mn : zMm} {A : Nat → Prop} {R : Room} {s : State} {ad : Int → Nat} {H H1 : Heap} {locs locs1 : List Loc} {cells slots : Nat} (h : zWd b S M D cA ad0 n0 Mn A R s ad H locs cells slots) {r : Nat} {sh : zSh} {e : va_E} (hr : S[r]? = some sh) (he : e = zE ad cA sh (M' r) (M' (-10 - (r : Int)))) (hk : ∀ i : Nat, i < S.length → i ≠ r → M' i = M i ∧ M' (-10 - (i : Int)) = M (-10 - (i : Int))) (hneg : ∀ x : Int, -5 < x → x < 0 → M' x = M x) (hc : zcM S M') (hP : va_P D zcl ((zWs ad cA S M).set r (ad r, e)) H1) (hD : va_D A ((zWs ad cA S M).set r (ad r, e))) (hS : va_S A s.heap H1 locs1) : zWd b S M' D cA ad0 n0 Mn A R s ad H1 locs1 cells slots := by
  obtain ⟨h1, h2, h3, h4, h5, h6, h7, h8, h9⟩ := h
  rw [zWs_set hr he hk] at hP hD
  exact ⟨h1, h2, fun x hx hy => (hneg x hx hy).trans (h3 x hx hy), hP, hD, hS, h7, h8, hc⟩
theorem zcl_ref {ad : Int → Nat} (r : Nat) : zc ad (.inr (.inr (r : Int))) = .ref (ad r) := zrf_ne (by omega)
theorem zc_int {ad : Int → Nat} {x : Int} : zc ad (.inl x) = .int (Int32.ofInt x) := rfl
theorem zc_long {ad : Int → Nat} {x : Int} : zc ad (.inr (.inl x)) = .long (Int64.ofInt x) := rfl
def zik (ty : FieldType) : Nat := match ty with
  | .long => 1
  | .object _ => 2
  | .array _ => 2
  | _ => 0
theorem zfv_i {ad : Int → Nat} {ty : FieldType} {x g : Int} (h : zik ty = 0) : zfv ad ty x g = .int (Int32.ofInt x) := by cases ty <;> first | rfl | (simp [zik] at h)
theorem zfv_l {ad : Int → Nat} {ty : FieldType} {x g : Int} (h : zik ty = 1) : zfv ad ty x g = .long (Int64.ofInt x) := by cases ty <;> first | rfl | (simp [zik] at h)
theorem zfv_r {ad : Int → Nat} {ty : FieldType} {x g : Int} (h : zik ty = 2) : zfv ad ty x g = zrf ad g := by cases ty <;> first | rfl | (simp [zik] at h)
theorem zok1_i {n : Nat} {ty : FieldType} {x g : Int} (h : zik ty = 0) (hx : zok1 n ty x g) : z32 x := by
  cases ty <;> first | exact hx | (have h2 : 0 ≤ x ∧ x ≤ 1 := hx; unfold z32; omega) | (simp [zik] at h; done)
theorem zok1_l {n : Nat} {ty : FieldType} {x g : Int} (h : zik ty = 1) (hx : zok1 n ty x g) : z64 x := by
  cases ty <;> first | exact hx | (simp [zik] at h)
theorem zok1_r {n : Nat} {ty : FieldType} {x g : Int} (h : zik ty = 2) (hx : zok1 n ty x g) : zrr n g := by
  cases ty <;> first | exact hx | (simp [zik] at h)
section
variable {y : zM} {d : Nat} {Q : zPost} {b : Nat × Nat} {S : List zSh} {pc : Nat} {L : List (Nat × zV)} {st : List zV} {M : zMm}
theorem z_iald (r : Nat) {n : Nat} {ri i : Int} (hd : decode y.2.1 pc = .ok (.iaload, 1)) (hr : ri = (r : Int)) (hsh : S[r]? = some (0, n)) (hi : 0 ≤ i ∧ i < n) (kk : zW y d Q b S (pc + 1) L (.inl (M ri i) :: st) M) : zW y d Q b S pc L (.inl i :: .inr (.inr ri) :: st) M := by
  intro p l e R s m args below meth c D cA ad0 n0 Mn A Z hE hR ad H locs cells slots ls hW hL hs
  subst hr
  have hi32 : z32 i := zc_hd hs
  have k := kk p l e R s m args below meth c D cA ad0 n0 Mn A Z hE hR ad H locs cells slots ls hW hL (zc_cons (by
    have h := hW.2.2.2.2.2.2.2.2 r (0, n) hsh i.toNat (by show i.toNat < n; omega)
    rw [Int.toNat_of_nonneg hi.1] at h
    exact h) (zc_tl (zc_tl hs)))
  rw [List.map_cons, List.map_cons, zcl_ref, zc_int]
  rw [List.map_cons, zc_int] at k
  refine va_iald hE.1 hE.2.1 hE.2.2.2.2.2.2.2.2.1 hW.2.2.2.1 r 0 (zWs_at hsh) (show (ztys cA)[0]? = some (cA .int, .int) from rfl) (zi_in hi.1 hi.2 hi32) hd ?_
  rw [zi_nat hi32, Int.toNat_of_nonneg hi.1]
  exact k
theorem z_zald (r : Nat) {n : Nat} {ri i : Int} (hd : decode y.2.1 pc = .ok (.baload, 1)) (hr : ri = (r : Int)) (hsh : S[r]? = some (1, n)) (hi : 0 ≤ i ∧ i < n) (kk : 0 ≤ M ri i ∧ M ri i ≤ 1 → zW y d Q b S (pc + 1) L (.inl (M ri i) :: st) M) : zW y d Q b S pc L (.inl i :: .inr (.inr ri) :: st) M := by
  intro p l e R s m args below meth c D cA ad0 n0 Mn A Z hE hR ad H locs cells slots ls hW hL hs
  subst hr
  have hi32 : z32 i := zc_hd hs
  have h01 : 0 ≤ M r i ∧ M r i ≤ 1 := by
    have h := hW.2.2.2.2.2.2.2.2 r (1, n) hsh i.toNat (by show i.toNat < n; omega)
    rw [Int.toNat_of_nonneg hi.1] at h
    exact h
  have k := kk h01 p l e R s m args below meth c D cA ad0 n0 Mn A Z hE hR ad H locs cells slots ls hW hL (zc_cons (show z32 (M r i) by unfold z32; omega) (zc_tl (zc_tl hs)))
  rw [List.map_cons, List.map_cons, zcl_ref, zc_int]
  rw [List.map_cons, zc_int] at k
  refine va_zald hE.1 hE.2.1 hE.2.2.2.2.2.2.2.2.1 hW.2.2.2.1 r 1 (zWs_at hsh) (show (ztys cA)[1]? = some (cA .boolean, .boolean) from rfl) (zi_in hi.1 hi.2 hi32) hd ?_
  rw [zi_nat hi32, Int.toNat_of_nonneg hi.1]
  exact k
theorem z_lald (r : Nat) {n : Nat} {ri i : Int} (hd : decode y.2.1 pc = .ok (.laload, 1)) (hr : ri = (r : Int)) (hsh : S[r]? = some (2, n)) (hi : 0 ≤ i ∧ i < n) (kk : zW y d Q b S (pc + 1) L (.inr (.inl (M ri i)) :: st) M) : zW y d Q b S pc L (.inl i :: .inr (.inr ri) :: st) M := by
  intro p l e R s m args below meth c D cA ad0 n0 Mn A Z hE hR ad H locs cells slots ls hW hL hs
  subst hr
  have hi32 : z32 i := zc_hd hs
  have k := kk p l e R s m args below meth c D cA ad0 n0 Mn A Z hE hR ad H locs cells slots ls hW hL (zc_cons (by
    have h := hW.2.2.2.2.2.2.2.2 r (2, n) hsh i.toNat (by show i.toNat < n; omega)
    rw [Int.toNat_of_nonneg hi.1] at h
    exact h) (zc_tl (zc_tl hs)))
  rw [List.map_cons, List.map_cons, zcl_ref, zc_int]
  rw [List.map_cons, zc_long] at k
  refine va_lald hE.1 hE.2.1 hE.2.2.2.2.2.2.2.2.1 hW.2.2.2.1 r 2 (zWs_at hsh) (show (ztys cA)[2]? = some (cA .long, .long) from rfl) (zi_in hi.1 hi.2 hi32) hd ?_
  rw [zi_nat hi32, Int.toNat_of_nonneg hi.1]
  exact k
theorem z_aald (r : Nat) {n : Nat} {ri rw1 i r' : Int} (hd : decode y.2.1 pc = .ok (.aaload, 1)) (hr : ri = (r : Int)) (hrw : rw1 = -10 - ri) (hsh : S[r]? = some (3, n)) (hi : 0 ≤ i ∧ i < n) (hM : M rw1 i = r') (hr' : r' ≠ -1) (kk : zW y d Q b S (pc + 1) L (.inr (.inr r') :: st) M) : zW y d Q b S pc L (.inl i :: .inr (.inr ri) :: st) M := by
  intro p l e R s m args below meth c D cA ad0 n0 Mn A Z hE hR ad H locs cells slots ls hW hL hs
  subst hrw
  subst hr
  have hi32 : z32 i := zc_hd hs
  have k := kk p l e R s m args below meth c D cA ad0 n0 Mn A Z hE hR ad H locs cells slots ls hW hL (zc_cons (by
    have h := hW.2.2.2.2.2.2.2.2 r (3, n) hsh i.toNat (by show i.toNat < n; omega)
    rw [Int.toNat_of_nonneg hi.1, hM] at h
    exact h) (zc_tl (zc_tl hs)))
  rw [List.map_cons, List.map_cons, zcl_ref, zc_int]
  rw [List.map_cons, show zc ad (.inr (.inr r')) = .ref (ad r') from zrf_ne hr'] at k
  have hcell := hW.2.2.2.1 r _ (zWs_at hsh)
  have hAr := (hE.2.2.2.2.2.2.2.2.1.2 3 _ (show (ztys cA)[3]? = some (cA (.array .long), .array .long) from rfl)).1
  refine W.aald (ty := .array .long) (v := .ref (ad r')) hE.1 hE.2.1 hcell (hAr n _) rfl (fun q => by cases q) (by show ¬ (_ ∨ (arrV _ _ _).slots.size ≤ _); rw [arrV_size]; exact zi_in hi.1 hi.2 hi32) ?_ rfl rfl hd k
  show (arrV _ _ _).slots[_]? = _
  have hlt : (Int32.ofInt i).toNatClampNeg < n := by rw [zi_nat hi32]; omega
  rw [arrV_read _ _ hlt, zi_nat hi32]
  show some (va_rf (if i.toNat < n then (if M (-10 - (r : Int)) (i.toNat : Nat) = -1 then none else some (ad (M (-10 - (r : Int)) (i.toNat : Nat)))) else none)) = _
  rw [Int.toNat_of_nonneg hi.1, hM, if_neg hr', if_pos (by omega)]
  rfl
theorem z_iast (r : Nat) {n : Nat} {ri i v : Int} (hd : decode y.2.1 pc = .ok (.iastore, 1)) (hr : ri = (r : Int)) (hsh : S[r]? = some (0, n)) (hi : 0 ≤ i ∧ i < n) (kk : zW y d Q b S (pc + 1) L st (zup M ri i v)) : zW y d Q b S pc L (.inl v :: .inl i :: .inr (.inr ri) :: st) M := by
  intro p l e R s m args below meth c D cA ad0 n0 Mn A Z hE hR ad H locs cells slots ls hW hL hs
  subst hr
  have hv32 : z32 v := zc_hd hs
  have hi32 : z32 i := zc_hd (zc_tl hs)
  rw [List.map_cons, List.map_cons, List.map_cons, zcl_ref, zc_int, zc_int]
  refine va_iast hE.1 hE.2.1 hE.2.2.2.2.2.2.2.2.1 hW.2.2.2.1 hW.2.2.2.2.1 hW.2.2.2.2.2.1 r 0 (zWs_at hsh) (show (ztys cA)[0]? = some (cA .int, .int) from rfl) (zi_in hi.1 hi.2 hi32) hd fun H1 locs1 hP1 hD1 hS1 => ?_
  refine kk p l e R s m args below meth c D cA ad0 n0 Mn A Z hE hR ad H1 locs1 cells slots ls (zWd_upd (M' := zup M r i v) hW hsh ?_ (fun j _ hj => ⟨zup_row (by omega), zup_row (by omega)⟩) (fun x _ hx => zup_row (by omega)) (zcM_up hW.2.2.2.2.2.2.2.2 hsh (fun j _ _ => hv32)) hP1 hD1 hS1) hL (zc_tl (zc_tl (zc_tl hs)))
  show (Sum.inl (cA .int, n, Sum.inl _) : va_E) = Sum.inl (cA .int, n, Sum.inl _)
  congr 3
  congr 1
  funext j
  rw [zi_nat hi32]
  show (if j = i.toNat then _ else _) = Int32.ofInt (zup M r i v r j)
  by_cases hj : (j : Int) = i
  · rw [if_pos (by omega), hj, zup_self]
  · rw [if_neg (by omega), zup_ne hj]
theorem z_zast (r : Nat) {n : Nat} {ri i v : Int} (hd : decode y.2.1 pc = .ok (.bastore, 1)) (hr : ri = (r : Int)) (hsh : S[r]? = some (1, n)) (hi : 0 ≤ i ∧ i < n) (hv : 0 ≤ v ∧ v ≤ 1) (kk : zW y d Q b S (pc + 1) L st (zup M ri i v)) : zW y d Q b S pc L (.inl v :: .inl i :: .inr (.inr ri) :: st) M := by
  intro p l e R s m args below meth c D cA ad0 n0 Mn A Z hE hR ad H locs cells slots ls hW hL hs
  subst hr
  have hi32 : z32 i := zc_hd (zc_tl hs)
  rw [List.map_cons, List.map_cons, List.map_cons, zcl_ref, zc_int, zc_int]
  refine va_zast hE.1 hE.2.1 hE.2.2.2.2.2.2.2.2.1 hW.2.2.2.1 hW.2.2.2.2.1 hW.2.2.2.2.2.1 r 1 (zWs_at hsh) (show (ztys cA)[1]? = some (cA .boolean, .boolean) from rfl) (zi_in hi.1 hi.2 hi32) hd fun H1 locs1 hP1 hD1 hS1 => ?_
  refine kk p l e R s m args below meth c D cA ad0 n0 Mn A Z hE hR ad H1 locs1 cells slots ls (zWd_upd (M' := zup M r i v) hW hsh ?_ (fun j _ hj => ⟨zup_row (by omega), zup_row (by omega)⟩) (fun x _ hx => zup_row (by omega)) (zcM_up hW.2.2.2.2.2.2.2.2 hsh (fun j _ _ => hv)) hP1 hD1 hS1) hL (zc_tl (zc_tl (zc_tl hs)))
  show (Sum.inl (cA .boolean, n, Sum.inl _) : va_E) = Sum.inl (cA .boolean, n, Sum.inl _)
  congr 3
  congr 1
  funext j
  rw [zi_nat hi32]
  show (if j = i.toNat then _ else _) = Int32.ofInt (zup M r i v r j)
  by_cases hj : (j : Int) = i
  · rw [if_pos (by omega), hj, zup_self]
    rcases (show v = 0 ∨ v = 1 by omega) with rfl | rfl <;> rfl
  · rw [if_neg (by omega), zup_ne hj]
theorem z_last (r : Nat) {n : Nat} {ri i v : Int} (hd : decode y.2.1 pc = .ok (.lastore, 1)) (hr : ri = (r : Int)) (hsh : S[r]? = some (2, n)) (hi : 0 ≤ i ∧ i < n) (kk : zW y d Q b S (pc + 1) L st (zup M ri i v)) : zW y d Q b S pc L (.inr (.inl v) :: .inl i :: .inr (.inr ri) :: st) M := by
  intro p l e R s m args below meth c D cA ad0 n0 Mn A Z hE hR ad H locs cells slots ls hW hL hs
  subst hr
  have hv64 : z64 v := zc_hd hs
  have hi32 : z32 i := zc_hd (zc_tl hs)
  rw [List.map_cons, List.map_cons, List.map_cons, zcl_ref, zc_int, zc_long]
  refine va_last hE.1 hE.2.1 hE.2.2.2.2.2.2.2.2.1 hW.2.2.2.1 hW.2.2.2.2.1 hW.2.2.2.2.2.1 r 2 (zWs_at hsh) (show (ztys cA)[2]? = some (cA .long, .long) from rfl) (zi_in hi.1 hi.2 hi32) hd fun H1 locs1 hP1 hD1 hS1 => ?_
  refine kk p l e R s m args below meth c D cA ad0 n0 Mn A Z hE hR ad H1 locs1 cells slots ls (zWd_upd (M' := zup M r i v) hW hsh ?_ (fun j _ hj => ⟨zup_row (by omega), zup_row (by omega)⟩) (fun x _ hx => zup_row (by omega)) (zcM_up hW.2.2.2.2.2.2.2.2 hsh (fun j _ _ => hv64)) hP1 hD1 hS1) hL (zc_tl (zc_tl (zc_tl hs)))
  show (Sum.inl (cA .long, n, Sum.inr (Sum.inl _)) : va_E) = Sum.inl (cA .long, n, Sum.inr (Sum.inl _))
  congr 4
  congr 1
  funext j
  rw [zi_nat hi32]
  show (if j = i.toNat then _ else _) = Int64.ofInt (zup M r i v r j)
  by_cases hj : (j : Int) = i
  · rw [if_pos (by omega), hj, zup_self]
  · rw [if_neg (by omega), zup_ne hj]
theorem z_alen (r : Nat) {kd n : Nat} {ri : Int} (hd : decode y.2.1 pc = .ok (.arraylength, 1)) (hr : ri = (r : Int)) (hsh : S[r]? = some (kd, n)) (hkd : kd < 3) (hn : n < 2147483648) (kk : zW y d Q b S (pc + 1) L (.inl (n : Int) :: st) M) : zW y d Q b S pc L (.inr (.inr ri) :: st) M := by
  intro p l e R s m args below meth c D cA ad0 n0 Mn A Z hE hR ad H locs cells slots ls hW hL hs
  subst hr
  have k := kk p l e R s m args below meth c D cA ad0 n0 Mn A Z hE hR ad H locs cells slots ls hW hL (zc_cons (show z32 n by unfold z32; omega) (zc_tl hs))
  rw [List.map_cons, zcl_ref]
  rw [List.map_cons, zc_int, Int32.ofInt_eq_ofNat] at k
  rcases (show kd = 0 ∨ kd = 1 ∨ kd = 2 by omega) with rfl | rfl | rfl
  · exact va_alen hE.1 hE.2.1 hE.2.2.2.2.2.2.2.2.1 hW.2.2.2.1 r 0 (zWs_at hsh) (show (ztys cA)[0]? = some (cA .int, .int) from rfl) rfl hd k
  · exact va_alen hE.1 hE.2.1 hE.2.2.2.2.2.2.2.2.1 hW.2.2.2.1 r 1 (zWs_at hsh) (show (ztys cA)[1]? = some (cA .boolean, .boolean) from rfl) rfl hd k
  · exact va_alen hE.1 hE.2.1 hE.2.2.2.2.2.2.2.2.1 hW.2.2.2.1 r 2 (zWs_at hsh) (show (ztys cA)[2]? = some (cA .long, .long) from rfl) rfl hd k
theorem z_sald {ri i : Int} (hd : decode y.2.1 pc = .ok (.iaload, 1)) (hr : ri = -2 ∨ ri = -3 ∨ ri = -4) (hi : 0 ≤ i ∧ i < M ri (-1)) (kk : zW y d Q b S (pc + 1) L (.inl (M ri i) :: st) M) : zW y d Q b S pc L (.inl i :: .inr (.inr ri) :: st) M := by
  intro p l e R s m args below meth c D cA ad0 n0 Mn A Z hE hR ad H locs cells slots ls hW hL hs
  have hi32 : z32 i := zc_hd hs
  obtain ⟨hT, h0, hmx, hz⟩ := hE.2.2.2.2.2.2.2.2.2.1.1 ri hr
  have hMr : M ri = Mn ri := hW.2.2.1 ri (by omega) (by omega)
  rw [hMr] at hi
  have had : ad ri = ad0 ri := hW.1 ri (by omega)
  have k := kk p l e R s m args below meth c D cA ad0 n0 Mn A Z hE hR ad H locs cells slots ls hW hL (zc_cons (by rw [hMr]; exact hz i hi.1 hi.2) (zc_tl (zc_tl hs)))
  rw [List.map_cons, List.map_cons, show zc ad (.inr (.inr ri)) = .ref (ad ri) from zrf_ne (by omega), zc_int, had]
  rw [List.map_cons, zc_int, hMr] at k
  refine va_ti hE.1 hE.2.1 hT hW.2.2.2.2.2.1 (zi_in hi.1 (by omega) hi32) ?_ hd k
  show Value.int (Int32.ofInt (Mn ri _)) = _
  rw [zi_nat hi32, Int.toNat_of_nonneg hi.1]
theorem z_slen {ri : Int} (hd : decode y.2.1 pc = .ok (.arraylength, 1)) (hr : ri = -2 ∨ ri = -3 ∨ ri = -4) (kk : zW y d Q b S (pc + 1) L (.inl (M ri (-1)) :: st) M) : zW y d Q b S pc L (.inr (.inr ri) :: st) M := by
  intro p l e R s m args below meth c D cA ad0 n0 Mn A Z hE hR ad H locs cells slots ls hW hL hs
  obtain ⟨hT, h0, hmx, hz⟩ := hE.2.2.2.2.2.2.2.2.2.1.1 ri hr
  have hMr : M ri = Mn ri := hW.2.2.1 ri (by omega) (by omega)
  have had : ad ri = ad0 ri := hW.1 ri (by omega)
  have k := kk p l e R s m args below meth c D cA ad0 n0 Mn A Z hE hR ad H locs cells slots ls hW hL (zc_cons (show z32 _ by rw [hMr]; unfold z32; omega) (zc_tl hs))
  rw [List.map_cons, show zc ad (.inr (.inr ri)) = .ref (ad ri) from zrf_ne (by omega), had]
  rw [List.map_cons, zc_int, hMr] at k
  refine va_tlen hE.1 hE.2.1 hT hW.2.2.2.2.2.1 ?_ hd k
  rw [← Int32.ofInt_eq_ofNat, Int.toNat_of_nonneg h0]
theorem z_gets {ri : Int} {idx : Nat} {nm : String} (hd : decode y.2.1 pc = .ok (.getstatic idx, 3)) (hlink : Cond.fieldLink y.1.cls idx "SixWalls$Cells" nm "[I" ∈ lw_tbl) (hr : (ri = -3 ∧ nm = "ABOVE") ∨ (ri = -4 ∧ nm = "BODIES")) (kk : zW y d Q b S (pc + 3) L (.inr (.inr ri) :: st) M) : zW y d Q b S pc L st M := by
  intro p l e R s m args below meth c D cA ad0 n0 Mn A Z hE hR ad H locs cells slots ls hW hL hs
  have hr3 : ri = -3 ∨ ri = -4 := by rcases hr with h | h; exact Or.inl h.1; exact Or.inr h.1
  have hZ : va_Z "SixWalls$Cells" nm "[I" (.ref (ad0 ri)) A s s.heap := by
    rcases hr with ⟨rfl, rfl⟩ | ⟨rfl, rfl⟩
    · exact hE.2.2.2.2.2.2.2.2.2.1.2.1
    · exact hE.2.2.2.2.2.2.2.2.2.1.2.2
  have had : ad ri = ad0 ri := hW.1 ri (by omega)
  have k := kk p l e R s m args below meth c D cA ad0 n0 Mn A Z hE hR ad H locs cells slots ls hW hL (zc_cons (show zrr _ ri by unfold zrr; omega) hs)
  rw [List.map_cons, show zc ad (.inr (.inr ri)) = .ref (ad ri) from zrf_ne (by omega), had] at k
  exact va_gets hE.1 hE.2.1 hZ hW.2.2.2.2.2.1 hE.2.2.2.1 (hE.2.2.2.2.1 _ (zT hlink rfl)) (fun x h => h) hd k
theorem z_getG (r ci : Nat) {n k idx : Nat} {ri : Int} {v : zV} {C : String} {T : u_T} (hd : decode y.2.1 pc = .ok (.getfield idx, 3)) (hr : ri = (r : Int)) (hsh : S[r]? = some (ci + 4, n)) (hcl : zcl[ci]? = some (C, T, n)) (hk : k < n) (hlink : Cond.fieldLink y.1.cls idx (T k).1 (T k).2.1 (T k).2.2.1 ∈ lw_tbl)
    (hv : ∀ ad, zc ad v = zfv ad (zty ci k) (M ri k) (M (-10 - ri) k)) (hcv : zok1 S.length (zty ci k) (M ri k) (M (-10 - ri) k) → zcV S.length v) (kk : zW y d Q b S (pc + 3) L (v :: st) M) : zW y d Q b S pc L (.inr (.inr ri) :: st) M := by
  intro p l e R s m args below meth c D cA ad0 n0 Mn A Z hE hR ad H locs cells slots ls hW hL hs
  subst hr
  have k9 := kk p l e R s m args below meth c D cA ad0 n0 Mn A Z hE hR ad H locs cells slots ls hW hL (zc_cons (hcv (hW.2.2.2.2.2.2.2.2 r (ci + 4, n) hsh k hk)) (zc_tl hs))
  rw [List.map_cons, zcl_ref]
  rw [List.map_cons, hv ad] at k9
  refine va_get hE.1 hE.2.1 hE.2.2.2.2.1 (zT_ws hcl) hE.2.2.2.1 hE.2.2.2.2.2.2.2.2.1 hW.2.2.2.1 r (zWs_at hsh) hcl k hk (hE.2.2.2.2.1 _ (zT hlink rfl)) (fun x h => h) ?_ hd k9
  show ((List.range n).map _)[k]? = _
  rw [List.getElem?_map, List.getElem?_range hk]
  rfl
theorem z_geti (r ci : Nat) {n k idx : Nat} {ri ki : Int} {C : String} {T : u_T} (hd : decode y.2.1 pc = .ok (.getfield idx, 3)) (hr : ri = (r : Int)) (hsh : S[r]? = some (ci + 4, n)) (hcl : zcl[ci]? = some (C, T, n)) (hk : k < n) (hki : ki = (k : Int)) (hty : zik (zty ci k) = 0) (hlink : Cond.fieldLink y.1.cls idx (T k).1 (T k).2.1 (T k).2.2.1 ∈ lw_tbl) (kk : zW y d Q b S (pc + 3) L (.inl (M ri ki) :: st) M) : zW y d Q b S pc L (.inr (.inr ri) :: st) M :=
  z_getG r ci hd hr hsh hcl hk hlink (fun ad => by rw [zfv_i hty, hki]; rfl) (fun h => by rw [hki]; exact zok1_i hty h) kk
theorem z_getl (r ci : Nat) {n k idx : Nat} {ri ki : Int} {C : String} {T : u_T} (hd : decode y.2.1 pc = .ok (.getfield idx, 3)) (hr : ri = (r : Int)) (hsh : S[r]? = some (ci + 4, n)) (hcl : zcl[ci]? = some (C, T, n)) (hk : k < n) (hki : ki = (k : Int)) (hty : zik (zty ci k) = 1) (hlink : Cond.fieldLink y.1.cls idx (T k).1 (T k).2.1 (T k).2.2.1 ∈ lw_tbl) (kk : zW y d Q b S (pc + 3) L (.inr (.inl (M ri ki)) :: st) M) : zW y d Q b S pc L (.inr (.inr ri) :: st) M :=
  z_getG r ci hd hr hsh hcl hk hlink (fun ad => by rw [zfv_l hty, hki]; rfl) (fun h => by rw [hki]; exact zok1_l hty h) kk
theorem z_getr (r ci : Nat) {n k idx : Nat} {ri rw1 ki r' : Int} {C : String} {T : u_T} (hd : decode y.2.1 pc = .ok (.getfield idx, 3)) (hr : ri = (r : Int)) (hrw : rw1 = -10 - ri) (hsh : S[r]? = some (ci + 4, n)) (hcl : zcl[ci]? = some (C, T, n)) (hk : k < n) (hki : ki = (k : Int)) (hty : zik (zty ci k) = 2) (hlink : Cond.fieldLink y.1.cls idx (T k).1 (T k).2.1 (T k).2.2.1 ∈ lw_tbl) (hM : M rw1 ki = r') (kk : zW y d Q b S (pc + 3) L (.inr (.inr r') :: st) M) : zW y d Q b S pc L (.inr (.inr ri) :: st) M :=
  z_getG r ci hd hr hsh hcl hk hlink (fun ad => by rw [zfv_r hty, ← hM, hki, hrw]; rfl) (fun h => by rw [← hM, hki, hrw]; exact zok1_r hty h) kk
theorem z_putG (r ci : Nat) {n k idx : Nat} {ri : Int} {v : zV} {M' : zMm} {C : String} {T : u_T} (hd : decode y.2.1 pc = .ok (.putfield idx, 3)) (hr : ri = (r : Int)) (hsh : S[r]? = some (ci + 4, n)) (hcl : zcl[ci]? = some (C, T, n)) (hk : k < n) (hlink : Cond.fieldLink y.1.cls idx (T k).1 (T k).2.1 (T k).2.2.1 ∈ lw_tbl) (hfin : (T k).2.2.2 = false ∨ (y.1.name = "<init>" ∧ (T k).1 = y.1.cls))
    (hv : ∀ ad, zc ad v = zfv ad (zty ci k) (M' ri k) (M' (-10 - ri) k)) (hnar : ∀ ad, zcV S.length v → narrow (zty ci k) (zc ad v) = zc ad v ∧ fits (zty ci k) (zc ad v) = true) (ho : ∀ j : Nat, j < n → j ≠ k → M' ri j = M ri j ∧ M' (-10 - ri) j = M (-10 - ri) j) (hrow : ∀ i : Nat, i ≠ r → M' i = M i ∧ M' (-10 - (i : Int)) = M (-10 - (i : Int))) (hneg : ∀ x : Int, -5 < x → x < 0 → M' x = M x) (hc : zcM S M → zcV S.length v → zcM S M') (kk : zW y d Q b S (pc + 3) L st M') : zW y d Q b S pc L (v :: .inr (.inr ri) :: st) M := by
  intro p l e R s m args below meth c D cA ad0 n0 Mn A Z hE hR ad H locs cells slots ls hW hL hs
  subst hr
  rw [List.map_cons, List.map_cons, zcl_ref]
  have hcl2 := zcl_ok ci _ hcl
  have hfs : k < ((List.range n).map (fun (j : Nat) => zfv ad (zty ci j) (M r j) (M (-10 - (r : Int)) j))).length := by simpa using hk
  have go : ∀ (H1 : Heap) (locs1 : List Loc), va_P D zcl ((zWs ad cA S M).set r (ad r, .inr (ci, ((List.range n).map (fun (j : Nat) => zfv ad (zty ci j) (M r j) (M (-10 - (r : Int)) j))).set k (zc ad v)))) H1 → va_D A ((zWs ad cA S M).set r (ad r, .inr (ci, ((List.range n).map (fun (j : Nat) => zfv ad (zty ci j) (M r j) (M (-10 - (r : Int)) j))).set k (zc ad v)))) → va_S A s.heap H1 locs1 → W p l e R s m args below meth c H1 locs1 cells slots Z (F0 m (pc + 3) ls (st.map (zc ad))) := by
    intro H1 locs1 hP1 hD1 hS1
    refine kk p l e R s m args below meth c D cA ad0 n0 Mn A Z hE hR ad H1 locs1 cells slots ls (zWd_upd (M' := M') hW hsh ?_ (fun j _ hj => hrow j hj) hneg (hc hW.2.2.2.2.2.2.2.2 (zc_hd hs)) hP1 hD1 hS1) hL (zc_tl (zc_tl hs))
    show (Sum.inr (ci, _) : va_E) = Sum.inr (ci, (List.range n).map (fun (j : Nat) => zfv ad (zty ci j) (M' r j) (M' (-10 - (r : Int)) j)))
    congr 2
    apply List.ext_getElem?
    intro j
    rw [List.getElem?_set]
    by_cases hj : k = j
    · subst hj
      rw [if_pos rfl, if_pos hfs, List.getElem?_map, List.getElem?_range hk]
      exact congrArg some (hv ad)
    · rw [if_neg hj, List.getElem?_map, List.getElem?_map]
      by_cases hjn : j < n
      · rw [List.getElem?_range hjn]
        show some (zfv ad (zty ci j) (M r j) (M (-10 - (r : Int)) j)) = some (zfv ad (zty ci j) (M' r j) (M' (-10 - (r : Int)) j))
        rw [(ho j hjn (fun h => hj h.symm)).1, (ho j hjn (fun h => hj h.symm)).2]
      · rw [List.getElem?_eq_none (by simpa using hjn)]
        rfl
  have hn := hnar ad (zc_hd hs)
  by_cases hf : (T k).2.2.2 = false
  · exact va_put hE.1 hE.2.1 hE.2.2.2.2.1 (zT_ws hcl) (zty ci) hcl2.2.1 hcl2.2.2 hE.2.2.2.1 hE.2.2.2.2.2.2.2.2.1 hW.2.2.2.1 hW.2.2.2.2.1 hW.2.2.2.2.2.1 r (zWs_at hsh) hcl k hk (hE.2.2.2.2.1 _ (zT hlink rfl)) (fun x h => h) hf (hcl2.2.1 k hk) hn.1 hn.2 hfs hd go
  · obtain ⟨h1, h2⟩ := hfin.resolve_left hf
    exact va_putF hE.1 hE.2.1 hE.2.2.2.2.1 (zT_ws hcl) (zty ci) hcl2.2.1 hcl2.2.2 hE.2.2.2.1 hE.2.2.2.2.2.2.2.2.1 hW.2.2.2.1 hW.2.2.2.2.1 hW.2.2.2.2.2.1 r (zWs_at hsh) hcl k hk (hE.2.2.2.2.1 _ (zT hlink rfl)) (fun x h => h) (by simpa using hf) (hE.2.2.2.2.2.2.2.1 h1) h2 (hcl2.2.1 k hk) hn.1 hn.2 hfs hd go
theorem z_puti (r ci : Nat) {n k idx : Nat} {ri ki v : Int} {C : String} {T : u_T} (hd : decode y.2.1 pc = .ok (.putfield idx, 3)) (hr : ri = (r : Int)) (hsh : S[r]? = some (ci + 4, n)) (hcl : zcl[ci]? = some (C, T, n)) (hk : k < n) (hki : ki = (k : Int)) (hty : zty ci k = .int) (hlink : Cond.fieldLink y.1.cls idx (T k).1 (T k).2.1 (T k).2.2.1 ∈ lw_tbl) (hfin : (T k).2.2.2 = false ∨ (y.1.name = "<init>" ∧ (T k).1 = y.1.cls)) (kk : zW y d Q b S (pc + 3) L st (zup M ri ki v)) : zW y d Q b S pc L (.inl v :: .inr (.inr ri) :: st) M := by
  subst hki
  subst hr
  refine z_putG r ci (M' := zup M r k v) hd rfl hsh hcl hk hlink hfin (fun ad => by rw [hty, zup_self]; rfl) (fun ad _ => by rw [hty]; exact ⟨rfl, rfl⟩) (fun j _ hj => ⟨zup_ne (by omega), by rw [zup_row (by omega)]⟩) (fun i hi => ⟨zup_row (by omega), zup_row (by omega)⟩) (fun x _ _ => zup_row (by omega)) (fun h hv => zcM_up h hsh (fun j hj _ => ?_)) kk
  show zok1 _ (zty ci j) v _
  rw [show j = k by omega, hty]
  exact hv
theorem z_putz (r ci : Nat) {n k idx : Nat} {ri ki v : Int} {C : String} {T : u_T} (hd : decode y.2.1 pc = .ok (.putfield idx, 3)) (hr : ri = (r : Int)) (hsh : S[r]? = some (ci + 4, n)) (hcl : zcl[ci]? = some (C, T, n)) (hk : k < n) (hki : ki = (k : Int)) (hty : zty ci k = .boolean) (hlink : Cond.fieldLink y.1.cls idx (T k).1 (T k).2.1 (T k).2.2.1 ∈ lw_tbl) (hfin : (T k).2.2.2 = false ∨ (y.1.name = "<init>" ∧ (T k).1 = y.1.cls)) (h01 : 0 ≤ v ∧ v ≤ 1) (kk : zW y d Q b S (pc + 3) L st (zup M ri ki v)) : zW y d Q b S pc L (.inl v :: .inr (.inr ri) :: st) M := by
  subst hki
  subst hr
  refine z_putG r ci (M' := zup M r k v) hd rfl hsh hcl hk hlink hfin (fun ad => by rw [hty, zup_self]; rfl) (fun ad _ => by rw [hty]; rcases (show v = 0 ∨ v = 1 by omega) with rfl | rfl <;> exact ⟨rfl, rfl⟩) (fun j _ hj => ⟨zup_ne (by omega), by rw [zup_row (by omega)]⟩) (fun i hi => ⟨zup_row (by omega), zup_row (by omega)⟩) (fun x _ _ => zup_row (by omega)) (fun h hv => zcM_up h hsh (fun j hj _ => ?_)) kk
  show zok1 _ (zty ci j) v _
  rw [show j = k by omega, hty]
  exact h01
theorem z_putl (r ci : Nat) {n k idx : Nat} {ri ki v : Int} {C : String} {T : u_T} (hd : decode y.2.1 pc = .ok (.putfield idx, 3)) (hr : ri = (r : Int)) (hsh : S[r]? = some (ci + 4, n)) (hcl : zcl[ci]? = some (C, T, n)) (hk : k < n) (hki : ki = (k : Int)) (hty : zty ci k = .long) (hlink : Cond.fieldLink y.1.cls idx (T k).1 (T k).2.1 (T k).2.2.1 ∈ lw_tbl) (hfin : (T k).2.2.2 = false ∨ (y.1.name = "<init>" ∧ (T k).1 = y.1.cls)) (kk : zW y d Q b S (pc + 3) L st (zup M ri ki v)) : zW y d Q b S pc L (.inr (.inl v) :: .inr (.inr ri) :: st) M := by
  subst hki
  subst hr
  refine z_putG r ci (M' := zup M r k v) hd rfl hsh hcl hk hlink hfin (fun ad => by rw [hty, zup_self]; rfl) (fun ad _ => by rw [hty]; exact ⟨rfl, rfl⟩) (fun j _ hj => ⟨zup_ne (by omega), by rw [zup_row (by omega)]⟩) (fun i hi => ⟨zup_row (by omega), zup_row (by omega)⟩) (fun x _ _ => zup_row (by omega)) (fun h hv => zcM_up h hsh (fun j hj _ => ?_)) kk
  show zok1 _ (zty ci j) v _
  rw [show j = k by omega, hty]
  exact hv
theorem zrf_fit {ad : Int → Nat} {ty : FieldType} {g : Int} (h : zik ty = 2) : narrow ty (zrf ad g) = zrf ad g ∧ fits ty (zrf ad g) = true := by
  unfold zrf
  cases ty <;> first | (simp [zik] at h; done) | (split <;> exact ⟨rfl, rfl⟩)
theorem zok1_r2 {n : Nat} {ty : FieldType} {x g : Int} (h : zik ty = 2) (hx : zrr n g) : zok1 n ty x g := by
  cases ty <;> first | exact hx | (simp [zik] at h)
theorem z_putr (r ci : Nat) {n k idx : Nat} {ri rw1 ki g : Int} {C : String} {T : u_T} (hd : decode y.2.1 pc = .ok (.putfield idx, 3)) (hr : ri = (r : Int)) (hrw : rw1 = -10 - ri) (hsh : S[r]? = some (ci + 4, n)) (hcl : zcl[ci]? = some (C, T, n)) (hk : k < n) (hki : ki = (k : Int)) (hty : zik (zty ci k) = 2) (hlink : Cond.fieldLink y.1.cls idx (T k).1 (T k).2.1 (T k).2.2.1 ∈ lw_tbl) (hfin : (T k).2.2.2 = false ∨ (y.1.name = "<init>" ∧ (T k).1 = y.1.cls)) (kk : zW y d Q b S (pc + 3) L st (zup M rw1 ki g)) : zW y d Q b S pc L (.inr (.inr g) :: .inr (.inr ri) :: st) M := by
  subst hki
  subst hrw
  subst hr
  refine z_putG r ci (M' := zup M (-10 - (r : Int)) k g) hd rfl hsh hcl hk hlink hfin (fun ad => by rw [zfv_r hty, zup_self]; rfl) (fun ad _ => zrf_fit hty) (fun j _ hj => ⟨by rw [zup_row (by omega)], zup_ne (by omega)⟩) (fun i hi => ⟨zup_row (by omega), zup_row (by omega)⟩) (fun x _ _ => zup_row (by omega)) (fun h hv => zcM_upr h hsh (fun j hj _ => ?_)) kk
  show zok1 _ (zty ci j) _ g
  rw [show j = k by omega]
  exact zok1_r2 hty hv
end
end
section
/-! the rules of zW: new objects and rows, copies of rows -/
/-- a new cell n: all 0, all null -/
def znew (M : zMm) (n : Int) : zMm := fun c k => if c = n then 0 else if c = -10 - n then -1 else M c k
def zad (ad : Int → Nat) (n : Int) (q : Nat) : Int → Nat := fun r => if r = n then q else ad r
theorem znew_row {M : zMm} {n c : Int} (h1 : c ≠ n) (h2 : c ≠ -10 - n) : znew M n c = M c := by
  funext k
  simp [znew, h1, h2]
theorem znew_at {M : zMm} {n k : Int} : znew M n n k = 0 := by simp [znew]
theorem znew_ref {M : zMm} {n k : Int} (h : 0 ≤ n) : znew M n (-10 - n) k = -1 := by
  unfold znew
  rw [if_neg (by omega), if_pos rfl]
theorem zad_ne {ad : Int → Nat} {n r : Int} {q : Nat} (h : r ≠ n) : zad ad n q r = ad r := by simp [zad, h]
theorem zad_self {ad : Int → Nat} {n : Int} {q : Nat} : zad ad n q n = q := by simp [zad]
theorem zfv_congr {ad ad' : Int → Nat} {n : Nat} {ty : FieldType} {x g : Int} (h : ∀ r : Int, r < n → ad' r = ad r) (hc : zok1 n ty x g) : zfv ad' ty x g = zfv ad ty x g := by
  by_cases hk : zik ty = 2
  · rw [zfv_r hk, zfv_r hk]
    have hr := zok1_r hk hc
    unfold zrf
    rw [h g hr.2]
  · by_cases h1 : zik ty = 1
    · rw [zfv_l h1, zfv_l h1]
    · have h0 : zik ty = 0 := by cases ty <;> first | rfl | (simp [zik] at hk; done) | (simp [zik] at h1; done)
      rw [zfv_i h0, zfv_i h0]
theorem zE_congr {ad ad' : Int → Nat} {cA : FieldType → ClassId} {n : Nat} {sh : zSh} {f g : Int → Int} (h : ∀ r : Int, r < n → ad' r = ad r) (hc : ∀ j : Nat, j < sh.2 → zokE n sh j (f j) (g j)) : zE ad' cA sh f g = zE ad cA sh f g := by
  obtain ⟨kd, len⟩ := sh
  match kd, hc with
  | 0, _ => rfl
  | 1, _ => rfl
  | 2, _ => rfl
  | 3, hc =>
    show (Sum.inl (_, len, Sum.inr (Sum.inr (Sum.inr (Sum.inr _)))) : va_E) = Sum.inl (_, len, Sum.inr (Sum.inr (Sum.inr (Sum.inr _))))
    congr 7
    funext j
    show (if j < len then _ else none) = (if j < len then _ else none)
    by_cases hj : j < len
    · rw [if_pos hj, if_pos hj]
      have hr : zrr n (g j) := hc j hj
      rw [h (g j) hr.2]
    · rw [if_neg hj, if_neg hj]
  | ci + 4, hc =>
    show (Sum.inr (ci, _) : va_E) = Sum.inr (ci, _)
    congr 2
    apply List.map_congr_left
    intro j hj
    exact zfv_congr h (hc j (List.mem_range.mp hj))
theorem zc_congr {ad ad' : Int → Nat} {n : Nat} {v : zV} (h : ∀ r : Int, r < n → ad' r = ad r) (hc : zcV n v) : zc ad' v = zc ad v := by
  rcases v with x | x | x
  · rfl
  · rfl
  · show zrf ad' x = zrf ad x
    have hr : zrr n x := hc
    unfold zrf
    rw [h x hr.2]
theorem zcV_up {n n' : Nat} {v : zV} (h : n ≤ n') (hc : zcV n v) : zcV n' v := by
  rcases v with x | x | x
  · exact hc
  · exact hc
  · have hr : zrr n x := hc
    show zrr n' x
    unfold zrr at hr ⊢
    omega
theorem zok1_up {n n' : Nat} {ty : FieldType} {x g : Int} (h : n ≤ n') (hc : zok1 n ty x g) : zok1 n' ty x g := by
  by_cases hk : zik ty = 2
  · have hr := zok1_r hk hc
    exact zok1_r2 hk (by unfold zrr at hr ⊢; omega)
  · cases ty <;> first | exact hc | (simp [zik] at hk; done)
theorem zokE_up {n n' : Nat} {sh : zSh} {j : Nat} {x g : Int} (h : n ≤ n') (hc : zokE n sh j x g) : zokE n' sh j x g := by
  obtain ⟨kd, len⟩ := sh
  match kd, hc with
  | 0, hc => exact hc
  | 1, hc => exact hc
  | 2, hc => exact hc
  | 3, hc =>
    have hr : zrr n g := hc
    show zrr n' g
    unfold zrr at hr ⊢
    omega
  | ci + 4, hc => exact zok1_up (n := n) (n' := n') (ty := zty ci j) h hc
theorem zmap_congr {ad ad' : Int → Nat} {n : Nat} {st : List zV} (h : ∀ r : Int, r < n → ad' r = ad r) (hc : ∀ v ∈ st, zcV n v) : st.map (zc ad') = st.map (zc ad) := List.map_congr_left fun v hv => zc_congr h (hc v hv)
theorem zLs_up {nL n n' : Nat} {L : List (Nat × zV)} {ad ad' : Int → Nat} {ls : Array Slot} (h : zLs nL n L ad ls) (hn : n ≤ n') (had : ∀ r : Int, r < n → ad' r = ad r) : zLs nL n' L ad' ls := by
  refine ⟨?_, fun q hq => zcV_up hn (h.2 q hq)⟩
  have e : L.map (fun q => (q.1, zc ad' q.2)) = L.map (fun q => (q.1, zc ad q.2)) := List.map_congr_left fun q hq => by rw [zc_congr had (h.2 q hq)]
  rw [e]
  exact h.1
/-- one cell more at the end -/
theorem zWd_new {b b' : Nat × Nat} {S : List zSh} {M M' : zMm} {D : va_G} {cA : FieldType → ClassId} {ad0 : Int → Nat} {n0 : Nat} {Mn : zMm} {A : Nat → Prop} {R : Room} {s : State} {ad : Int → Nat} {H H1 : Heap} {locs locs1 : List Loc} {cells slots cells1 slots1 : Nat} (h : zWd b S M D cA ad0 n0 Mn A R s ad H locs cells slots) {sh : zSh} {e : va_E} {q : Nat}
    (hM1 : ∀ c : Int, c ≠ (S.length : Int) → c ≠ -10 - (S.length : Int) → M' c = M c) (he : e = zE (zad ad S.length q) cA sh (M' S.length) (M' (-10 - (S.length : Int)))) (hc : ∀ j : Nat, j < sh.2 → zokE (S.length + 1) sh j (M' S.length j) (M' (-10 - (S.length : Int)) j))
    (hP : va_P D zcl (zWs ad cA S M ++ [(q, e)]) H1) (hD : va_D A (zWs ad cA S M ++ [(q, e)])) (hS : va_S A s.heap H1 locs1) (hb1 : cells1 + b'.1 ≤ R.cells) (hb2 : slots1 + b'.2 ≤ R.slots) : zWd b' (S ++ [sh]) M' D cA ad0 n0 Mn A R s (zad ad S.length q) H1 locs1 cells1 slots1 := by
  obtain ⟨h1, h2, h3, h4, h5, h6, h7, h8, h9⟩ := h
  have had : ∀ r : Int, r < S.length → zad ad S.length q r = ad r := fun r hr => zad_ne (by omega)
  have e1 : zWs ad cA S M ++ [(q, e)] = zWs (zad ad S.length q) cA (S ++ [sh]) M' := by
    refine zWs_ext (by rw [List.length_append, zWs_len]; simp) fun i sh' hi => ?_
    by_cases hl : i < S.length
    · rw [List.getElem?_append_left hl] at hi
      rw [List.getElem?_append_left (by rw [zWs_len]; exact hl), zWs_at hi, hM1 i (by omega) (by omega), hM1 (-10 - (i : Int)) (by omega) (by omega), zE_congr had (h9 i sh' hi), had i (by omega)]
    · have hil : i = S.length := by
        have := (List.getElem?_eq_some_iff.mp hi).1
        rw [List.length_append] at this
        simp at this
        omega
      subst hil
      rw [List.getElem?_append_right (Nat.le_refl _), Nat.sub_self] at hi
      cases hi
      rw [List.getElem?_append_right (by rw [zWs_len]; exact Nat.le_refl _), zWs_len, Nat.sub_self, he, zad_self]
      rfl
  rw [e1] at hP hD
  refine ⟨fun r hr => (had r (by omega)).trans (h1 r hr), by rw [List.length_append]; omega, fun r hr hr2 => ?_, hP, hD, hS, hb1, hb2, ?_⟩
  · rw [hM1 r (by omega) (by omega)]
    exact h3 r hr hr2
  · intro i sh' hi j hj
    rw [List.length_append, List.length_singleton]
    by_cases hl : i < S.length
    · rw [List.getElem?_append_left hl] at hi
      rw [hM1 i (by omega) (by omega), hM1 (-10 - (i : Int)) (by omega) (by omega)]
      exact zokE_up (by omega) (h9 i sh' hi j hj)
    · have hil : i = S.length := by
        have := (List.getElem?_eq_some_iff.mp hi).1
        rw [List.length_append] at this
        simp at this
        omega
      subst hil
      rw [List.getElem?_append_right (Nat.le_refl _), Nat.sub_self] at hi
      cases hi
      exact hc j hj
section
variable {y : zM} {d : Nat} {Q : zPost} {b : Nat × Nat} {S : List zSh} {pc : Nat} {L : List (Nat × zV)} {st : List zV} {M : zMm}
theorem z_new (ci : Nat) {n idx : Nat} {C : String} {T : u_T} (hd : decode y.2.1 pc = .ok (.new idx, 3)) (hcl : zcl[ci]? = some (C, T, n)) (hlink : Cond.classLink y.1.cls idx C ∈ lw_tbl) (hins : Cond.instantiable C n ∈ lw_tbl) (hini : Cond.initialized C ∈ lw_tbl) (hdf : ∀ j : Nat, j < n → (zty ci j = .int ∨ zty ci j = .boolean ∨ zty ci j = .long ∨ zik (zty ci j) = 2))
    (kk : zW y d Q b (S ++ [(ci + 4, n)]) (pc + 3) L (.inr (.inr (S.length : Int)) :: st) (znew M S.length)) : zW y d Q (b.1 + 1, b.2 + n) S pc L st M := by
  intro p l e R s m args below meth c D cA ad0 n0 Mn A Z hE hR ad H locs cells slots ls hW hL hs
  have hcl2 := zcl_ok ci _ hcl
  have hb1 : cells + (b.1 + 1) ≤ R.cells := hW.2.2.2.2.2.2.1
  have hb2 : slots + (b.2 + n) ≤ R.slots := hW.2.2.2.2.2.2.2.1
  have had : ∀ (q : Nat) (r : Int), r < S.length → zad ad S.length q r = ad r := fun q r hr => zad_ne (by omega)
  refine va_new (ci := ci) (fs := (List.range n).map (fun (j : Nat) => zfv ad (zty ci j) 0 (-1))) hE.1 hE.2.1 hE.2.2.2.2.1 (zT_ws hcl) (zty ci) hcl2.2.1 hE.2.2.2.1 (hE.2.2.2.2.1 _ (zT hlink rfl)) (hE.2.2.2.2.1 _ (zT hins rfl)) (hE.2.2.2.2.1 _ (zT hini rfl)) hE.2.2.2.2.2.2.2.2.1 hW.2.2.2.1 hW.2.2.2.2.1 hW.2.2.2.2.2.1 hE.2.2.2.2.2.2.2.2.2.2.1 hcl ?_ (by omega) (show slots + n ≤ R.slots by omega) hd fun q H1 hP1 hD1 hS1 => ?_
  · intro j hj
    show _ = ((List.range n).map _).getD j Value.null
    rw [List.getD_eq_getElem?_getD, List.getElem?_map, List.getElem?_range hj]
    show _ = zfv ad (zty ci j) 0 (-1)
    rcases hdf j hj with h | h | h | h
    · rw [h]; rfl
    · rw [h]; rfl
    · rw [h]; rfl
    · rw [zfv_r h]
      revert h
      cases zty ci j <;> intro h <;> first | rfl | (simp [zik] at h; done)
  · have k := kk p l e R s m args below meth c D cA ad0 n0 Mn A Z hE hR (zad ad S.length q) H1 locs (cells + 1) (slots + n) ls (zWd_new (M' := znew M S.length) hW (sh := (ci + 4, n)) (q := q) (fun c h1 h2 => znew_row h1 h2) ?_ (fun j hj => ?_) hP1 hD1 hS1 (by omega) (by omega)) (zLs_up hL (by simp) (had q)) (zc_cons (show zrr _ _ by unfold zrr; simp; omega) (fun v hv => zcV_up (by simp) (hs v hv)))
    · rw [List.map_cons, zcl_ref, zad_self, zmap_congr (had q) hs] at k
      exact k
    · show (Sum.inr (ci, _) : va_E) = Sum.inr (ci, (List.range n).map (fun (j : Nat) => zfv (zad ad S.length q) (zty ci j) (znew M S.length S.length j) (znew M S.length (-10 - (S.length : Int)) j)))
      congr 2
      apply List.map_congr_left
      intro j hj
      rw [znew_at, znew_ref (by omega)]
      exact (zfv_congr (n := S.length) (had q) (by
        rcases hdf j (List.mem_range.mp hj) with h | h | h | h
        · rw [h]; show z32 0; unfold z32; omega
        · rw [h]; show (0 : Int) ≤ 0 ∧ (0 : Int) ≤ 1; omega
        · rw [h]; show z64 0; unfold z64; omega
        · exact zok1_r2 h (by unfold zrr; omega))).symm
    · show zok1 _ (zty ci j) _ _
      rw [znew_at, znew_ref (by omega)]
      rcases hdf j hj with h | h | h | h
      · rw [h]; show z32 0; unfold z32; omega
      · rw [h]; show (0 : Int) ≤ 0 ∧ (0 : Int) ≤ 1; omega
      · rw [h]; show z64 0; unfold z64; omega
      · exact zok1_r2 h (by unfold zrr; omega)
theorem z_newa (kd : Nat) {n : Nat} {i : Int} {atype : ArrayType} (hd : decode y.2.1 pc = .ok (.newarray atype, 2)) (hkd : (kd = 0 ∧ atype = .int) ∨ (kd = 1 ∧ atype = .boolean) ∨ (kd = 2 ∧ atype = .long)) (hw : Cond.arrayClass (newarray.typeOf atype) ∈ lw_tbl) (hi : i = (n : Int)) (hn : n ≤ 10000)
    (kk : zW y d Q b (S ++ [(kd, n)]) (pc + 2) L (.inr (.inr (S.length : Int)) :: st) (znew M S.length)) : zW y d Q (b.1 + 1, b.2 + n) S pc L (.inl i :: st) M := by
  intro p l e R s m args below meth c D cA ad0 n0 Mn A Z hE hR ad H locs cells slots ls hW hL hs
  subst hi
  have hb1 : cells + (b.1 + 1) ≤ R.cells := hW.2.2.2.2.2.2.1
  have hb2 : slots + (b.2 + n) ≤ R.slots := hW.2.2.2.2.2.2.2.1
  have had : ∀ (q : Nat) (r : Int), r < S.length → zad ad S.length q r = ad r := fun q r hr => zad_ne (by omega)
  have h32 : z32 (n : Int) := by unfold z32; omega
  have hnn : ¬ Int32.ofInt (n : Int) < 0 := by
    rw [show (0 : Int32) = Int32.ofInt 0 from rfl, zi_lt h32 (by unfold z32; omega)]
    omega
  have hnt : (Int32.ofInt (n : Int)).toNatClampNeg = n := by rw [zi_nat h32]; omega
  have fin : ∀ (q : Nat) (cA' : ClassId) (H1 : Heap) (e9 : va_E), e9 = zE (zad ad S.length q) cA (kd, n) (znew M S.length S.length) (znew M S.length (-10 - (S.length : Int))) → va_P D zcl (zWs ad cA S M ++ [(q, e9)]) H1 → va_D A (zWs ad cA S M ++ [(q, e9)]) → va_S A s.heap H1 locs → W p l e R s m args below meth c H1 locs (cells + 1) (slots + n) Z (F0 m (pc + 2) ls (.ref q :: st.map (zc ad))) := by
    intro q cA' H1 e9 he hP1 hD1 hS1
    have k := kk p l e R s m args below meth c D cA ad0 n0 Mn A Z hE hR (zad ad S.length q) H1 locs (cells + 1) (slots + n) ls (zWd_new (M' := znew M S.length) hW (sh := (kd, n)) (q := q) (fun c h1 h2 => znew_row h1 h2) he (fun j hj => ?_) hP1 hD1 hS1 (by omega) (by omega)) (zLs_up hL (by simp) (had q)) (zc_cons (show zrr _ _ by unfold zrr; simp; omega) (fun v hv => zcV_up (by simp) (zc_tl hs v hv)))
    · rw [List.map_cons, zcl_ref, zad_self, zmap_congr (had q) (zc_tl hs)] at k
      exact k
    · rw [znew_at, znew_ref (by omega)]
      rcases hkd with ⟨rfl, -⟩ | ⟨rfl, -⟩ | ⟨rfl, -⟩
      · show z32 0; unfold z32; omega
      · show (0 : Int) ≤ 0 ∧ (0 : Int) ≤ 1; omega
      · show z64 0; unfold z64; omega
  have same : ∀ (q : Nat) (cA' : ClassId) (ty : FieldType), (ty = .int ∨ ty = .boolean ∨ ty = .long) → va_K D zcl (ztys cA ++ [(cA', ty)]) s → cA' = cA ty := by
    intro q cA' ty hty hK
    have h4 := (hK.2 4 (cA', ty) rfl).2
    rcases hty with rfl | rfl | rfl
    · have h0 := (hK.2 0 (cA .int, .int) rfl).2
      exact Option.some.inj (h4.symm.trans h0)
    · have h0 := (hK.2 1 (cA .boolean, .boolean) rfl).2
      exact Option.some.inj (h4.symm.trans h0)
    · have h0 := (hK.2 2 (cA .long, .long) rfl).2
      exact Option.some.inj (h4.symm.trans h0)
  rw [List.map_cons, zc_int]
  rcases hkd with ⟨rfl, rfl⟩ | ⟨rfl, rfl⟩ | ⟨rfl, rfl⟩
  · refine va_newa (ty := .int) (N' := n) (a0 := (n, .inl (fun _ => 0))) hE.1 hE.2.1 (hE.2.2.2.2.1 _ (zT hw rfl)) rfl hE.2.2.2.2.2.2.2.2.1 hW.2.2.2.1 hW.2.2.2.2.1 hW.2.2.2.2.2.1 hE.2.2.2.2.2.2.2.2.2.2.1 (fun _ => rfl) hnn hnt (by show n * 4 ≤ _; omega) (by omega) (by omega) hd fun q cA' H1 hK1 hP1 hD1 hS1 => ?_
    have ec := same q cA' .int (Or.inl rfl) hK1
    subst ec
    refine fin q (cA .int) H1 _ ?_ hP1 hD1 hS1
    show (Sum.inl (cA .int, n, Sum.inl _) : va_E) = Sum.inl (cA .int, n, Sum.inl (fun (j : Nat) => Int32.ofInt (znew M S.length S.length j)))
    congr 3
    congr 1
    funext j
    rw [znew_at]
    rfl
  · refine va_newa (ty := .boolean) (N' := n) (a0 := (n, .inl (fun _ => 0))) hE.1 hE.2.1 (hE.2.2.2.2.1 _ (zT hw rfl)) rfl hE.2.2.2.2.2.2.2.2.1 hW.2.2.2.1 hW.2.2.2.2.1 hW.2.2.2.2.2.1 hE.2.2.2.2.2.2.2.2.2.2.1 (fun _ => rfl) hnn hnt (by show n * 1 ≤ _; omega) (by omega) (by omega) hd fun q cA' H1 hK1 hP1 hD1 hS1 => ?_
    have ec := same q cA' .boolean (Or.inr (Or.inl rfl)) hK1
    subst ec
    refine fin q (cA .boolean) H1 _ ?_ hP1 hD1 hS1
    show (Sum.inl (cA .boolean, n, Sum.inl _) : va_E) = Sum.inl (cA .boolean, n, Sum.inl (fun (j : Nat) => Int32.ofInt (znew M S.length S.length j)))
    congr 3
    congr 1
    funext j
    rw [znew_at]
    rfl
  · refine va_newa (ty := .long) (N' := n) (a0 := (n, .inr (.inl (fun _ => 0)))) hE.1 hE.2.1 (hE.2.2.2.2.1 _ (zT hw rfl)) rfl hE.2.2.2.2.2.2.2.2.1 hW.2.2.2.1 hW.2.2.2.2.1 hW.2.2.2.2.2.1 hE.2.2.2.2.2.2.2.2.2.2.1 (fun _ => rfl) hnn hnt (by show n * 8 ≤ _; omega) (by omega) (by omega) hd fun q cA' H1 hK1 hP1 hD1 hS1 => ?_
    have ec := same q cA' .long (Or.inr (Or.inr rfl)) hK1
    subst ec
    refine fin q (cA .long) H1 _ ?_ hP1 hD1 hS1
    show (Sum.inl (cA .long, n, Sum.inr (Sum.inl _)) : va_E) = Sum.inl (cA .long, n, Sum.inr (Sum.inl (fun (j : Nat) => Int64.ofInt (znew M S.length S.length j))))
    congr 4
    congr 1
    funext j
    rw [znew_at]
    rfl
theorem z_objInit {idx : Nat} {r : Int} (hd : decode y.2.1 pc = .ok (.invokespecial idx, 3)) (hlink : Cond.methodLink y.1.cls idx objectInit ∈ lw_tbl) (hinst : Cond.instanceMethod objectInit ∈ lw_tbl) (hcode : Cond.code objectInit ⟨#[0xb1]⟩ 1 none ∈ lw_tbl) (hr : r ≠ -1) (hd1 : 1 ≤ d) (hst : st = []) (kk : zW y d Q b S (pc + 3) L st M) : zW y d Q b S pc L (.inr (.inr r) :: st) M := by
  intro p l e R s m args below meth c D cA ad0 n0 Mn A Z hE hR ad H locs cells slots ls hW hL hs
  subst hst
  have k := kk p l e R s m args below meth c D cA ad0 n0 Mn A Z hE hR ad H locs cells slots ls hW hL (zc_tl hs)
  rw [List.map_cons, show zc ad (.inr (.inr r)) = .ref (ad r) from zrf_ne hr]
  have hf := hE.2.2.2.2.2.1
  have hlo := hE.2.2.2.2.2.2.1
  exact W.objInit hE.1 hE.2.1 hE.2.2.2.1 (hE.2.2.2.2.1 _ (zT hlink rfl)) (hE.2.2.2.2.1 _ (zT hinst rfl)) (hE.2.2.2.2.1 _ (zT hcode rfl)) rfl (by rw [hE.2.2.1]; exact hL.1.1) rfl hd (by omega) (by show 0 + 0 + 12 ≤ _; omega) k
def zcpy (M : zMm) (r0 i r1 j n : Int) : zMm := fun c k => if c = r1 ∧ j ≤ k ∧ k < j + n then M r0 (i + (k - j)) else M c k
theorem zcpy_row {M : zMm} {r0 i r1 j n c : Int} (h : c ≠ r1) : zcpy M r0 i r1 j n c = M c := by
  funext k
  simp [zcpy, h]
theorem z_copyi (r0 r1 : Nat) {n0' n1' idx : Nat} {ra rb i j n : Int} (hd : decode y.2.1 pc = .ok (.invokestatic idx, 3)) (hlink : Cond.methodLink y.1.cls idx arraycopyName ∈ lw_tbl) (hnat : Cond.native arraycopyName ∈ lw_tbl) (hstat : Cond.static arraycopyName ∈ lw_tbl) (hini : Cond.initialized "java/lang/System" ∈ lw_tbl) (hr0 : ra = (r0 : Int)) (hr1 : rb = (r1 : Int)) (hsh0 : S[r0]? = some (0, n0')) (hsh1 : S[r1]? = some (0, n1')) (hi : 0 ≤ i ∧ 0 ≤ n ∧ i + n ≤ n0') (hj : 0 ≤ j ∧ j + n ≤ n1') (hd1 : 1 ≤ d) (hst : st = [])
    (kk : zW y d Q b S (pc + 3) L st (zcpy M ra i rb j n)) : zW y d Q b S pc L (.inl n :: .inl j :: .inr (.inr rb) :: .inl i :: .inr (.inr ra) :: st) M := by
  intro p l e R s m args below meth c D cA ad0 n0 Mn A Z hE hR ad H locs cells slots ls hW hL hs
  subst hr0
  subst hr1
  subst hst
  have hn32 : z32 n := zc_hd hs
  have hj32 : z32 j := zc_hd (zc_tl hs)
  have hi32 : z32 i := zc_hd (zc_tl (zc_tl (zc_tl hs)))
  have neg : ∀ x : Int, z32 x → 0 ≤ x → ¬ Int32.ofInt x < 0 := fun x hx h0 => by
    rw [show (0 : Int32) = Int32.ofInt 0 from rfl, zi_lt hx (by unfold z32; omega)]
    omega
  rw [List.map_cons, List.map_cons, List.map_cons, List.map_cons, List.map_cons, zcl_ref, zcl_ref, zc_int, zc_int, zc_int]
  have hf := hE.2.2.2.2.2.1
  have hlo := hE.2.2.2.2.2.2.1
  refine va_copyi hE.1 hE.2.1 (by rw [hE.2.2.1]; exact hL.1.1.symm) hE.2.2.2.1 (hE.2.2.2.2.1 _ (zT hlink rfl)) (hE.2.2.2.2.1 _ (zT hnat rfl)) (hE.2.2.2.2.1 _ (zT hstat rfl)) (hE.2.2.2.2.1 _ (zT hini rfl)) hE.2.2.2.2.2.2.2.2.1 hW.2.2.2.1 hW.2.2.2.2.1 hW.2.2.2.2.2.1 r0 r1 0 0 (zWs_at hsh0) (zWs_at hsh1) (show (ztys cA)[0]? = some (cA .int, .int) from rfl) (show (ztys cA)[0]? = some (cA .int, .int) from rfl) rfl (neg i hi32 hi.1) (neg j hj32 hj.1) (neg n hn32 hi.2.1) (by rw [zi_nat hi32, zi_nat hn32]; omega) (by rw [zi_nat hj32, zi_nat hn32]; omega) (fun _ _ => rfl) (by omega) (by
    have e : nativeFrameWords "java/lang/System" "arraycopy" 5 + 11 ≤ 40 := by decide +kernel
    show 0 + (nativeFrameWords "java/lang/System" "arraycopy" 5 + 11) ≤ _
    omega) hd fun H1 locs1 hP1 hD1 hS1 => ?_
  refine kk p l e R s m args below meth c D cA ad0 n0 Mn A Z hE hR ad H1 locs1 cells slots ls (zWd_upd (M' := zcpy M r0 i r1 j n) hW hsh1 ?_ (fun a _ ha => ⟨zcpy_row (by omega), zcpy_row (by omega)⟩) (fun x _ hx => zcpy_row (by omega)) ?_ hP1 hD1 hS1) hL (fun v hv => by cases hv)
  · show (Sum.inl (cA .int, n1', Sum.inl _) : va_E) = Sum.inl (cA .int, n1', Sum.inl (fun (k : Nat) => Int32.ofInt (zcpy M r0 i r1 j n r1 k)))
    congr 3
    congr 1
    funext k
    rw [zi_nat hi32, zi_nat hj32, zi_nat hn32]
    show (if j.toNat ≤ k ∧ k < j.toNat + n.toNat then _ else _) = _
    unfold zcpy
    by_cases hk : j ≤ (k : Int) ∧ (k : Int) < j + n
    · rw [if_pos (by omega), if_pos ⟨rfl, hk.1, hk.2⟩]
      show Int32.ofInt (M r0 ((i.toNat + (k - j.toNat) : Nat) : Int)) = _
      rw [show ((i.toNat + (k - j.toNat) : Nat) : Int) = i + ((k : Int) - j) by omega]
    · rw [if_neg (by omega), if_neg (fun q => hk q.2)]
  · intro a sh' ha k hk
    have h9 := hW.2.2.2.2.2.2.2.2
    rw [zcpy_row (c := -10 - (a : Int)) (by omega)]
    by_cases har : a = r1
    · subst har
      rw [hsh1] at ha
      cases ha
      unfold zcpy
      by_cases hk2 : j ≤ (k : Int) ∧ (k : Int) < j + n
      · rw [if_pos ⟨rfl, hk2.1, hk2.2⟩]
        have h8 := h9 r0 (0, n0') hsh0 (i + ((k : Int) - j)).toNat (by show (i + ((k : Int) - j)).toNat < n0'; omega)
        rw [Int.toNat_of_nonneg (by omega)] at h8
        exact h8
      · rw [if_neg (fun q => hk2 q.2)]
        exact h9 a _ hsh1 k hk
    · rw [zcpy_row (by omega)]
      exact h9 a sh' ha k hk
theorem z_copyl (r0 r1 : Nat) {n0' n1' idx : Nat} {ra rb i j n : Int} (hd : decode y.2.1 pc = .ok (.invokestatic idx, 3)) (hlink : Cond.methodLink y.1.cls idx arraycopyName ∈ lw_tbl) (hnat : Cond.native arraycopyName ∈ lw_tbl) (hstat : Cond.static arraycopyName ∈ lw_tbl) (hini : Cond.initialized "java/lang/System" ∈ lw_tbl) (hr0 : ra = (r0 : Int)) (hr1 : rb = (r1 : Int)) (hsh0 : S[r0]? = some (2, n0')) (hsh1 : S[r1]? = some (2, n1')) (hi : 0 ≤ i ∧ 0 ≤ n ∧ i + n ≤ n0') (hj : 0 ≤ j ∧ j + n ≤ n1') (hd1 : 1 ≤ d) (hst : st = [])
    (kk : zW y d Q b S (pc + 3) L st (zcpy M ra i rb j n)) : zW y d Q b S pc L (.inl n :: .inl j :: .inr (.inr rb) :: .inl i :: .inr (.inr ra) :: st) M := by
  intro p l e R s m args below meth c D cA ad0 n0 Mn A Z hE hR ad H locs cells slots ls hW hL hs
  subst hr0
  subst hr1
  subst hst
  have hn32 : z32 n := zc_hd hs
  have hj32 : z32 j := zc_hd (zc_tl hs)
  have hi32 : z32 i := zc_hd (zc_tl (zc_tl (zc_tl hs)))
  have neg : ∀ x : Int, z32 x → 0 ≤ x → ¬ Int32.ofInt x < 0 := fun x hx h0 => by
    rw [show (0 : Int32) = Int32.ofInt 0 from rfl, zi_lt hx (by unfold z32; omega)]
    omega
  rw [List.map_cons, List.map_cons, List.map_cons, List.map_cons, List.map_cons, zcl_ref, zcl_ref, zc_int, zc_int, zc_int]
  have hf := hE.2.2.2.2.2.1
  have hlo := hE.2.2.2.2.2.2.1
  refine va_copyl hE.1 hE.2.1 (by rw [hE.2.2.1]; exact hL.1.1.symm) hE.2.2.2.1 (hE.2.2.2.2.1 _ (zT hlink rfl)) (hE.2.2.2.2.1 _ (zT hnat rfl)) (hE.2.2.2.2.1 _ (zT hstat rfl)) (hE.2.2.2.2.1 _ (zT hini rfl)) hE.2.2.2.2.2.2.2.2.1 hW.2.2.2.1 hW.2.2.2.2.1 hW.2.2.2.2.2.1 r0 r1 2 2 (zWs_at hsh0) (zWs_at hsh1) (show (ztys cA)[2]? = some (cA .long, .long) from rfl) (show (ztys cA)[2]? = some (cA .long, .long) from rfl) rfl (neg i hi32 hi.1) (neg j hj32 hj.1) (neg n hn32 hi.2.1) (by rw [zi_nat hi32, zi_nat hn32]; omega) (by rw [zi_nat hj32, zi_nat hn32]; omega) (fun _ _ => rfl) (by omega) (by
    have e : nativeFrameWords "java/lang/System" "arraycopy" 5 + 11 ≤ 40 := by decide +kernel
    show 0 + (nativeFrameWords "java/lang/System" "arraycopy" 5 + 11) ≤ _
    omega) hd fun H1 locs1 hP1 hD1 hS1 => ?_
  refine kk p l e R s m args below meth c D cA ad0 n0 Mn A Z hE hR ad H1 locs1 cells slots ls (zWd_upd (M' := zcpy M r0 i r1 j n) hW hsh1 ?_ (fun a _ ha => ⟨zcpy_row (by omega), zcpy_row (by omega)⟩) (fun x _ hx => zcpy_row (by omega)) ?_ hP1 hD1 hS1) hL (fun v hv => by cases hv)
  · show (Sum.inl (cA .long, n1', Sum.inr (Sum.inl _)) : va_E) = Sum.inl (cA .long, n1', Sum.inr (Sum.inl (fun (k : Nat) => Int64.ofInt (zcpy M r0 i r1 j n r1 k))))
    congr 4
    congr 1
    funext k
    rw [zi_nat hi32, zi_nat hj32, zi_nat hn32]
    show (if j.toNat ≤ k ∧ k < j.toNat + n.toNat then _ else _) = _
    unfold zcpy
    by_cases hk : j ≤ (k : Int) ∧ (k : Int) < j + n
    · rw [if_pos (by omega), if_pos ⟨rfl, hk.1, hk.2⟩]
      show Int64.ofInt (M r0 ((i.toNat + (k - j.toNat) : Nat) : Int)) = _
      rw [show ((i.toNat + (k - j.toNat) : Nat) : Int) = i + ((k : Int) - j) by omega]
    · rw [if_neg (by omega), if_neg (fun q => hk q.2)]
  · intro a sh' ha k hk
    have h9 := hW.2.2.2.2.2.2.2.2
    rw [zcpy_row (c := -10 - (a : Int)) (by omega)]
    by_cases har : a = r1
    · subst har
      rw [hsh1] at ha
      cases ha
      unfold zcpy
      by_cases hk2 : j ≤ (k : Int) ∧ (k : Int) < j + n
      · rw [if_pos ⟨rfl, hk2.1, hk2.2⟩]
        have h8 := h9 r0 (2, n0') hsh0 (i + ((k : Int) - j)).toNat (by show (i + ((k : Int) - j)).toNat < n0'; omega)
        rw [Int.toNat_of_nonneg (by omega)] at h8
        exact h8
      · rw [if_neg (fun q => hk2 q.2)]
        exact h9 a _ hsh1 k hk
    · rw [zcpy_row (by omega)]
      exact h9 a sh' ha k hk
end
end
section
/-! the rules of zW: calls. A walk from a method's entry is a contract; a contract is used at every call -/
def zws (y : zM) : List Cond := .code y.1 y.2.1 y.2.2.1 y.2.2.2 :: zTb
def zrm (d : Nat) (b : Nat × Nat) : Room := { frames := d, cells := b.1, slots := b.2, locals := 40 * d }
def zargs : Nat → List zV → List (Nat × zV)
  | _, [] => []
  | i, v :: vs => (i, v) :: zargs (if zcat2 v = true then i + 2 else i + 1) vs
theorem zargs_lv (ad : Int → Nat) : ∀ (vs : List zV) (i : Nat), lv_args i (vs.map (zc ad)) = (zargs i vs).map (fun q => (q.1, zc ad q.2))
  | [], _ => rfl
  | v :: vs, i => by
    rw [List.map_cons]
    unfold lv_args zargs
    rw [List.map_cons, ← zargs_lv ad vs]
    have h := zcat_of ad v
    by_cases hc : zcat2 v = true
    · rw [hc] at h
      rw [if_pos hc, if_pos (by simpa using h)]
    · rw [if_neg hc, if_neg (fun q => hc (by rw [← h]; simpa using q))]
def zlen : List zV → Nat
  | [] => 0
  | v :: vs => (if zcat2 v = true then 2 else 1) + zlen vs
theorem zlen_cons (v : zV) (vs : List zV) : zlen (v :: vs) = (if zcat2 v = true then 2 else 1) + zlen vs := rfl
theorem zlen_lg (ad : Int → Nat) : ∀ vs : List zV, (lg_sl (vs.map (zc ad))).length = zlen vs
  | [] => rfl
  | v :: vs => by
    have ih := zlen_lg ad vs
    unfold lg_sl at ih ⊢
    rw [List.map_cons, List.flatMap_cons, List.length_append, ih, zlen_cons]
    have h := zcat_of ad v
    by_cases hc : zcat2 v = true
    · rw [hc] at h
      rw [if_pos hc, if_pos (by simpa using h)]
      rfl
    · rw [if_neg hc, if_neg (fun q => hc (by rw [← h]; simpa using q))]
      rfl
def zPre (S : List zSh) (M : zMm) (args : List zV) (D : va_G) (cA : FieldType → ClassId) (ad : Int → Nat) (Mn : zMm) (A : Nat → Prop) (U : State) : Prop :=
  va_P D zcl (zWs ad cA S M) U.heap ∧ va_D A (zWs ad cA S M) ∧ va_K D zcl (ztys cA) U ∧ zSt ad Mn A U U.heap ∧ (∀ q, U.heap.size ≤ q → A q) ∧ zNs U ∧ zcM S M ∧ (∀ v ∈ args, zcV S.length v) ∧ ∀ r : Int, -5 < r → r < 0 → M r = Mn r
def zQc (Q : zPost) (S : List zSh) (D : va_G) (cA : FieldType → ClassId) (ad : Int → Nat) (Mn : zMm) (A : Nat → Prop) : Array Value → State → Outcome → State → Prop := fun _ st o t =>
  ∃ (rv : Option zV) (S' : List zSh) (M' : zMm) (ad' : Int → Nat), o = .returned (rv.map (zc ad')) ∧ Q rv S' M' ∧ (∀ r : Int, r < S.length → ad' r = ad r) ∧ S.length ≤ S'.length ∧ (∀ r : Int, -5 < r → r < 0 → M' r = Mn r) ∧ va_P D zcl (zWs ad' cA S' M') t.heap ∧ va_D A (zWs ad' cA S' M') ∧ va_F A st t ∧ zcM S' M' ∧ ∀ v ∈ rv, zcV S'.length v
theorem zSt_to {ad ad' : Int → Nat} {Mn : zMm} {A : Nat → Prop} {s U : State} {H H' : Heap} (h : zSt ad Mn A s H) (hvm : s.vm.Alike U.vm) (hq : ∀ a : Nat, a < H.size → ¬ A a → H'[a]? = H[a]?) (had : ∀ r : Int, r = -2 ∨ r = -3 ∨ r = -4 → ad' r = ad r) : zSt ad' Mn A U H' := by
  obtain ⟨h1, h2, h3⟩ := h
  refine ⟨fun r hr => ?_, ?_, ?_⟩
  · rw [had r hr]
    exact ⟨((h1 r hr).1.kept hq).moved hvm, (h1 r hr).2⟩
  · rw [had (-3) (by omega)]
    exact (h2.kept hq).moved hvm
  · rw [had (-4) (by omega)]
    exact (h3.kept hq).moved hvm
theorem zMet_of {y : zM} {d : Nat} {b : Nat × Nat} {S : List zSh} {args : List zV} {M : zMm} {Q : zPost} (hpl : plainName y.1.cls = true) (hmax : zlen args ≤ y.2.2.1) (h : zW y d Q b S 0 (zargs 0 args) [] M) (l : Launch) (D : va_G) (cA : FieldType → ClassId) (ad : Int → Nat) (Mn : zMm) (A : Nat → Prop) :
    Met l y.1 (zws y) (zrm d b) (va_Pc (args.map (zc ad)) (zPre S M args D cA ad Mn A)) (zQc Q S D cA ad Mn A) b.1 b.2 A := by
  refine Met.ofW (cc := y.2.1) (maxL := y.2.2.1) (ret := y.2.2.2) hpl rfl ?_
  intro p e s m args' below meth c s₁ B hml hv
  obtain ⟨rfl, hP, hD, hK, hSt, hA, hNs, hcM, hcA, hneg⟩ := hv
  have hts := atoms_spec (ws := zws y) B.pre
  have hown := findClass_of_methodNamed B.named
  have hlocks : meth.locks = false := B.notSynchronized
  have hS0 : va_S A s.heap s.heap [] := va_S.rf
  rw [lg_entry_eq]
  have hl := lv_entry (args.map (zc ad)) (n := y.2.2.1) (by rw [zlen_lg]; exact hmax)
  rw [zargs_lv] at hl
  have hac : ∀ (vs : List zV) (i : Nat), (∀ v ∈ vs, zcV S.length v) → ∀ q ∈ zargs i vs, zcV S.length q.2 := by
    intro vs
    induction vs with
    | nil => intro i _ q hq; cases hq
    | cons v vs ih =>
      intro i hv q hq
      rcases List.mem_cons.mp hq with rfl | hq
      · exact hv v List.mem_cons_self
      · exact ih _ (fun w hw => hv w (List.mem_cons_of_mem _ hw)) q hq
  refine h p l e (headSpec (zws y) (zrm d b)).room s m _ below meth c D cA ad S.length Mn A _ ⟨B.exec, B.bytes, hml, hown, fun w hw => hts w (List.mem_cons_of_mem _ hw), Nat.le_refl _, Nat.le_refl _, fun hn => (name_of_methodNamed B.named B.method).1.trans hn, hK, hSt, hA, hNs⟩ ?_ ad s.heap [] 0 0 _ ⟨fun _ _ => rfl, Nat.le_refl _, hneg, hP, hD, hS0, by show 0 + b.1 ≤ b.1; omega, by show 0 + b.2 ≤ b.2; omega, hcM⟩ ⟨hl, hac args 0 hcA⟩ (fun v hv => by cases hv)
  intro rv S' M' ad' H locs cells slots pc ls hw hrv hq hok hdec
  obtain ⟨w1, w2, w3, w4, w5, w6, w7, w8, w9⟩ := hw
  have hc1 : cells ≤ b.1 := by have : cells + 0 ≤ b.1 := w7; omega
  have hc2 : slots ≤ b.2 := by have : slots + 0 ≤ b.2 := w8; omega
  refine W.widen hc1 hc2 ?_
  have hend : ∀ t : State, t.heap = H → zQc Q S D cA ad Mn A (args.map (zc ad)).toArray s (.returned (rv.map (zc ad'))) t := fun t ht => ⟨rv, S', M', ad', rfl, hq, w1, w2, w3, by rw [ht]; exact w4, w5, ⟨by rw [ht]; exact w6.1, fun q h1 h2 => by rw [ht]; exact w6.2.1 q h1 h2⟩, w9, hrv⟩
  have hr := B.returns
  rcases rv with _ | v
  · have hret : y.2.2.2 = none := by
      revert hok; cases y.2.2.2 with
      | none => intro _; rfl
      | some ty => intro hok; cases ty <;> exact hok.elim
    rw [hret] at hr
    exact W.vret B.exec B.bytes hr (fun t ht _ => hend t ht) w6.2.2 hdec
  · rcases v with x | x | x
    · rw [Option.toList_some, List.map_cons, List.map_nil, zc_int]
      rcases hty : y.2.2.2 with _ | ty
      · rw [hty] at hok; exact hok.elim
      · rw [hty] at hok hr
        have hn : narrow ty (.int (Int32.ofInt x)) = .int (Int32.ofInt x) := by
          cases ty <;> first | rfl | exact hok.elim | (have h2 : 0 ≤ x ∧ x ≤ 1 := hok; rcases (show x = 0 ∨ x = 1 by omega) with rfl | rfl <;> rfl)
        exact W.zret B.exec B.bytes hr hn (fun t ht _ => hend t ht) w6.2.2 hdec
    · rw [Option.toList_some, List.map_cons, List.map_nil, zc_long]
      have hret : y.2.2.2 = some .long := by
        revert hok; cases y.2.2.2 with
        | none => intro hok; exact hok.elim
        | some ty => intro hok; cases ty <;> first | rfl | exact hok.elim
      rw [hret] at hr
      exact W.lret B.exec B.bytes hr (fun t ht _ => hend t ht) w6.2.2 hdec
    · exfalso
      revert hok; cases y.2.2.2 with
      | none => intro hok; exact hok
      | some ty => intro hok; cases ty <;> exact hok
/-- what the tables say of a method that is called -/
def zokB (z : zM) (n : Nat) : Prop := Cond.initialized z.1.cls ∈ lw_tbl ∧ Cond.code z.1 z.2.1 z.2.2.1 z.2.2.2 ∈ lw_tbl ∧ plainName z.1.cls = true ∧ (z.1.cls ≠ "java/lang/invoke/MethodHandle" ∧ z.1.cls ≠ "java/lang/invoke/VarHandle") ∧ (parseMethodDescriptor z.1.desc).map (fun d => d.parameters.length) = some n ∧ z.2.2.1 ≤ 21
def zokV (z : zM) (n : Nat) : Prop := zokB z n ∧ Cond.instanceMethod z.1 ∈ lw_tbl ∧ Cond.selects z.1.cls z.1 z.1 ∈ lw_tbl
def zokS (z : zM) (n : Nat) : Prop := zokB z n ∧ Cond.static z.1 ∈ lw_tbl
def zokI (z : zM) (n : Nat) : Prop := zokB z n ∧ Cond.instanceMethod z.1 ∈ lw_tbl ∧ z.1.name = "<init>" ∧ z.2.2.2 = none
theorem zgd {w : Cond} (h : w ∈ zTb) : w ∈ zTb ∧ ((w.onTables && w.keeps) = true ∨ ∃ ty, w = .arrayClass ty) := ⟨h, good_of_word (List.mem_filter.mp h).2⟩
theorem zgin {z : zM} {n : Nat} (h : zokB z n) : GoodIn zTb (zws z) := by
  intro w hw
  rcases List.mem_cons.mp hw with rfl | hw
  · exact zgd (zT h.2.1 rfl)
  · exact zgd hw
theorem zidx {u U : State} (hvm : u.vm.Alike U.vm) (f : Class → Bool) (hf : ∀ x y : Class, x.kind = y.kind → f x = f y) : u.vm.classes.findIdx? f = U.vm.classes.findIdx? f := by
  have e : ∀ v : Vm, v.bare.classes.findIdx? f = v.classes.findIdx? f := by
    intro v
    simp only [Vm.bare, Array.findIdx?_map]
    congr 1
    funext x
    exact hf _ _ rfl
  rw [← e u.vm, ← e U.vm, hvm.bare_eq]
theorem zAO_moved {u U : State} (hvm : u.vm.Alike U.vm) (h : (Cond.arrayOver (.array .long)).before #[] u = true) : (Cond.arrayOver (.array .long)).before #[] U = true := by
  unfold Cond.before Cond.holds at h ⊢
  simp only [Cond.value] at h ⊢
  rw [hvm.findClass]
  revert h
  cases u.vm.findClass (FieldType.array .long).toString with
  | none => intro h; exact h
  | some comp =>
    simp only [Option.bind_some]
    rw [zidx hvm _ (by intro x y hk; simp only [hk])]
    cases (Array.findIdx? _ U.vm.classes) with
    | none => intro h; exact h
    | some c =>
      simp only [Option.bind_some]
      intro h
      cases hc : u.vm.classes[c]? with
      | none => rw [hc] at h; simp at h
      | some k =>
        obtain ⟨k', hk', he⟩ := hvm.2.2 _ _ hc
        rw [hc] at h
        rw [hk']
        simp only [Option.map_some] at h ⊢
        rw [he, hvm.findClass]
        exact h
theorem zNs_to {s U : State} (hW : s.WarmedH U.vm) (h : zNs s) : zNs U := ⟨fun x1 x2 x3 x4 hw => va_Nw.warmM hW (h.1 x1 x2 x3 x4 hw), zAO_moved hW.alike h.2⟩
theorem zblind {args : List zV} {S : List zSh} {M : zMm} {as : List zV} {D : va_G} {cA : FieldType → ClassId} {ad : Int → Nat} {Mn : zMm} {A : Nat → Prop} : FrameBlind (va_Pc (args.map (zc ad)) (zPre S M as D cA ad Mn A)) := by
  intro a U g mk h
  obtain ⟨h0, h1, h2, h3, h4, h5, h9, h6, h7, h8⟩ := h
  exact ⟨h0, h1, h2, va_K.moved (u := U) (U := U.calling g mk a) (Vm.Alike.refl U.vm) h3, zSt_to (s := U) (U := U.calling g mk a) h4 (Vm.Alike.refl U.vm) (fun _ _ _ => rfl) (fun _ _ => rfl), h5, ⟨fun x1 x2 x3 x4 hw => va_Nw.same rfl rfl (h9.1 x1 x2 x3 x4 hw), zAO_moved (u := U) (U := U.calling g mk a) (Vm.Alike.refl U.vm) h9.2⟩, h6, h7, h8⟩
section
variable {y : zM} {d : Nat} {Q : zPost} {b : Nat × Nat} {S : List zSh} {pc : Nat} {L : List (Nat × zV)} {st : List zV} {M : zMm}
/-- a world in the state before a call, as the callee's pre says it -/
theorem zPre_of {p : Program} {R : Room} {s : State} {m : MethodId} {args : Array Value} {meth : Method} {c : Code} {D : va_G} {cA : FieldType → ClassId} {ad0 ad : Int → Nat} {n0 : Nat} {Mn : zMm} {A : Nat → Prop} {H : Heap} {locs : List Loc} {cells slots : Nat} {as : List zV} (hn0 : n0 ≤ S.length) (hE : zEnv y d p R s m args meth c D cA ad0 Mn A) (hW : zWd b S M D cA ad0 n0 Mn A R s ad H locs cells slots) (hs : ∀ v ∈ as, zcV S.length v) (U : State) (hU : U.heap = H) (hw : s.WarmedH U.vm) : zPre S M as D cA ad Mn A U := by
  refine ⟨by rw [hU]; exact hW.2.2.2.1, hW.2.2.2.2.1, va_K.moved hw.alike hE.2.2.2.2.2.2.2.2.1, ?_, fun q hq => hE.2.2.2.2.2.2.2.2.2.2.1 q (Nat.le_trans hW.2.2.2.2.2.1.1 (by rw [hU] at hq; exact hq)), zNs_to hw hE.2.2.2.2.2.2.2.2.2.2.2, hW.2.2.2.2.2.2.2.2, hs, hW.2.2.1⟩
  refine zSt_to hE.2.2.2.2.2.2.2.2.2.1 hw.alike (fun a h1 h2 => by rw [hU]; exact hW.2.2.2.2.2.1.2.1 a h1 h2) (fun r hr => hW.1 r (by omega))
/-- behind a call -/
theorem z_back {p : Program} {l : Launch} {e : Env} {R : Room} {s : State} {m : MethodId} {args : Array Value} {below : List Frame} {meth : Method} {c : Code} {D : va_G} {cA : FieldType → ClassId} {ad0 ad : Int → Nat} {n0 : Nat} {Mn : zMm} {A : Nat → Prop} {Z : State → Prop} {H : Heap} {locs : List Loc} {cells slots : Nat} {ls : Array Slot} {bz b' : Nat × Nat} {Qz : zPost} {As : Array Value} {st0 : List Value}
    (hE : zEnv y d p R s m args meth c D cA ad0 Mn A) (hR : zRet y Q p l e R s m args below meth c D cA ad0 n0 Mn A Z) (hW : zWd b S M D cA ad0 n0 Mn A R s ad H locs cells slots) (hL : zLs y.2.2.1 S.length L ad ls) (hs : ∀ v ∈ st, zcV S.length v) (hb : bz.1 + b'.1 ≤ b.1 ∧ bz.2 + b'.2 ≤ b.2)
    (hr : ∀ T : State, T.heap = H → Stand p l e R s m args below meth c T locs cells slots → ∃ (v : Option Value) (st₀ t T' : State) (Lc : List Loc), st₀.heap = H ∧ Stand p l e R s m args below meth c T' (locs ++ Lc) (cells + bz.1) (slots + bz.2) ∧ (∀ q ∈ Lc, A q.base) ∧ T'.heap = t.heap ∧ zQc Qz S D cA ad Mn A As st₀ (.returned v) t ∧ Goes p e below T (F0 m pc ls st0) T' (F0 m (pc + 3) ls (v.toList ++ st.map (zc ad))))
    (kk : ∀ (rv : Option zV) (S' : List zSh) (M' : zMm), Qz rv S' M' → zW y d Q b' S' (pc + 3) L (rv.toList ++ st) M') : W p l e R s m args below meth c H locs cells slots Z (F0 m pc ls st0) := by
  intro T hT X
  obtain ⟨v, st₀, t, T', Lc, h0, X', hLc, e1, ⟨rv, S', M', ad', hv, hq, a1, a2, a3, a4, a5, a6, a7, a8⟩, go⟩ := hr T hT X
  obtain ⟨w1, w2, w3, w4, w5, w6, w7, w8, w9⟩ := hW
  cases hv
  have hd : zWd b' S' M' D cA ad0 n0 Mn A R s ad' T'.heap (locs ++ Lc) (cells + bz.1) (slots + bz.2) := by
    refine ⟨fun r hr => (a1 r (by omega)).trans (w1 r hr), by omega, a3, by rw [e1]; exact a4, a5, ⟨?_, fun q h1 h2 => ?_, fun q hq => ?_⟩, by omega, by omega, a7⟩
    · rw [e1]
      have h6 := a6.1
      rw [h0] at h6
      exact Nat.le_trans w6.1 h6
    · rw [e1, a6.2 q (by rw [h0]; exact Nat.lt_of_lt_of_le h1 w6.1) h2, h0]
      exact w6.2.1 q h1 h2
    · rcases List.mem_append.mp hq with hq | hq
      · exact w6.2.2 q hq
      · exact hLc q hq
  have k := kk rv S' M' hq p l e R s m args below meth c D cA ad0 n0 Mn A Z hE hR ad' T'.heap (locs ++ Lc) (cells + bz.1) (slots + bz.2) ls hd (zLs_up hL a2 a1) (fun v hv => by
    rcases List.mem_append.mp hv with hv | hv
    · exact a8 v (by simpa using hv)
    · exact zcV_up a2 (hs v hv))
  obtain ⟨t2, s1, s2⟩ := k T' rfl X'
  refine ⟨t2, go t2 ?_, s2⟩
  have e3 : (rv.map (zc ad')).toList ++ st.map (zc ad) = (rv.toList ++ st).map (zc ad') := by
    rw [List.map_append, zmap_congr a1 hs]
    cases rv <;> rfl
  rw [e3]
  exact s1
theorem zcat_sum {ad : Int → Nat} : ∀ {st : List zV}, ((st.map (zc ad)).map fun v => v.category).sum = (st.map fun v => if zcat2 v = true then 2 else 1).sum
  | [] => rfl
  | v :: st => by
    rw [List.map_cons, List.map_cons, List.map_cons, List.sum_cons, List.sum_cons, zcat_sum]
    have h := zcat_of ad v
    by_cases hc : zcat2 v = true
    · rw [hc] at h
      rw [if_pos hc, show (zc ad v).category = 2 by simpa using h]
    · rw [if_neg hc, zcat1 ad (by simpa using hc)]
/-- invokevirtual: of the object at r, the arguments as (last first) on the stack -/
theorem z_inv (z : zM) (r ci : Nat) (as : List zV) {n d1 idx : Nat} {bz b' : Nat × Nat} {Qz : zPost} {ri : Int} {st0 : List zV} {C : String} {T : u_T} {N : Nat} (hd : decode y.2.1 pc = .ok (.invokevirtual idx, 3)) (hlink : Cond.methodLink y.1.cls idx z.1 ∈ lw_tbl) (hz : zokV z n) (hr : ri = (r : Int)) (hsh : S[r]? = some (ci + 4, N)) (hcl : zcl[ci]? = some (C, T, N)) (hC : z.1.cls = C) (has : as.length = n) (hst : st0 = as.reverse ++ .inr (.inr ri) :: st) (hsum : (st.map fun v => if zcat2 v = true then 2 else 1).sum ≤ 8) (hd1 : d1 + 1 ≤ d) (hb : bz.1 + b'.1 ≤ b.1 ∧ bz.2 + b'.2 ≤ b.2) (hmax : zlen (.inr (.inr ri) :: as) ≤ z.2.2.1)
    (hM : zW z d1 Qz bz S 0 (zargs 0 (.inr (.inr ri) :: as)) [] M) (kk : ∀ (rv : Option zV) (S' : List zSh) (M' : zMm), Qz rv S' M' → zW y d Q b' S' (pc + 3) L (rv.toList ++ st) M') : zW y d Q b S pc L st0 M := by
  intro p l e R s m args below meth c D cA ad0 n0 Mn A Z hE hR ad H locs cells slots ls hW hL hs
  subst hr
  subst hst
  obtain ⟨⟨z1, z2, z3, z4, z5, z6⟩, z7, z8⟩ := hz
  have hs2 : ∀ v ∈ st, zcV S.length v := fun v hv => hs v (List.mem_append_right _ (List.mem_cons_of_mem _ hv))
  have hs3 : ∀ v ∈ .inr (.inr (r : Int)) :: as, zcV S.length v := fun v hv => by
    rcases List.mem_cons.mp hv with rfl | hv
    · exact hs _ (List.mem_append_right _ List.mem_cons_self)
    · exact hs v (List.mem_append_left _ (List.mem_reverse.mpr hv))
  have hM9 := zMet_of z3 hmax hM l D cA ad Mn A
  have hfr := hE.2.2.2.2.2.1
  have hlo := hE.2.2.2.2.2.2.1
  have hgin : GoodIn zTb (wsV y.1.cls idx C z.1 (zws z)) := by
    intro w hw
    rcases List.mem_append.mp hw with hw | hw
    · rw [← hC] at hw
      simp only [List.mem_cons, List.not_mem_nil, or_false] at hw
      rcases hw with rfl | rfl | rfl | rfl
      · exact zgd (zT hlink rfl)
      · exact zgd (zT z7 rfl)
      · exact zgd (zT z8 rfl)
      · exact zgd (zT z1 rfl)
    · exact zgin (n := n) ⟨z1, z2, z3, z4, z5, z6⟩ w hw
  have hmap : (as.map (zc ad)).length = n := by rw [List.length_map]; exact has
  have hrun := W.runV (R := R) (H := H) (locs := locs) (cells := cells) (slots := slots) (l := l) (e := e) (below := below) (meth := meth) (g := F0 m pc ls ((as.map (zc ad)).reverse ++ .ref (ad r) :: st.map (zc ad))) (As := as.map (zc ad)) (b := ad r) (rest := st.map (zc ad)) (n := n) (nL := y.2.2.1) (cc := y.2.1) (Ts := zTb) (own := y.1.cls) (index := idx) (C := C) (maxL := z.2.2.1) (bytes := z.2.1) (ret := z.2.2.2) ⟨hE.1, hE.2.1, hE.2.2.1, hE.2.2.2.1, hE.2.2.2.2.1⟩ hM9
    (cwV n hE.2.2.2.2.1 hgin rfl rfl rfl ⟨hC, z4.1, z4.2, z5⟩ ⟨by show d1 + 1 ≤ _; omega, by show 8 + (z.2.2.1 + 11) + 40 * d1 ≤ _; omega⟩)
    ⟨by
      have hbl := zblind (args := .inr (.inr (r : Int)) :: as) (S := S) (M := M) (as := .inr (.inr (r : Int)) :: as) (D := D) (cA := cA) (ad := ad) (Mn := Mn) (A := A)
      exact hbl, by
      obtain ⟨cell, c1, c2, c3⟩ := va_recv hE.2.2.2.2.2.2.2.2.1 hW.2.2.2.1 hcl (zWs_at hsh)
      exact ⟨cell, c1, c2, c3⟩, fun U hU hw => ⟨by rw [List.map_cons, zcl_ref], zPre_of hW.2.1 hE hW hs3 U hU hw⟩⟩
    rfl hmap hL.1.1 rfl (lv_room (by rw [zcat_sum]; exact hsum)) hd ⟨by have := hW.2.2.2.2.2.2.1; omega, by have := hW.2.2.2.2.2.2.2.1; omega⟩
  refine z_back (bz := bz) (b' := b') (Qz := Qz) (As := (Value.ref (ad r) :: as.map (zc ad)).toArray) hE hR hW hL hs2 hb (fun T hT X => ?_) kk
  have e4 : (as.reverse ++ .inr (.inr (r : Int)) :: st).map (zc ad) = (as.map (zc ad)).reverse ++ .ref (ad r) :: st.map (zc ad) := by
    rw [List.map_append, List.map_reverse, List.map_cons, zcl_ref]
  rw [e4]
  obtain ⟨v, st₀, t, T', Lc, q1, q2, q3, q4, q5, q6⟩ := hrun T hT X
  exact ⟨v, st₀, t, T', Lc, q1, q2, q3, q4, q5, q6⟩
/-- invokestatic of the class's own -/
theorem z_invs (z : zM) (as : List zV) {n d1 idx : Nat} {bz b' : Nat × Nat} {Qz : zPost} {st0 : List zV} (hd : decode y.2.1 pc = .ok (.invokestatic idx, 3)) (hlink : Cond.methodLink y.1.cls idx z.1 ∈ lw_tbl ∨ Cond.methodLinkNest y.1.cls idx z.1 "SixWalls" ∈ lw_tbl) (hz : zokS z n) (has : as.length = n) (hst : st0 = as.reverse ++ st) (hsum : (st.map fun v => if zcat2 v = true then 2 else 1).sum ≤ 8) (hd1 : d1 + 1 ≤ d) (hb : bz.1 + b'.1 ≤ b.1 ∧ bz.2 + b'.2 ≤ b.2) (hmax : zlen as ≤ z.2.2.1)
    (hM : zW z d1 Qz bz S 0 (zargs 0 as) [] M) (kk : ∀ (rv : Option zV) (S' : List zSh) (M' : zMm), Qz rv S' M' → zW y d Q b' S' (pc + 3) L (rv.toList ++ st) M') : zW y d Q b S pc L st0 M := by
  intro p l e R s m args below meth c D cA ad0 n0 Mn A Z hE hR ad H locs cells slots ls hW hL hs
  subst hst
  obtain ⟨⟨z1, z2, z3, z4, z5, z6⟩, z7⟩ := hz
  have hs2 : ∀ v ∈ st, zcV S.length v := fun v hv => hs v (List.mem_append_right _ hv)
  have hs3 : ∀ v ∈ as, zcV S.length v := fun v hv => hs v (List.mem_append_left _ (List.mem_reverse.mpr hv))
  have hM9 := zMet_of z3 hmax hM l D cA ad Mn A
  have hfr := hE.2.2.2.2.2.1
  have hlo := hE.2.2.2.2.2.2.1
  have hmap : (as.map (zc ad)).length = n := by rw [List.length_map]; exact has
  have e4 : (as.reverse ++ st).map (zc ad) = (as.map (zc ad)).reverse ++ st.map (zc ad) := by
    rw [List.map_append, List.map_reverse]
  rw [e4]
  have hpre : PreS s H (va_Pc (as.map (zc ad)) (zPre S M as D cA ad Mn A)) (as.map (zc ad)) := ⟨zblind, fun U hU hw => ⟨rfl, zPre_of hW.2.1 hE hW hs3 U hU hw⟩⟩
  have hroom : (zrm d1 bz).frames + 1 ≤ R.frames ∧ 8 + (z.2.2.1 + 11) + (zrm d1 bz).locals ≤ R.locals := ⟨by show d1 + 1 ≤ _; omega, by show 8 + (z.2.2.1 + 11) + 40 * d1 ≤ _; omega⟩
  have hbud : cells + bz.1 ≤ R.cells ∧ slots + bz.2 ≤ R.slots := ⟨by have := hW.2.2.2.2.2.2.1; omega, by have := hW.2.2.2.2.2.2.2.1; omega⟩
  rcases hlink with hlink | hlink
  · have hrun := W.runS (R := R) (H := H) (locs := locs) (cells := cells) (slots := slots) (l := l) (e := e) (below := below) (meth := meth) (g := F0 m pc ls ((as.map (zc ad)).reverse ++ st.map (zc ad))) (As := as.map (zc ad)) (rest := st.map (zc ad)) (n := n) (nL := y.2.2.1) (cc := y.2.1) (Ts := zTb) (own := y.1.cls) (index := idx) (maxL := z.2.2.1) (bytes := z.2.1) (ret := z.2.2.2) ⟨hE.1, hE.2.1, hE.2.2.1, hE.2.2.2.1, hE.2.2.2.2.1⟩ hM9
      ⟨callB_of n hE.2.2.2.2.1 (zgin (n := n) ⟨z1, z2, z3, z4, z5, z6⟩) rfl rfl rfl (hE.2.2.2.2.1 _ (zT z1 rfl)) (hE.2.2.2.2.1 _ (zT hlink rfl)) ⟨z4.1, z4.2, z5⟩ hroom, hE.2.2.2.2.1 _ (zT z7 rfl)⟩
      hpre rfl hmap hL.1.1 rfl (lv_room (by rw [zcat_sum]; exact hsum)) hd hbud
    refine z_back (bz := bz) (b' := b') (Qz := Qz) (As := (as.map (zc ad)).toArray) hE hR hW hL hs2 hb (fun T hT X => ?_) kk
    obtain ⟨v, st₀, t, T', Lc, q1, q2, q3, q4, q5, q6⟩ := hrun T hT X
    exact ⟨v, st₀, t, T', Lc, q1, q2, q3, q4, q5, q6⟩
  · have hrun := va_runSN (R := R) (H := H) (locs := locs) (cells := cells) (slots := slots) (l := l) (e := e) (below := below) (meth := meth) (g := F0 m pc ls ((as.map (zc ad)).reverse ++ st.map (zc ad))) (As := as.map (zc ad)) (rest := st.map (zc ad)) (n := n) (nL := y.2.2.1) (cc := y.2.1) (Ts := zTb) (own := y.1.cls) (index := idx) (host := "SixWalls") (maxL := z.2.2.1) (bytes := z.2.1) (ret := z.2.2.2) ⟨hE.1, hE.2.1, hE.2.2.1, hE.2.2.2.1, hE.2.2.2.2.1⟩ hM9
      ⟨va_cnB n hE.2.2.2.2.1 (zgin (n := n) ⟨z1, z2, z3, z4, z5, z6⟩) rfl rfl rfl (hE.2.2.2.2.2.2.2.2.2.2.2.1 _ _ _ _ hlink) (hE.2.2.2.2.1 _ (zT z1 rfl)) ⟨z4.1, z4.2, z5⟩ hroom, hE.2.2.2.2.1 _ (zT z7 rfl), trivial⟩
      hpre rfl hmap hL.1.1 rfl (lv_room (by rw [zcat_sum]; exact hsum)) hd hbud
    refine z_back (bz := bz) (b' := b') (Qz := Qz) (As := (as.map (zc ad)).toArray) hE hR hW hL hs2 hb (fun T hT X => ?_) kk
    obtain ⟨v, st₀, t, T', Lc, q1, q2, q3, q4, -, q5, q6⟩ := hrun T hT X
    exact ⟨v, st₀, t, T', Lc, q1, q2, q3, q4, q5, q6⟩
/-- invokespecial of a constructor -/
theorem z_init (z : zM) (as : List zV) {n d1 idx : Nat} {bz b' : Nat × Nat} {Qz : zPost} {ri : Int} {st0 : List zV} (hd : decode y.2.1 pc = .ok (.invokespecial idx, 3)) (hlink : Cond.methodLink y.1.cls idx z.1 ∈ lw_tbl ∨ Cond.methodLinkNest y.1.cls idx z.1 "SixWalls" ∈ lw_tbl) (hz : zokI z n) (hri : ri ≠ -1) (has : as.length = n) (hst : st0 = as.reverse ++ .inr (.inr ri) :: st) (hsum : (st.map fun v => if zcat2 v = true then 2 else 1).sum ≤ 8) (hd1 : d1 + 1 ≤ d) (hb : bz.1 + b'.1 ≤ b.1 ∧ bz.2 + b'.2 ≤ b.2) (hmax : zlen (.inr (.inr ri) :: as) ≤ z.2.2.1)
    (hM : zW z d1 Qz bz S 0 (zargs 0 (.inr (.inr ri) :: as)) [] M) (kk : ∀ (rv : Option zV) (S' : List zSh) (M' : zMm), Qz rv S' M' → zW y d Q b' S' (pc + 3) L (rv.toList ++ st) M') : zW y d Q b S pc L st0 M := by
  intro p l e R s m args below meth c D cA ad0 n0 Mn A Z hE hR ad H locs cells slots ls hW hL hs
  subst hst
  obtain ⟨⟨z1, z2, z3, z4, z5, z6⟩, z7, z8, z9⟩ := hz
  have hs2 : ∀ v ∈ st, zcV S.length v := fun v hv => hs v (List.mem_append_right _ (List.mem_cons_of_mem _ hv))
  have hs3 : ∀ v ∈ .inr (.inr ri) :: as, zcV S.length v := fun v hv => by
    rcases List.mem_cons.mp hv with rfl | hv
    · exact hs _ (List.mem_append_right _ List.mem_cons_self)
    · exact hs v (List.mem_append_left _ (List.mem_reverse.mpr hv))
  have hM9 := zMet_of z3 hmax hM l D cA ad Mn A
  have hfr := hE.2.2.2.2.2.1
  have hlo := hE.2.2.2.2.2.2.1
  have hmap : (as.map (zc ad)).length = n := by rw [List.length_map]; exact has
  have e5 : zc ad (.inr (.inr ri)) = .ref (ad ri) := zrf_ne hri
  have e4 : (as.reverse ++ .inr (.inr ri) :: st).map (zc ad) = (as.map (zc ad)).reverse ++ .ref (ad ri) :: st.map (zc ad) := by
    rw [List.map_append, List.map_reverse, List.map_cons, e5]
  rw [e4]
  have hpre : PreS s H (va_Pc ((.inr (.inr ri) :: as).map (zc ad)) (zPre S M (.inr (.inr ri) :: as) D cA ad Mn A)) (.ref (ad ri) :: as.map (zc ad)) := ⟨zblind, fun U hU hw => ⟨by rw [List.map_cons, e5], zPre_of hW.2.1 hE hW hs3 U hU hw⟩⟩
  have hroom : (zrm d1 bz).frames + 1 ≤ R.frames ∧ 8 + (z.2.2.1 + 11) + (zrm d1 bz).locals ≤ R.locals := ⟨by show d1 + 1 ≤ _; omega, by show 8 + (z.2.2.1 + 11) + 40 * d1 ≤ _; omega⟩
  have hbud : cells + bz.1 ≤ R.cells ∧ slots + bz.2 ≤ R.slots := ⟨by have := hW.2.2.2.2.2.2.1; omega, by have := hW.2.2.2.2.2.2.2.1; omega⟩
  have hwz : zws z = Cond.code z.1 z.2.1 z.2.2.1 none :: zTb := by unfold zws; rw [z9]
  rcases hlink with hlink | hlink
  · have hrun := W.runI (R := R) (H := H) (locs := locs) (cells := cells) (slots := slots) (l := l) (e := e) (below := below) (meth := meth) (g := F0 m pc ls ((as.map (zc ad)).reverse ++ .ref (ad ri) :: st.map (zc ad))) (As := as.map (zc ad)) (b := ad ri) (rest := st.map (zc ad)) (n := n) (nL := y.2.2.1) (cc := y.2.1) (Ts := zTb) (own := y.1.cls) (index := idx) (maxL := z.2.2.1) (bytes := z.2.1) ⟨hE.1, hE.2.1, hE.2.2.1, hE.2.2.2.1, hE.2.2.2.2.1⟩ hM9
      ⟨callB_of n hE.2.2.2.2.1 (zgin (n := n) ⟨z1, z2, z3, z4, z5, z6⟩) hwz rfl rfl (hE.2.2.2.2.1 _ (zT z1 rfl)) (hE.2.2.2.2.1 _ (zT hlink rfl)) ⟨z4.1, z4.2, z5⟩ hroom, z8, hE.2.2.2.2.1 _ (zT z7 rfl)⟩
      hpre rfl hmap hL.1.1 rfl (lv_room (by rw [zcat_sum]; exact hsum)) hd hbud
    refine z_back (bz := bz) (b' := b') (Qz := Qz) (As := (Value.ref (ad ri) :: as.map (zc ad)).toArray) hE hR hW hL hs2 hb (fun T hT X => ?_) kk
    obtain ⟨v, st₀, t, T', Lc, q1, q2, q3, q4, q5, q6⟩ := hrun T hT X
    exact ⟨v, st₀, t, T', Lc, q1, q2, q3, q4, q5, q6⟩
  · have hrun := va_runIN (R := R) (H := H) (locs := locs) (cells := cells) (slots := slots) (l := l) (e := e) (below := below) (meth := meth) (g := F0 m pc ls ((as.map (zc ad)).reverse ++ .ref (ad ri) :: st.map (zc ad))) (As := as.map (zc ad)) (b := ad ri) (rest := st.map (zc ad)) (n := n) (nL := y.2.2.1) (cc := y.2.1) (Ts := zTb) (own := y.1.cls) (index := idx) (host := "SixWalls") (maxL := z.2.2.1) (bytes := z.2.1) ⟨hE.1, hE.2.1, hE.2.2.1, hE.2.2.2.1, hE.2.2.2.2.1⟩ hM9
      ⟨va_cnB n hE.2.2.2.2.1 (zgin (n := n) ⟨z1, z2, z3, z4, z5, z6⟩) hwz rfl rfl (hE.2.2.2.2.2.2.2.2.2.2.2.1 _ _ _ _ hlink) (hE.2.2.2.2.1 _ (zT z1 rfl)) ⟨z4.1, z4.2, z5⟩ hroom, z8, hE.2.2.2.2.1 _ (zT z7 rfl)⟩
      hpre rfl hmap hL.1.1 rfl (lv_room (by rw [zcat_sum]; exact hsum)) hd hbud
    refine z_back (bz := bz) (b' := b') (Qz := Qz) (As := (Value.ref (ad ri) :: as.map (zc ad)).toArray) hE hR hW hL hs2 hb (fun T hT X => ?_) kk
    obtain ⟨v, st₀, t, T', Lc, q1, q2, q3, q4, -, q5, q6⟩ := hrun T hT X
    exact ⟨v, st₀, t, T', Lc, q1, q2, q3, q4, q5, q6⟩
end
end
section
set_option maxRecDepth 4000
theorem zt0 {w : Cond} (h : w ∈ k2_sels lw_privs) : w ∈ lw_tbl := List.mem_append_left _ h
theorem zt1 {w : Cond} (h : w ∈ tables_1_1) : w ∈ lw_tbl := List.mem_append_right _ (List.mem_append_left _ h)
theorem zt2 {w : Cond} (h : w ∈ tables_1_2) : w ∈ lw_tbl := List.mem_append_right _ (List.mem_append_right _ (List.mem_append_left _ h))
theorem zt3 {w : Cond} (h : w ∈ tables_1_3) : w ∈ lw_tbl := List.mem_append_right _ (List.mem_append_right _ (List.mem_append_right _ (List.mem_append_left _ h)))
theorem zt4 {w : Cond} (h : w ∈ tables_1_4) : w ∈ lw_tbl := List.mem_append_right _ (List.mem_append_right _ (List.mem_append_right _ (List.mem_append_right _ (List.mem_append_left _ h))))
theorem zt5 {w : Cond} (h : w ∈ tables_1_5) : w ∈ lw_tbl := List.mem_append_right _ (List.mem_append_right _ (List.mem_append_right _ (List.mem_append_right _ (List.mem_append_right _ (List.mem_append_left _ h)))))
theorem zt6 {w : Cond} (h : w ∈ tables_1_6) : w ∈ lw_tbl := List.mem_append_right _ (List.mem_append_right _ (List.mem_append_right _ (List.mem_append_right _ (List.mem_append_right _ (List.mem_append_right _ (List.mem_append_left _ h))))))
theorem zt7 {w : Cond} (h : w ∈ tables_1_7) : w ∈ lw_tbl := List.mem_append_right _ (List.mem_append_right _ (List.mem_append_right _ (List.mem_append_right _ (List.mem_append_right _ (List.mem_append_right _ (List.mem_append_right _ (h)))))))
/-! methods, what the tables say of them, and their links, by program out of the printed names -/
theorem zini_SixWalls : Cond.initialized "SixWalls" ∈ lw_tbl := zt1 (List.mem_of_getElem? (i := 1) rfl)
theorem zini_SixWalls_Cells : Cond.initialized "SixWalls$Cells" ∈ lw_tbl := zt1 (List.mem_of_getElem? (i := 10) rfl)
theorem zini_SixWalls_Comb : Cond.initialized "SixWalls$Comb" ∈ lw_tbl := zt1 (List.mem_of_getElem? (i := 2) rfl)
theorem zini_SixWalls_Families : Cond.initialized "SixWalls$Families" ∈ lw_tbl := zt1 (List.mem_of_getElem? (i := 8) rfl)
theorem zini_SixWalls_History : Cond.initialized "SixWalls$History" ∈ lw_tbl := zt1 (List.mem_of_getElem? (i := 9) rfl)
theorem zini_SixWalls_LawText : Cond.initialized "SixWalls$LawText" ∈ lw_tbl := zt1 (List.mem_of_getElem? (i := 4) rfl)
theorem zini_SixWalls_Masonry : Cond.initialized "SixWalls$Masonry" ∈ lw_tbl := zt1 (List.mem_of_getElem? (i := 6) rfl)
theorem zini_SixWalls_Shelves : Cond.initialized "SixWalls$Shelves" ∈ lw_tbl := zt1 (List.mem_of_getElem? (i := 11) rfl)
theorem zini_SixWalls_Ways : Cond.initialized "SixWalls$Ways" ∈ lw_tbl := zt1 (List.mem_of_getElem? (i := 7) rfl)
theorem zini_SixWalls_Winter : Cond.initialized "SixWalls$Winter" ∈ lw_tbl := zt1 (List.mem_of_getElem? (i := 5) rfl)
theorem zini_SixWallsModel : Cond.initialized "SixWallsModel" ∈ lw_tbl := zt1 (List.mem_of_getElem? (i := 12) rfl)
theorem zini_JInteger : Cond.initialized "java/lang/Integer" ∈ lw_tbl := zt1 (List.mem_of_getElem? (i := 14) rfl)
theorem zini_JLong : Cond.initialized "java/lang/Long" ∈ lw_tbl := zt1 (List.mem_of_getElem? (i := 15) rfl)
theorem zini_JMath : Cond.initialized "java/lang/Math" ∈ lw_tbl := zt1 (List.mem_of_getElem? (i := 3) rfl)
theorem zpn_SixWalls : plainName "SixWalls" = true ∧ ("SixWalls" ≠ "java/lang/invoke/MethodHandle" ∧ "SixWalls" ≠ "java/lang/invoke/VarHandle") := ⟨by decide +kernel, by decide +kernel, by decide +kernel⟩
theorem zpn_SixWalls_Cells : plainName "SixWalls$Cells" = true ∧ ("SixWalls$Cells" ≠ "java/lang/invoke/MethodHandle" ∧ "SixWalls$Cells" ≠ "java/lang/invoke/VarHandle") := ⟨by decide +kernel, by decide +kernel, by decide +kernel⟩
theorem zpn_SixWalls_Comb : plainName "SixWalls$Comb" = true ∧ ("SixWalls$Comb" ≠ "java/lang/invoke/MethodHandle" ∧ "SixWalls$Comb" ≠ "java/lang/invoke/VarHandle") := ⟨by decide +kernel, by decide +kernel, by decide +kernel⟩
theorem zpn_SixWalls_Families : plainName "SixWalls$Families" = true ∧ ("SixWalls$Families" ≠ "java/lang/invoke/MethodHandle" ∧ "SixWalls$Families" ≠ "java/lang/invoke/VarHandle") := ⟨by decide +kernel, by decide +kernel, by decide +kernel⟩
theorem zpn_SixWalls_History : plainName "SixWalls$History" = true ∧ ("SixWalls$History" ≠ "java/lang/invoke/MethodHandle" ∧ "SixWalls$History" ≠ "java/lang/invoke/VarHandle") := ⟨by decide +kernel, by decide +kernel, by decide +kernel⟩
theorem zpn_SixWalls_LawText : plainName "SixWalls$LawText" = true ∧ ("SixWalls$LawText" ≠ "java/lang/invoke/MethodHandle" ∧ "SixWalls$LawText" ≠ "java/lang/invoke/VarHandle") := ⟨by decide +kernel, by decide +kernel, by decide +kernel⟩
theorem zpn_SixWalls_Masonry : plainName "SixWalls$Masonry" = true ∧ ("SixWalls$Masonry" ≠ "java/lang/invoke/MethodHandle" ∧ "SixWalls$Masonry" ≠ "java/lang/invoke/VarHandle") := ⟨by decide +kernel, by decide +kernel, by decide +kernel⟩
theorem zpn_SixWalls_Shelves : plainName "SixWalls$Shelves" = true ∧ ("SixWalls$Shelves" ≠ "java/lang/invoke/MethodHandle" ∧ "SixWalls$Shelves" ≠ "java/lang/invoke/VarHandle") := ⟨by decide +kernel, by decide +kernel, by decide +kernel⟩
theorem zpn_SixWalls_Ways : plainName "SixWalls$Ways" = true ∧ ("SixWalls$Ways" ≠ "java/lang/invoke/MethodHandle" ∧ "SixWalls$Ways" ≠ "java/lang/invoke/VarHandle") := ⟨by decide +kernel, by decide +kernel, by decide +kernel⟩
theorem zpn_SixWalls_Winter : plainName "SixWalls$Winter" = true ∧ ("SixWalls$Winter" ≠ "java/lang/invoke/MethodHandle" ∧ "SixWalls$Winter" ≠ "java/lang/invoke/VarHandle") := ⟨by decide +kernel, by decide +kernel, by decide +kernel⟩
theorem zpn_SixWallsModel : plainName "SixWallsModel" = true ∧ ("SixWallsModel" ≠ "java/lang/invoke/MethodHandle" ∧ "SixWallsModel" ≠ "java/lang/invoke/VarHandle") := ⟨by decide +kernel, by decide +kernel, by decide +kernel⟩
theorem zpn_JInteger : plainName "java/lang/Integer" = true ∧ ("java/lang/Integer" ≠ "java/lang/invoke/MethodHandle" ∧ "java/lang/Integer" ≠ "java/lang/invoke/VarHandle") := ⟨by decide +kernel, by decide +kernel, by decide +kernel⟩
theorem zpn_JLong : plainName "java/lang/Long" = true ∧ ("java/lang/Long" ≠ "java/lang/invoke/MethodHandle" ∧ "java/lang/Long" ≠ "java/lang/invoke/VarHandle") := ⟨by decide +kernel, by decide +kernel, by decide +kernel⟩
theorem zds_0 : (parseMethodDescriptor "()V").map (fun d => d.parameters.length) = some 0 := by decide +kernel
theorem zds_1 : (parseMethodDescriptor "()I").map (fun d => d.parameters.length) = some 0 := by decide +kernel
theorem zds_2 : (parseMethodDescriptor "(I)Z").map (fun d => d.parameters.length) = some 1 := by decide +kernel
theorem zds_3 : (parseMethodDescriptor "(I)I").map (fun d => d.parameters.length) = some 1 := by decide +kernel
theorem zds_4 : (parseMethodDescriptor "(II)Z").map (fun d => d.parameters.length) = some 2 := by decide +kernel
theorem zds_5 : (parseMethodDescriptor "(III)I").map (fun d => d.parameters.length) = some 3 := by decide +kernel
theorem zds_6 : (parseMethodDescriptor "(IIII)I").map (fun d => d.parameters.length) = some 4 := by decide +kernel
theorem zds_7 : (parseMethodDescriptor "(III)V").map (fun d => d.parameters.length) = some 3 := by decide +kernel
theorem zds_8 : (parseMethodDescriptor "(II)I").map (fun d => d.parameters.length) = some 2 := by decide +kernel
theorem zds_9 : (parseMethodDescriptor "(I[I)I").map (fun d => d.parameters.length) = some 2 := by decide +kernel
theorem zds_10 : (parseMethodDescriptor "(III)Z").map (fun d => d.parameters.length) = some 3 := by decide +kernel
theorem zds_11 : (parseMethodDescriptor "(LSixWalls$Comb;)V").map (fun d => d.parameters.length) = some 1 := by decide +kernel
theorem zds_12 : (parseMethodDescriptor "(II)V").map (fun d => d.parameters.length) = some 2 := by decide +kernel
theorem zds_13 : (parseMethodDescriptor "(I)V").map (fun d => d.parameters.length) = some 1 := by decide +kernel
theorem zds_14 : (parseMethodDescriptor "()Z").map (fun d => d.parameters.length) = some 0 := by decide +kernel
theorem zds_15 : (parseMethodDescriptor "(IIII)V").map (fun d => d.parameters.length) = some 4 := by decide +kernel
theorem zds_16 : (parseMethodDescriptor "([I)V").map (fun d => d.parameters.length) = some 1 := by decide +kernel
theorem zds_17 : (parseMethodDescriptor "(IIIII)I").map (fun d => d.parameters.length) = some 5 := by decide +kernel
theorem zds_18 : (parseMethodDescriptor "(IIIIII)I").map (fun d => d.parameters.length) = some 6 := by decide +kernel
theorem zds_19 : (parseMethodDescriptor "(Z)I").map (fun d => d.parameters.length) = some 1 := by decide +kernel
theorem zds_20 : (parseMethodDescriptor "([I)I").map (fun d => d.parameters.length) = some 1 := by decide +kernel
theorem zds_21 : (parseMethodDescriptor "(II[I)I").map (fun d => d.parameters.length) = some 3 := by decide +kernel
theorem zds_22 : (parseMethodDescriptor "(III[I)I").map (fun d => d.parameters.length) = some 4 := by decide +kernel
theorem zds_23 : (parseMethodDescriptor "(II)J").map (fun d => d.parameters.length) = some 2 := by decide +kernel
theorem zds_24 : (parseMethodDescriptor "(IIJ)V").map (fun d => d.parameters.length) = some 3 := by decide +kernel
theorem zds_25 : (parseMethodDescriptor "(IIIII)V").map (fun d => d.parameters.length) = some 5 := by decide +kernel
theorem zds_26 : (parseMethodDescriptor "(IJ)J").map (fun d => d.parameters.length) = some 2 := by decide +kernel
theorem zds_27 : (parseMethodDescriptor "()J").map (fun d => d.parameters.length) = some 0 := by decide +kernel
theorem zds_28 : (parseMethodDescriptor "(LSixWalls$Comb;LSixWalls$LawText;)V").map (fun d => d.parameters.length) = some 2 := by decide +kernel
theorem zds_29 : (parseMethodDescriptor "(I)J").map (fun d => d.parameters.length) = some 1 := by decide +kernel
theorem zds_30 : (parseMethodDescriptor "(IIJ)I").map (fun d => d.parameters.length) = some 3 := by decide +kernel
theorem zds_31 : (parseMethodDescriptor "(JJJ)Z").map (fun d => d.parameters.length) = some 3 := by decide +kernel
theorem zds_32 : (parseMethodDescriptor "(JI)Z").map (fun d => d.parameters.length) = some 2 := by decide +kernel
theorem zds_33 : (parseMethodDescriptor "(IZ)V").map (fun d => d.parameters.length) = some 2 := by decide +kernel
theorem zds_34 : (parseMethodDescriptor "(J)I").map (fun d => d.parameters.length) = some 1 := by decide +kernel
theorem okX0_init : zokI mX0_init 0 := ⟨⟨zini_SixWalls_Cells, zt2 (List.mem_of_getElem? (i := 50) rfl), zpn_SixWalls_Cells.1, zpn_SixWalls_Cells.2, zds_0, by decide⟩, zt2 (List.mem_of_getElem? (i := 49) rfl), rfl, rfl⟩
theorem okX0_many : zokV mX0_many 0 := ⟨⟨zini_SixWalls_Cells, zt5 (List.mem_of_getElem? (i := 21) rfl), zpn_SixWalls_Cells.1, zpn_SixWalls_Cells.2, zds_1, by decide⟩, zt5 (List.mem_of_getElem? (i := 19) rfl), zt5 (List.mem_of_getElem? (i := 20) rfl)⟩
theorem okX0_ran : zokV mX0_ran 0 := ⟨⟨zini_SixWalls_Cells, zt5 (List.mem_of_getElem? (i := 25) rfl), zpn_SixWalls_Cells.1, zpn_SixWalls_Cells.2, zds_1, by decide⟩, zt5 (List.mem_of_getElem? (i := 23) rfl), zt5 (List.mem_of_getElem? (i := 24) rfl)⟩
theorem okX0_isKind : zokV mX0_isKind 1 := ⟨⟨zini_SixWalls_Cells, zt4 (List.mem_of_getElem? (i := 124) rfl), zpn_SixWalls_Cells.1, zpn_SixWalls_Cells.2, zds_2, by decide⟩, zt4 (List.mem_of_getElem? (i := 122) rfl), zt4 (List.mem_of_getElem? (i := 123) rfl)⟩
theorem okX0_isBody : zokV mX0_isBody 1 := ⟨⟨zini_SixWalls_Cells, zt4 (List.mem_of_getElem? (i := 142) rfl), zpn_SixWalls_Cells.1, zpn_SixWalls_Cells.2, zds_2, by decide⟩, zt4 (List.mem_of_getElem? (i := 140) rfl), zt4 (List.mem_of_getElem? (i := 141) rfl)⟩
theorem okX0_add : zokV mX0_add 1 := ⟨⟨zini_SixWalls_Cells, zt4 (List.mem_of_getElem? (i := 130) rfl), zpn_SixWalls_Cells.1, zpn_SixWalls_Cells.2, zds_3, by decide⟩, zt4 (List.mem_of_getElem? (i := 128) rfl), zt4 (List.mem_of_getElem? (i := 129) rfl)⟩
theorem okX0_kindOf : zokV mX0_kindOf 1 := ⟨⟨zini_SixWalls_Cells, zt5 (List.mem_of_getElem? (i := 8) rfl), zpn_SixWalls_Cells.1, zpn_SixWalls_Cells.2, zds_3, by decide⟩, zt5 (List.mem_of_getElem? (i := 6) rfl), zt5 (List.mem_of_getElem? (i := 7) rfl)⟩
theorem okX0_isUnder : zokV mX0_isUnder 2 := ⟨⟨zini_SixWalls_Cells, zt5 (List.mem_of_getElem? (i := 4) rfl), zpn_SixWalls_Cells.1, zpn_SixWalls_Cells.2, zds_4, by decide⟩, zt5 (List.mem_of_getElem? (i := 2) rfl), zt5 (List.mem_of_getElem? (i := 3) rfl)⟩
theorem okX0_ranAt : zokV mX0_ranAt 1 := ⟨⟨zini_SixWalls_Cells, zt4 (List.mem_of_getElem? (i := 164) rfl), zpn_SixWalls_Cells.1, zpn_SixWalls_Cells.2, zds_3, by decide⟩, zt4 (List.mem_of_getElem? (i := 162) rfl), zt4 (List.mem_of_getElem? (i := 163) rfl)⟩
theorem okX0_run : zokV mX0_run 3 := ⟨⟨zini_SixWalls_Cells, zt4 (List.mem_of_getElem? (i := 138) rfl), zpn_SixWalls_Cells.1, zpn_SixWalls_Cells.2, zds_5, by decide⟩, zt4 (List.mem_of_getElem? (i := 136) rfl), zt4 (List.mem_of_getElem? (i := 137) rfl)⟩
theorem okX0_own : zokV mX0_own 3 := ⟨⟨zini_SixWalls_Cells, zt4 (List.mem_of_getElem? (i := 156) rfl), zpn_SixWalls_Cells.1, zpn_SixWalls_Cells.2, zds_5, by decide⟩, zt4 (List.mem_of_getElem? (i := 155) rfl), zt0 (List.mem_of_getElem? (i := 30) rfl)⟩
theorem okX0_from : zokV mX0_from 4 := ⟨⟨zini_SixWalls_Cells, zt4 (List.mem_of_getElem? (i := 146) rfl), zpn_SixWalls_Cells.1, zpn_SixWalls_Cells.2, zds_6, by decide⟩, zt4 (List.mem_of_getElem? (i := 145) rfl), zt0 (List.mem_of_getElem? (i := 28) rfl)⟩
theorem okX0_perform : zokV mX0_perform 4 := ⟨⟨zini_SixWalls_Cells, zt4 (List.mem_of_getElem? (i := 152) rfl), zpn_SixWalls_Cells.1, zpn_SixWalls_Cells.2, zds_6, by decide⟩, zt4 (List.mem_of_getElem? (i := 151) rfl), zt0 (List.mem_of_getElem? (i := 29) rfl)⟩
theorem okX1_init : zokI mX1_init 0 := ⟨⟨zini_SixWalls_Comb, zt1 (List.mem_of_getElem? (i := 28) rfl), zpn_SixWalls_Comb.1, zpn_SixWalls_Comb.2, zds_0, by decide⟩, zt1 (List.mem_of_getElem? (i := 27) rfl), rfl, rfl⟩
theorem okX1_layWalls : zokV mX1_layWalls 0 := ⟨⟨zini_SixWalls_Comb, zt1 (List.mem_of_getElem? (i := 33) rfl), zpn_SixWalls_Comb.1, zpn_SixWalls_Comb.2, zds_0, by decide⟩, zt1 (List.mem_of_getElem? (i := 32) rfl), zt0 (List.mem_of_getElem? (i := 0) rfl)⟩
theorem okX1_addSide : zokV mX1_addSide 3 := ⟨⟨zini_SixWalls_Comb, zt1 (List.mem_of_getElem? (i := 43) rfl), zpn_SixWalls_Comb.1, zpn_SixWalls_Comb.2, zds_7, by decide⟩, zt1 (List.mem_of_getElem? (i := 42) rfl), zt0 (List.mem_of_getElem? (i := 1) rfl)⟩
theorem okX1_beside : zokS mX1_beside 2 := ⟨⟨zini_SixWalls_Comb, zt1 (List.mem_of_getElem? (i := 36) rfl), zpn_SixWalls_Comb.1, zpn_SixWalls_Comb.2, zds_4, by decide⟩, zt1 (List.mem_of_getElem? (i := 35) rfl)⟩
theorem okX1_wallBetween : zokV mX1_wallBetween 2 := ⟨⟨zini_SixWalls_Comb, zt2 (List.mem_of_getElem? (i := 134) rfl), zpn_SixWalls_Comb.1, zpn_SixWalls_Comb.2, zds_8, by decide⟩, zt2 (List.mem_of_getElem? (i := 132) rfl), zt2 (List.mem_of_getElem? (i := 133) rfl)⟩
theorem okX1_atEdge : zokV mX1_atEdge 1 := ⟨⟨zini_SixWalls_Comb, zt3 (List.mem_of_getElem? (i := 180) rfl), zpn_SixWalls_Comb.1, zpn_SixWalls_Comb.2, zds_2, by decide⟩, zt3 (List.mem_of_getElem? (i := 178) rfl), zt3 (List.mem_of_getElem? (i := 179) rfl)⟩
theorem okX1_load : zokV mX1_load 2 := ⟨⟨zini_SixWalls_Comb, zt2 (List.mem_of_getElem? (i := 177) rfl), zpn_SixWalls_Comb.1, zpn_SixWalls_Comb.2, zds_9, by decide⟩, zt2 (List.mem_of_getElem? (i := 175) rfl), zt2 (List.mem_of_getElem? (i := 176) rfl)⟩
theorem okX1_fits : zokV mX1_fits 3 := ⟨⟨zini_SixWalls_Comb, zt2 (List.mem_of_getElem? (i := 142) rfl), zpn_SixWalls_Comb.1, zpn_SixWalls_Comb.2, zds_10, by decide⟩, zt2 (List.mem_of_getElem? (i := 140) rfl), zt2 (List.mem_of_getElem? (i := 141) rfl)⟩
theorem okX1_told : zokV mX1_told 2 := ⟨⟨zini_SixWalls_Comb, zt2 (List.mem_of_getElem? (i := 151) rfl), zpn_SixWalls_Comb.1, zpn_SixWalls_Comb.2, zds_8, by decide⟩, zt2 (List.mem_of_getElem? (i := 149) rfl), zt2 (List.mem_of_getElem? (i := 150) rfl)⟩
theorem okX1_tell : zokV mX1_tell 3 := ⟨⟨zini_SixWalls_Comb, zt2 (List.mem_of_getElem? (i := 155) rfl), zpn_SixWalls_Comb.1, zpn_SixWalls_Comb.2, zds_7, by decide⟩, zt2 (List.mem_of_getElem? (i := 153) rfl), zt2 (List.mem_of_getElem? (i := 154) rfl)⟩
theorem okX2_init : zokI mX2_init 1 := ⟨⟨zini_SixWalls_Families, zt2 (List.mem_of_getElem? (i := 3) rfl), zpn_SixWalls_Families.1, zpn_SixWalls_Families.2, zds_11, by decide⟩, zt2 (List.mem_of_getElem? (i := 2) rfl), rfl, rfl⟩
theorem okX2_taker : zokV mX2_taker 1 := ⟨⟨zini_SixWalls_Families, zt4 (List.mem_of_getElem? (i := 50) rfl), zpn_SixWalls_Families.1, zpn_SixWalls_Families.2, zds_3, by decide⟩, zt4 (List.mem_of_getElem? (i := 48) rfl), zt4 (List.mem_of_getElem? (i := 49) rfl)⟩
theorem okX2_takeIn : zokV mX2_takeIn 2 := ⟨⟨zini_SixWalls_Families, zt4 (List.mem_of_getElem? (i := 54) rfl), zpn_SixWalls_Families.1, zpn_SixWalls_Families.2, zds_12, by decide⟩, zt4 (List.mem_of_getElem? (i := 52) rfl), zt4 (List.mem_of_getElem? (i := 53) rfl)⟩
theorem okX2_grow : zokV mX2_grow 2 := ⟨⟨zini_SixWalls_Families, zt4 (List.mem_of_getElem? (i := 67) rfl), zpn_SixWalls_Families.1, zpn_SixWalls_Families.2, zds_12, by decide⟩, zt4 (List.mem_of_getElem? (i := 65) rfl), zt4 (List.mem_of_getElem? (i := 66) rfl)⟩
theorem okX2_befall : zokV mX2_befall 2 := ⟨⟨zini_SixWalls_Families, zt4 (List.mem_of_getElem? (i := 72) rfl), zpn_SixWalls_Families.1, zpn_SixWalls_Families.2, zds_12, by decide⟩, zt4 (List.mem_of_getElem? (i := 71) rfl), zt0 (List.mem_of_getElem? (i := 25) rfl)⟩
theorem okX2_bear : zokV mX2_bear 1 := ⟨⟨zini_SixWalls_Families, zt4 (List.mem_of_getElem? (i := 76) rfl), zpn_SixWalls_Families.1, zpn_SixWalls_Families.2, zds_13, by decide⟩, zt4 (List.mem_of_getElem? (i := 75) rfl), zt0 (List.mem_of_getElem? (i := 26) rfl)⟩
theorem okX2_feud : zokV mX2_feud 1 := ⟨⟨zini_SixWalls_Families, zt4 (List.mem_of_getElem? (i := 80) rfl), zpn_SixWalls_Families.1, zpn_SixWalls_Families.2, zds_13, by decide⟩, zt4 (List.mem_of_getElem? (i := 79) rfl), zt0 (List.mem_of_getElem? (i := 27) rfl)⟩
theorem okX2_keepImage : zokV mX2_keepImage 0 := ⟨⟨zini_SixWalls_Families, zt4 (List.mem_of_getElem? (i := 90) rfl), zpn_SixWalls_Families.1, zpn_SixWalls_Families.2, zds_0, by decide⟩, zt4 (List.mem_of_getElem? (i := 88) rfl), zt4 (List.mem_of_getElem? (i := 89) rfl)⟩
theorem okX2_layBack : zokV mX2_layBack 0 := ⟨⟨zini_SixWalls_Families, zt4 (List.mem_of_getElem? (i := 99) rfl), zpn_SixWalls_Families.1, zpn_SixWalls_Families.2, zds_14, by decide⟩, zt4 (List.mem_of_getElem? (i := 97) rfl), zt4 (List.mem_of_getElem? (i := 98) rfl)⟩
theorem okX3_init : zokI mX3_init 1 := ⟨⟨zini_SixWalls_History, zt2 (List.mem_of_getElem? (i := 22) rfl), zpn_SixWalls_History.1, zpn_SixWalls_History.2, zds_11, by decide⟩, zt2 (List.mem_of_getElem? (i := 21) rfl), rfl, rfl⟩
theorem okX3_record : zokV mX3_record 4 := ⟨⟨zini_SixWalls_History, zt2 (List.mem_of_getElem? (i := 159) rfl), zpn_SixWalls_History.1, zpn_SixWalls_History.2, zds_15, by decide⟩, zt2 (List.mem_of_getElem? (i := 157) rfl), zt2 (List.mem_of_getElem? (i := 158) rfl)⟩
theorem okX3_dropOldest : zokS mX3_dropOldest 1 := ⟨⟨zini_SixWalls_History, zt2 (List.mem_of_getElem? (i := 162) rfl), zpn_SixWalls_History.1, zpn_SixWalls_History.2, zds_16, by decide⟩, zt2 (List.mem_of_getElem? (i := 161) rfl)⟩
theorem okX3_undoable : zokV mX3_undoable 0 := ⟨⟨zini_SixWalls_History, zt5 (List.mem_of_getElem? (i := 17) rfl), zpn_SixWalls_History.1, zpn_SixWalls_History.2, zds_1, by decide⟩, zt5 (List.mem_of_getElem? (i := 15) rfl), zt5 (List.mem_of_getElem? (i := 16) rfl)⟩
theorem okX3_takeBack : zokV mX3_takeBack 0 := ⟨⟨zini_SixWalls_History, zt4 (List.mem_of_getElem? (i := 107) rfl), zpn_SixWalls_History.1, zpn_SixWalls_History.2, zds_1, by decide⟩, zt4 (List.mem_of_getElem? (i := 105) rfl), zt4 (List.mem_of_getElem? (i := 106) rfl)⟩
theorem okX3_doAgain : zokV mX3_doAgain 0 := ⟨⟨zini_SixWalls_History, zt4 (List.mem_of_getElem? (i := 116) rfl), zpn_SixWalls_History.1, zpn_SixWalls_History.2, zds_1, by decide⟩, zt4 (List.mem_of_getElem? (i := 114) rfl), zt4 (List.mem_of_getElem? (i := 115) rfl)⟩
theorem okX4_init : zokI mX4_init 0 := ⟨⟨zini_SixWalls_LawText, zt1 (List.mem_of_getElem? (i := 134) rfl), zpn_SixWalls_LawText.1, zpn_SixWalls_LawText.2, zds_0, by decide⟩, zt1 (List.mem_of_getElem? (i := 133) rfl), rfl, rfl⟩
theorem okX4_take : zokV mX4_take 1 := ⟨⟨zini_SixWalls_LawText, zt3 (List.mem_of_getElem? (i := 13) rfl), zpn_SixWalls_LawText.1, zpn_SixWalls_LawText.2, zds_2, by decide⟩, zt3 (List.mem_of_getElem? (i := 11) rfl), zt3 (List.mem_of_getElem? (i := 12) rfl)⟩
theorem okX4_fed : zokV mX4_fed 0 := ⟨⟨zini_SixWalls_LawText, zt3 (List.mem_of_getElem? (i := 17) rfl), zpn_SixWalls_LawText.1, zpn_SixWalls_LawText.2, zds_1, by decide⟩, zt3 (List.mem_of_getElem? (i := 15) rfl), zt3 (List.mem_of_getElem? (i := 16) rfl)⟩
theorem okX4_isTold : zokV mX4_isTold 0 := ⟨⟨zini_SixWalls_LawText, zt2 (List.mem_of_getElem? (i := 206) rfl), zpn_SixWalls_LawText.1, zpn_SixWalls_LawText.2, zds_14, by decide⟩, zt2 (List.mem_of_getElem? (i := 204) rfl), zt2 (List.mem_of_getElem? (i := 205) rfl)⟩
theorem okX4_read : zokV mX4_read 0 := ⟨⟨zini_SixWalls_LawText, zt3 (List.mem_of_getElem? (i := 25) rfl), zpn_SixWalls_LawText.1, zpn_SixWalls_LawText.2, zds_1, by decide⟩, zt3 (List.mem_of_getElem? (i := 23) rfl), zt3 (List.mem_of_getElem? (i := 24) rfl)⟩
theorem okX4_peek : zokV mX4_peek 0 := ⟨⟨zini_SixWalls_LawText, zt3 (List.mem_of_getElem? (i := 45) rfl), zpn_SixWalls_LawText.1, zpn_SixWalls_LawText.2, zds_1, by decide⟩, zt3 (List.mem_of_getElem? (i := 44) rfl), zt0 (List.mem_of_getElem? (i := 9) rfl)⟩
theorem okX4_emit : zokV mX4_emit 2 := ⟨⟨zini_SixWalls_LawText, zt3 (List.mem_of_getElem? (i := 57) rfl), zpn_SixWalls_LawText.1, zpn_SixWalls_LawText.2, zds_8, by decide⟩, zt3 (List.mem_of_getElem? (i := 56) rfl), zt0 (List.mem_of_getElem? (i := 11) rfl)⟩
theorem okX4_readLines : zokV mX4_readLines 0 := ⟨⟨zini_SixWalls_LawText, zt3 (List.mem_of_getElem? (i := 29) rfl), zpn_SixWalls_LawText.1, zpn_SixWalls_LawText.2, zds_0, by decide⟩, zt3 (List.mem_of_getElem? (i := 28) rfl), zt0 (List.mem_of_getElem? (i := 5) rfl)⟩
theorem okX4_readLine : zokV mX4_readLine 0 := ⟨⟨zini_SixWalls_LawText, zt3 (List.mem_of_getElem? (i := 33) rfl), zpn_SixWalls_LawText.1, zpn_SixWalls_LawText.2, zds_0, by decide⟩, zt3 (List.mem_of_getElem? (i := 32) rfl), zt0 (List.mem_of_getElem? (i := 6) rfl)⟩
theorem okX4_readLevel : zokV mX4_readLevel 2 := ⟨⟨zini_SixWalls_LawText, zt3 (List.mem_of_getElem? (i := 37) rfl), zpn_SixWalls_LawText.1, zpn_SixWalls_LawText.2, zds_12, by decide⟩, zt3 (List.mem_of_getElem? (i := 36) rfl), zt0 (List.mem_of_getElem? (i := 7) rfl)⟩
theorem okX4_levelOf : zokS mX4_levelOf 1 := ⟨⟨zini_SixWalls_LawText, zt2 (List.mem_of_getElem? (i := 217) rfl), zpn_SixWalls_LawText.1, zpn_SixWalls_LawText.2, zds_3, by decide⟩, zt2 (List.mem_of_getElem? (i := 216) rfl)⟩
theorem okX4_readOperand : zokV mX4_readOperand 1 := ⟨⟨zini_SixWalls_LawText, zt3 (List.mem_of_getElem? (i := 41) rfl), zpn_SixWalls_LawText.1, zpn_SixWalls_LawText.2, zds_13, by decide⟩, zt3 (List.mem_of_getElem? (i := 40) rfl), zt0 (List.mem_of_getElem? (i := 8) rfl)⟩
theorem okX4_isDigit : zokS mX4_isDigit 1 := ⟨⟨zini_SixWalls_LawText, zt3 (List.mem_of_getElem? (i := 48) rfl), zpn_SixWalls_LawText.1, zpn_SixWalls_LawText.2, zds_2, by decide⟩, zt3 (List.mem_of_getElem? (i := 47) rfl)⟩
theorem okX4_isName : zokS mX4_isName 1 := ⟨⟨zini_SixWalls_LawText, zt3 (List.mem_of_getElem? (i := 61) rfl), zpn_SixWalls_LawText.1, zpn_SixWalls_LawText.2, zds_2, by decide⟩, zt3 (List.mem_of_getElem? (i := 60) rfl)⟩
theorem okX4_readNumber : zokV mX4_readNumber 0 := ⟨⟨zini_SixWalls_LawText, zt3 (List.mem_of_getElem? (i := 53) rfl), zpn_SixWalls_LawText.1, zpn_SixWalls_LawText.2, zds_0, by decide⟩, zt3 (List.mem_of_getElem? (i := 52) rfl), zt0 (List.mem_of_getElem? (i := 10) rfl)⟩
theorem okX4_worth : zokV mX4_worth 5 := ⟨⟨zini_SixWalls_LawText, zt2 (List.mem_of_getElem? (i := 210) rfl), zpn_SixWalls_LawText.1, zpn_SixWalls_LawText.2, zds_17, by decide⟩, zt2 (List.mem_of_getElem? (i := 208) rfl), zt2 (List.mem_of_getElem? (i := 209) rfl)⟩
theorem okX4_named : zokS mX4_named 6 := ⟨⟨zini_SixWalls_LawText, zt2 (List.mem_of_getElem? (i := 223) rfl), zpn_SixWalls_LawText.1, zpn_SixWalls_LawText.2, zds_18, by decide⟩, zt2 (List.mem_of_getElem? (i := 222) rfl)⟩
theorem okX4_truth : zokS mX4_truth 1 := ⟨⟨zini_SixWalls_LawText, zt2 (List.mem_of_getElem? (i := 214) rfl), zpn_SixWalls_LawText.1, zpn_SixWalls_LawText.2, zds_19, by decide⟩, zt2 (List.mem_of_getElem? (i := 213) rfl)⟩
theorem okX4_joined : zokS mX4_joined 3 := ⟨⟨zini_SixWalls_LawText, zt2 (List.mem_of_getElem? (i := 220) rfl), zpn_SixWalls_LawText.1, zpn_SixWalls_LawText.2, zds_5, by decide⟩, zt2 (List.mem_of_getElem? (i := 219) rfl)⟩
theorem okX5_init : zokI mX5_init 1 := ⟨⟨zini_SixWalls_Masonry, zt1 (List.mem_of_getElem? (i := 208) rfl), zpn_SixWalls_Masonry.1, zpn_SixWalls_Masonry.2, zds_11, by decide⟩, zt1 (List.mem_of_getElem? (i := 207) rfl), rfl, rfl⟩
theorem okX5_agreed : zokV mX5_agreed 2 := ⟨⟨zini_SixWalls_Masonry, zt2 (List.mem_of_getElem? (i := 187) rfl), zpn_SixWalls_Masonry.1, zpn_SixWalls_Masonry.2, zds_8, by decide⟩, zt2 (List.mem_of_getElem? (i := 185) rfl), zt2 (List.mem_of_getElem? (i := 186) rfl)⟩
theorem okX5_settle : zokV mX5_settle 0 := ⟨⟨zini_SixWalls_Masonry, zt3 (List.mem_of_getElem? (i := 138) rfl), zpn_SixWalls_Masonry.1, zpn_SixWalls_Masonry.2, zds_1, by decide⟩, zt3 (List.mem_of_getElem? (i := 136) rfl), zt3 (List.mem_of_getElem? (i := 137) rfl)⟩
theorem okX5_thickThen : zokV mX5_thickThen 1 := ⟨⟨zini_SixWalls_Masonry, zt3 (List.mem_of_getElem? (i := 152) rfl), zpn_SixWalls_Masonry.1, zpn_SixWalls_Masonry.2, zds_3, by decide⟩, zt3 (List.mem_of_getElem? (i := 150) rfl), zt3 (List.mem_of_getElem? (i := 151) rfl)⟩
theorem okX5_goRound : zokV mX5_goRound 0 := ⟨⟨zini_SixWalls_Masonry, zt3 (List.mem_of_getElem? (i := 144) rfl), zpn_SixWalls_Masonry.1, zpn_SixWalls_Masonry.2, zds_14, by decide⟩, zt3 (List.mem_of_getElem? (i := 143) rfl), zt0 (List.mem_of_getElem? (i := 15) rfl)⟩
theorem okX5_clashes : zokV mX5_clashes 0 := ⟨⟨zini_SixWalls_Masonry, zt4 (List.mem_of_getElem? (i := 3) rfl), zpn_SixWalls_Masonry.1, zpn_SixWalls_Masonry.2, zds_1, by decide⟩, zt4 (List.mem_of_getElem? (i := 1) rfl), zt4 (List.mem_of_getElem? (i := 2) rfl)⟩
theorem okX5_clashesOf : zokV mX5_clashesOf 1 := ⟨⟨zini_SixWalls_Masonry, zt4 (List.mem_of_getElem? (i := 7) rfl), zpn_SixWalls_Masonry.1, zpn_SixWalls_Masonry.2, zds_20, by decide⟩, zt4 (List.mem_of_getElem? (i := 6) rfl), zt0 (List.mem_of_getElem? (i := 22) rfl)⟩
theorem okX5_alike : zokV mX5_alike 3 := ⟨⟨zini_SixWalls_Masonry, zt4 (List.mem_of_getElem? (i := 11) rfl), zpn_SixWalls_Masonry.1, zpn_SixWalls_Masonry.2, zds_21, by decide⟩, zt4 (List.mem_of_getElem? (i := 10) rfl), zt0 (List.mem_of_getElem? (i := 23) rfl)⟩
theorem okX5_alikeIn : zokV mX5_alikeIn 4 := ⟨⟨zini_SixWalls_Masonry, zt4 (List.mem_of_getElem? (i := 15) rfl), zpn_SixWalls_Masonry.1, zpn_SixWalls_Masonry.2, zds_22, by decide⟩, zt4 (List.mem_of_getElem? (i := 14) rfl), zt0 (List.mem_of_getElem? (i := 24) rfl)⟩
theorem okX5_calmest : zokV mX5_calmest 2 := ⟨⟨zini_SixWalls_Masonry, zt4 (List.mem_of_getElem? (i := 23) rfl), zpn_SixWalls_Masonry.1, zpn_SixWalls_Masonry.2, zds_9, by decide⟩, zt4 (List.mem_of_getElem? (i := 21) rfl), zt4 (List.mem_of_getElem? (i := 22) rfl)⟩
theorem okX5_calmed : zokV mX5_calmed 0 := ⟨⟨zini_SixWalls_Masonry, zt4 (List.mem_of_getElem? (i := 19) rfl), zpn_SixWalls_Masonry.1, zpn_SixWalls_Masonry.2, zds_1, by decide⟩, zt4 (List.mem_of_getElem? (i := 17) rfl), zt4 (List.mem_of_getElem? (i := 18) rfl)⟩
theorem okX5_pots : zokV mX5_pots 0 := ⟨⟨zini_SixWalls_Masonry, zt4 (List.mem_of_getElem? (i := 27) rfl), zpn_SixWalls_Masonry.1, zpn_SixWalls_Masonry.2, zds_1, by decide⟩, zt4 (List.mem_of_getElem? (i := 25) rfl), zt4 (List.mem_of_getElem? (i := 26) rfl)⟩
theorem okX6_init : zokI mX6_init 0 := ⟨⟨zini_SixWalls_Shelves, zt2 (List.mem_of_getElem? (i := 72) rfl), zpn_SixWalls_Shelves.1, zpn_SixWalls_Shelves.2, zds_0, by decide⟩, zt2 (List.mem_of_getElem? (i := 71) rfl), rfl, rfl⟩
theorem okX6_isShelf : zokV mX6_isShelf 1 := ⟨⟨zini_SixWalls_Shelves, zt2 (List.mem_of_getElem? (i := 231) rfl), zpn_SixWalls_Shelves.1, zpn_SixWalls_Shelves.2, zds_2, by decide⟩, zt2 (List.mem_of_getElem? (i := 229) rfl), zt2 (List.mem_of_getElem? (i := 230) rfl)⟩
theorem okX6_isSort : zokV mX6_isSort 1 := ⟨⟨zini_SixWalls_Shelves, zt4 (List.mem_of_getElem? (i := 182) rfl), zpn_SixWalls_Shelves.1, zpn_SixWalls_Shelves.2, zds_2, by decide⟩, zt4 (List.mem_of_getElem? (i := 180) rfl), zt4 (List.mem_of_getElem? (i := 181) rfl)⟩
theorem okX6_isBare : zokV mX6_isBare 1 := ⟨⟨zini_SixWalls_Shelves, zt4 (List.mem_of_getElem? (i := 236) rfl), zpn_SixWalls_Shelves.1, zpn_SixWalls_Shelves.2, zds_2, by decide⟩, zt4 (List.mem_of_getElem? (i := 234) rfl), zt4 (List.mem_of_getElem? (i := 235) rfl)⟩
theorem okX6_mayBeBytes : zokV mX6_mayBeBytes 1 := ⟨⟨zini_SixWalls_Shelves, zt2 (List.mem_of_getElem? (i := 235) rfl), zpn_SixWalls_Shelves.1, zpn_SixWalls_Shelves.2, zds_2, by decide⟩, zt2 (List.mem_of_getElem? (i := 233) rfl), zt2 (List.mem_of_getElem? (i := 234) rfl)⟩
theorem okX6_cellOn : zokV mX6_cellOn 1 := ⟨⟨zini_SixWalls_Shelves, zt5 (List.mem_of_getElem? (i := 0) rfl), zpn_SixWalls_Shelves.1, zpn_SixWalls_Shelves.2, zds_3, by decide⟩, zt4 (List.mem_of_getElem? (i := 238) rfl), zt4 (List.mem_of_getElem? (i := 239) rfl)⟩
theorem okX6_hold : zokV mX6_hold 2 := ⟨⟨zini_SixWalls_Shelves, zt4 (List.mem_of_getElem? (i := 174) rfl), zpn_SixWalls_Shelves.1, zpn_SixWalls_Shelves.2, zds_12, by decide⟩, zt4 (List.mem_of_getElem? (i := 172) rfl), zt4 (List.mem_of_getElem? (i := 173) rfl)⟩
theorem okX6_lay : zokV mX6_lay 3 := ⟨⟨zini_SixWalls_Shelves, zt4 (List.mem_of_getElem? (i := 186) rfl), zpn_SixWalls_Shelves.1, zpn_SixWalls_Shelves.2, zds_7, by decide⟩, zt4 (List.mem_of_getElem? (i := 184) rfl), zt4 (List.mem_of_getElem? (i := 185) rfl)⟩
theorem okX6_hasPlace : zokV mX6_hasPlace 2 := ⟨⟨zini_SixWalls_Shelves, zt3 (List.mem_of_getElem? (i := 0) rfl), zpn_SixWalls_Shelves.1, zpn_SixWalls_Shelves.2, zds_4, by decide⟩, zt2 (List.mem_of_getElem? (i := 238) rfl), zt2 (List.mem_of_getElem? (i := 239) rfl)⟩
theorem okX6_hasStretch : zokV mX6_hasStretch 3 := ⟨⟨zini_SixWalls_Shelves, zt4 (List.mem_of_getElem? (i := 223) rfl), zpn_SixWalls_Shelves.1, zpn_SixWalls_Shelves.2, zds_10, by decide⟩, zt4 (List.mem_of_getElem? (i := 221) rfl), zt4 (List.mem_of_getElem? (i := 222) rfl)⟩
theorem okX6_refusalOfRow : zokV mX6_refusalOfRow 1 := ⟨⟨zini_SixWalls_Shelves, zt4 (List.mem_of_getElem? (i := 198) rfl), zpn_SixWalls_Shelves.1, zpn_SixWalls_Shelves.2, zds_3, by decide⟩, zt4 (List.mem_of_getElem? (i := 197) rfl), zt0 (List.mem_of_getElem? (i := 31) rfl)⟩
theorem okX6_refusal : zokV mX6_refusal 2 := ⟨⟨zini_SixWalls_Shelves, zt4 (List.mem_of_getElem? (i := 194) rfl), zpn_SixWalls_Shelves.1, zpn_SixWalls_Shelves.2, zds_8, by decide⟩, zt4 (List.mem_of_getElem? (i := 192) rfl), zt4 (List.mem_of_getElem? (i := 193) rfl)⟩
theorem okX6_refusalOfTwo : zokV mX6_refusalOfTwo 2 := ⟨⟨zini_SixWalls_Shelves, zt4 (List.mem_of_getElem? (i := 219) rfl), zpn_SixWalls_Shelves.1, zpn_SixWalls_Shelves.2, zds_8, by decide⟩, zt4 (List.mem_of_getElem? (i := 217) rfl), zt4 (List.mem_of_getElem? (i := 218) rfl)⟩
theorem okX6_at : zokV mX6_at 2 := ⟨⟨zini_SixWalls_Shelves, zt3 (List.mem_of_getElem? (i := 4) rfl), zpn_SixWalls_Shelves.1, zpn_SixWalls_Shelves.2, zds_23, by decide⟩, zt3 (List.mem_of_getElem? (i := 2) rfl), zt3 (List.mem_of_getElem? (i := 3) rfl)⟩
theorem okX6_set : zokV mX6_set 3 := ⟨⟨zini_SixWalls_Shelves, zt4 (List.mem_of_getElem? (i := 204) rfl), zpn_SixWalls_Shelves.1, zpn_SixWalls_Shelves.2, zds_24, by decide⟩, zt4 (List.mem_of_getElem? (i := 202) rfl), zt4 (List.mem_of_getElem? (i := 203) rfl)⟩
theorem okX6_move : zokV mX6_move 5 := ⟨⟨zini_SixWalls_Shelves, zt4 (List.mem_of_getElem? (i := 227) rfl), zpn_SixWalls_Shelves.1, zpn_SixWalls_Shelves.2, zds_25, by decide⟩, zt4 (List.mem_of_getElem? (i := 225) rfl), zt4 (List.mem_of_getElem? (i := 226) rfl)⟩
theorem okX6_narrowed : zokS mX6_narrowed 2 := ⟨⟨zini_SixWalls_Shelves, zt4 (List.mem_of_getElem? (i := 207) rfl), zpn_SixWalls_Shelves.1, zpn_SixWalls_Shelves.2, zds_26, by decide⟩, zt4 (List.mem_of_getElem? (i := 206) rfl)⟩
theorem okX7_init : zokI mX7_init 1 := ⟨⟨zini_SixWalls_Ways, zt1 (List.mem_of_getElem? (i := 227) rfl), zpn_SixWalls_Ways.1, zpn_SixWalls_Ways.2, zds_11, by decide⟩, zt1 (List.mem_of_getElem? (i := 226) rfl), rfl, rfl⟩
theorem okX7_steps : zokV mX7_steps 2 := ⟨⟨zini_SixWalls_Ways, zt3 (List.mem_of_getElem? (i := 160) rfl), zpn_SixWalls_Ways.1, zpn_SixWalls_Ways.2, zds_8, by decide⟩, zt3 (List.mem_of_getElem? (i := 158) rfl), zt3 (List.mem_of_getElem? (i := 159) rfl)⟩
theorem okX7_besides : zokV mX7_besides 1 := ⟨⟨zini_SixWalls_Ways, zt3 (List.mem_of_getElem? (i := 164) rfl), zpn_SixWalls_Ways.1, zpn_SixWalls_Ways.2, zds_3, by decide⟩, zt3 (List.mem_of_getElem? (i := 163) rfl), zt0 (List.mem_of_getElem? (i := 16) rfl)⟩
theorem okX7_gather : zokV mX7_gather 0 := ⟨⟨zini_SixWalls_Ways, zt3 (List.mem_of_getElem? (i := 176) rfl), zpn_SixWalls_Ways.1, zpn_SixWalls_Ways.2, zds_0, by decide⟩, zt3 (List.mem_of_getElem? (i := 175) rfl), zt0 (List.mem_of_getElem? (i := 17) rfl)⟩
theorem okX7_join : zokV mX7_join 2 := ⟨⟨zini_SixWalls_Ways, zt3 (List.mem_of_getElem? (i := 184) rfl), zpn_SixWalls_Ways.1, zpn_SixWalls_Ways.2, zds_12, by decide⟩, zt3 (List.mem_of_getElem? (i := 183) rfl), zt0 (List.mem_of_getElem? (i := 18) rfl)⟩
theorem okX7_shutIn : zokV mX7_shutIn 0 := ⟨⟨zini_SixWalls_Ways, zt3 (List.mem_of_getElem? (i := 172) rfl), zpn_SixWalls_Ways.1, zpn_SixWalls_Ways.2, zds_1, by decide⟩, zt3 (List.mem_of_getElem? (i := 170) rfl), zt3 (List.mem_of_getElem? (i := 171) rfl)⟩
theorem okX7_friends : zokV mX7_friends 0 := ⟨⟨zini_SixWalls_Ways, zt3 (List.mem_of_getElem? (i := 189) rfl), zpn_SixWalls_Ways.1, zpn_SixWalls_Ways.2, zds_1, by decide⟩, zt3 (List.mem_of_getElem? (i := 187) rfl), zt3 (List.mem_of_getElem? (i := 188) rfl)⟩
theorem okX7_fewestMore : zokV mX7_fewestMore 0 := ⟨⟨zini_SixWalls_Ways, zt3 (List.mem_of_getElem? (i := 198) rfl), zpn_SixWalls_Ways.1, zpn_SixWalls_Ways.2, zds_27, by decide⟩, zt3 (List.mem_of_getElem? (i := 196) rfl), zt3 (List.mem_of_getElem? (i := 197) rfl)⟩
theorem okX7_listen : zokV mX7_listen 1 := ⟨⟨zini_SixWalls_Ways, zt3 (List.mem_of_getElem? (i := 217) rfl), zpn_SixWalls_Ways.1, zpn_SixWalls_Ways.2, zds_13, by decide⟩, zt3 (List.mem_of_getElem? (i := 216) rfl), zt0 (List.mem_of_getElem? (i := 19) rfl)⟩
theorem okX7_pass : zokV mX7_pass 3 := ⟨⟨zini_SixWalls_Ways, zt3 (List.mem_of_getElem? (i := 222) rfl), zpn_SixWalls_Ways.1, zpn_SixWalls_Ways.2, zds_10, by decide⟩, zt3 (List.mem_of_getElem? (i := 221) rfl), zt0 (List.mem_of_getElem? (i := 20) rfl)⟩
theorem okX7_loudness : zokV mX7_loudness 3 := ⟨⟨zini_SixWalls_Ways, zt3 (List.mem_of_getElem? (i := 213) rfl), zpn_SixWalls_Ways.1, zpn_SixWalls_Ways.2, zds_5, by decide⟩, zt3 (List.mem_of_getElem? (i := 211) rfl), zt3 (List.mem_of_getElem? (i := 212) rfl)⟩
theorem okX7_sources : zokV mX7_sources 2 := ⟨⟨zini_SixWalls_Ways, zt3 (List.mem_of_getElem? (i := 231) rfl), zpn_SixWalls_Ways.1, zpn_SixWalls_Ways.2, zds_8, by decide⟩, zt3 (List.mem_of_getElem? (i := 229) rfl), zt3 (List.mem_of_getElem? (i := 230) rfl)⟩
theorem okX7_hearers : zokV mX7_hearers 2 := ⟨⟨zini_SixWalls_Ways, zt3 (List.mem_of_getElem? (i := 235) rfl), zpn_SixWalls_Ways.1, zpn_SixWalls_Ways.2, zds_8, by decide⟩, zt3 (List.mem_of_getElem? (i := 234) rfl), zt0 (List.mem_of_getElem? (i := 21) rfl)⟩
theorem okX8_init : zokI mX8_init 2 := ⟨⟨zini_SixWalls_Winter, zt1 (List.mem_of_getElem? (i := 174) rfl), zpn_SixWalls_Winter.1, zpn_SixWalls_Winter.2, zds_28, by decide⟩, zt1 (List.mem_of_getElem? (i := 173) rfl), rfl, rfl⟩
theorem okX8_flow : zokV mX8_flow 2 := ⟨⟨zini_SixWalls_Winter, zt2 (List.mem_of_getElem? (i := 191) rfl), zpn_SixWalls_Winter.1, zpn_SixWalls_Winter.2, zds_9, by decide⟩, zt2 (List.mem_of_getElem? (i := 189) rfl), zt2 (List.mem_of_getElem? (i := 190) rfl)⟩
theorem okX8_lawful : zokV mX8_lawful 4 := ⟨⟨zini_SixWalls_Winter, zt2 (List.mem_of_getElem? (i := 202) rfl), zpn_SixWalls_Winter.1, zpn_SixWalls_Winter.2, zds_6, by decide⟩, zt2 (List.mem_of_getElem? (i := 201) rfl), zt0 (List.mem_of_getElem? (i := 4) rfl)⟩
theorem okX8_begin : zokV mX8_begin 0 := ⟨⟨zini_SixWalls_Winter, zt3 (List.mem_of_getElem? (i := 76) rfl), zpn_SixWalls_Winter.1, zpn_SixWalls_Winter.2, zds_0, by decide⟩, zt3 (List.mem_of_getElem? (i := 75) rfl), zt0 (List.mem_of_getElem? (i := 12) rfl)⟩
theorem okX8_pass : zokV mX8_pass 0 := ⟨⟨zini_SixWalls_Winter, zt3 (List.mem_of_getElem? (i := 85) rfl), zpn_SixWalls_Winter.1, zpn_SixWalls_Winter.2, zds_14, by decide⟩, zt3 (List.mem_of_getElem? (i := 84) rfl), zt0 (List.mem_of_getElem? (i := 14) rfl)⟩
theorem okX8_passAll : zokV mX8_passAll 1 := ⟨⟨zini_SixWalls_Winter, zt3 (List.mem_of_getElem? (i := 81) rfl), zpn_SixWalls_Winter.1, zpn_SixWalls_Winter.2, zds_13, by decide⟩, zt3 (List.mem_of_getElem? (i := 80) rfl), zt0 (List.mem_of_getElem? (i := 13) rfl)⟩
theorem okX8_think : zokV mX8_think 1 := ⟨⟨zini_SixWalls_Winter, zt3 (List.mem_of_getElem? (i := 72) rfl), zpn_SixWalls_Winter.1, zpn_SixWalls_Winter.2, zds_13, by decide⟩, zt3 (List.mem_of_getElem? (i := 70) rfl), zt3 (List.mem_of_getElem? (i := 71) rfl)⟩
theorem okX8_daysTillStill : zokV mX8_daysTillStill 0 := ⟨⟨zini_SixWalls_Winter, zt3 (List.mem_of_getElem? (i := 101) rfl), zpn_SixWalls_Winter.1, zpn_SixWalls_Winter.2, zds_1, by decide⟩, zt3 (List.mem_of_getElem? (i := 99) rfl), zt3 (List.mem_of_getElem? (i := 100) rfl)⟩
theorem okX8_goneThrough : zokV mX8_goneThrough 2 := ⟨⟨zini_SixWalls_Winter, zt3 (List.mem_of_getElem? (i := 109) rfl), zpn_SixWalls_Winter.1, zpn_SixWalls_Winter.2, zds_8, by decide⟩, zt3 (List.mem_of_getElem? (i := 107) rfl), zt3 (List.mem_of_getElem? (i := 108) rfl)⟩
theorem okX8_fireFor : zokV mX8_fireFor 3 := ⟨⟨zini_SixWalls_Winter, zt3 (List.mem_of_getElem? (i := 117) rfl), zpn_SixWalls_Winter.1, zpn_SixWalls_Winter.2, zds_5, by decide⟩, zt3 (List.mem_of_getElem? (i := 115) rfl), zt3 (List.mem_of_getElem? (i := 116) rfl)⟩
theorem okX8_live : zokV mX8_live 1 := ⟨⟨zini_SixWalls_Winter, zt3 (List.mem_of_getElem? (i := 125) rfl), zpn_SixWalls_Winter.1, zpn_SixWalls_Winter.2, zds_13, by decide⟩, zt3 (List.mem_of_getElem? (i := 123) rfl), zt3 (List.mem_of_getElem? (i := 124) rfl)⟩
theorem okX9_init : zokI mX9_init 0 := ⟨⟨zini_SixWalls, zt1 (List.mem_of_getElem? (i := 20) rfl), zpn_SixWalls.1, zpn_SixWalls.2, zds_0, by decide⟩, zt1 (List.mem_of_getElem? (i := 19) rfl), rfl, rfl⟩
theorem okX9_within : zokS mX9_within 3 := ⟨⟨zini_SixWalls, zt2 (List.mem_of_getElem? (i := 130) rfl), zpn_SixWalls.1, zpn_SixWalls.2, zds_10, by decide⟩, zt2 (List.mem_of_getElem? (i := 129) rfl)⟩
theorem okX9_isHouse : zokS mX9_isHouse 1 := ⟨⟨zini_SixWalls, zt2 (List.mem_of_getElem? (i := 127) rfl), zpn_SixWalls.1, zpn_SixWalls.2, zds_2, by decide⟩, zt2 (List.mem_of_getElem? (i := 126) rfl)⟩
theorem okX9_isWall : zokS mX9_isWall 1 := ⟨⟨zini_SixWalls, zt2 (List.mem_of_getElem? (i := 147) rfl), zpn_SixWalls.1, zpn_SixWalls.2, zds_2, by decide⟩, zt2 (List.mem_of_getElem? (i := 146) rfl)⟩
theorem okX9_isThought : zokS mX9_isThought 1 := ⟨⟨zini_SixWalls, zt3 (List.mem_of_getElem? (i := 68) rfl), zpn_SixWalls.1, zpn_SixWalls.2, zds_2, by decide⟩, zt3 (List.mem_of_getElem? (i := 67) rfl)⟩
theorem okX9_isPair : zokS mX9_isPair 1 := ⟨⟨zini_SixWalls, zt2 (List.mem_of_getElem? (i := 124) rfl), zpn_SixWalls.1, zpn_SixWalls.2, zds_2, by decide⟩, zt2 (List.mem_of_getElem? (i := 123) rfl)⟩
theorem okX9_sum : zokS mX9_sum 1 := ⟨⟨zini_SixWalls, zt3 (List.mem_of_getElem? (i := 89) rfl), zpn_SixWalls.1, zpn_SixWalls.2, zds_20, by decide⟩, zt3 (List.mem_of_getElem? (i := 88) rfl)⟩
theorem okX9_wall : zokV mX9_wall 1 := ⟨⟨zini_SixWalls, zt2 (List.mem_of_getElem? (i := 121) rfl), zpn_SixWalls.1, zpn_SixWalls.2, zds_3, by decide⟩, zt2 (List.mem_of_getElem? (i := 119) rfl), zt2 (List.mem_of_getElem? (i := 120) rfl)⟩
theorem okX9_mend : zokV mX9_mend 3 := ⟨⟨zini_SixWalls, zt2 (List.mem_of_getElem? (i := 138) rfl), zpn_SixWalls.1, zpn_SixWalls.2, zds_5, by decide⟩, zt2 (List.mem_of_getElem? (i := 136) rfl), zt2 (List.mem_of_getElem? (i := 137) rfl)⟩
theorem okX9_of : zokV mX9_of 2 := ⟨⟨zini_SixWalls, zt2 (List.mem_of_getElem? (i := 169) rfl), zpn_SixWalls.1, zpn_SixWalls.2, zds_8, by decide⟩, zt2 (List.mem_of_getElem? (i := 167) rfl), zt2 (List.mem_of_getElem? (i := 168) rfl)⟩
theorem okX9_ofHouse : zokV mX9_ofHouse 2 := ⟨⟨zini_SixWalls, zt2 (List.mem_of_getElem? (i := 173) rfl), zpn_SixWalls.1, zpn_SixWalls.2, zds_8, by decide⟩, zt2 (List.mem_of_getElem? (i := 172) rfl), zt0 (List.mem_of_getElem? (i := 2) rfl)⟩
theorem okX9_ofWall : zokV mX9_ofWall 2 := ⟨⟨zini_SixWalls, zt2 (List.mem_of_getElem? (i := 183) rfl), zpn_SixWalls.1, zpn_SixWalls.2, zds_8, by decide⟩, zt2 (List.mem_of_getElem? (i := 182) rfl), zt0 (List.mem_of_getElem? (i := 3) rfl)⟩
theorem okX9_fires : zokV mX9_fires 3 := ⟨⟨zini_SixWalls, zt2 (List.mem_of_getElem? (i := 227) rfl), zpn_SixWalls.1, zpn_SixWalls.2, zds_5, by decide⟩, zt2 (List.mem_of_getElem? (i := 225) rfl), zt2 (List.mem_of_getElem? (i := 226) rfl)⟩
theorem okX9_feed : zokV mX9_feed 1 := ⟨⟨zini_SixWalls, zt3 (List.mem_of_getElem? (i := 9) rfl), zpn_SixWalls.1, zpn_SixWalls.2, zds_3, by decide⟩, zt3 (List.mem_of_getElem? (i := 7) rfl), zt3 (List.mem_of_getElem? (i := 8) rfl)⟩
theorem okX9_law : zokV mX9_law 0 := ⟨⟨zini_SixWalls, zt3 (List.mem_of_getElem? (i := 21) rfl), zpn_SixWalls.1, zpn_SixWalls.2, zds_1, by decide⟩, zt3 (List.mem_of_getElem? (i := 19) rfl), zt3 (List.mem_of_getElem? (i := 20) rfl)⟩
theorem okX9_warmth : zokV mX9_warmth 2 := ⟨⟨zini_SixWalls, zt3 (List.mem_of_getElem? (i := 65) rfl), zpn_SixWalls.1, zpn_SixWalls.2, zds_8, by decide⟩, zt3 (List.mem_of_getElem? (i := 63) rfl), zt3 (List.mem_of_getElem? (i := 64) rfl)⟩
theorem okX9_cold : zokV mX9_cold 2 := ⟨⟨zini_SixWalls, zt3 (List.mem_of_getElem? (i := 93) rfl), zpn_SixWalls.1, zpn_SixWalls.2, zds_8, by decide⟩, zt3 (List.mem_of_getElem? (i := 91) rfl), zt3 (List.mem_of_getElem? (i := 92) rfl)⟩
theorem okX9_still : zokV mX9_still 0 := ⟨⟨zini_SixWalls, zt3 (List.mem_of_getElem? (i := 97) rfl), zpn_SixWalls.1, zpn_SixWalls.2, zds_1, by decide⟩, zt3 (List.mem_of_getElem? (i := 95) rfl), zt3 (List.mem_of_getElem? (i := 96) rfl)⟩
theorem okX9_gave : zokV mX9_gave 2 := ⟨⟨zini_SixWalls, zt3 (List.mem_of_getElem? (i := 105) rfl), zpn_SixWalls.1, zpn_SixWalls.2, zds_8, by decide⟩, zt3 (List.mem_of_getElem? (i := 103) rfl), zt3 (List.mem_of_getElem? (i := 104) rfl)⟩
theorem okX9_leastFire : zokV mX9_leastFire 2 := ⟨⟨zini_SixWalls, zt3 (List.mem_of_getElem? (i := 113) rfl), zpn_SixWalls.1, zpn_SixWalls.2, zds_8, by decide⟩, zt3 (List.mem_of_getElem? (i := 111) rfl), zt3 (List.mem_of_getElem? (i := 112) rfl)⟩
theorem okX9_days : zokV mX9_days 1 := ⟨⟨zini_SixWalls, zt3 (List.mem_of_getElem? (i := 121) rfl), zpn_SixWalls.1, zpn_SixWalls.2, zds_3, by decide⟩, zt3 (List.mem_of_getElem? (i := 119) rfl), zt3 (List.mem_of_getElem? (i := 120) rfl)⟩
theorem okX9_led : zokV mX9_led 1 := ⟨⟨zini_SixWalls, zt3 (List.mem_of_getElem? (i := 130) rfl), zpn_SixWalls.1, zpn_SixWalls.2, zds_3, by decide⟩, zt3 (List.mem_of_getElem? (i := 128) rfl), zt3 (List.mem_of_getElem? (i := 129) rfl)⟩
theorem okX9_rounds : zokV mX9_rounds 1 := ⟨⟨zini_SixWalls, zt3 (List.mem_of_getElem? (i := 134) rfl), zpn_SixWalls.1, zpn_SixWalls.2, zds_3, by decide⟩, zt3 (List.mem_of_getElem? (i := 132) rfl), zt3 (List.mem_of_getElem? (i := 133) rfl)⟩
theorem okX9_way : zokV mX9_way 1 := ⟨⟨zini_SixWalls, zt3 (List.mem_of_getElem? (i := 156) rfl), zpn_SixWalls.1, zpn_SixWalls.2, zds_3, by decide⟩, zt3 (List.mem_of_getElem? (i := 154) rfl), zt3 (List.mem_of_getElem? (i := 155) rfl)⟩
theorem okX9_doors : zokV mX9_doors 1 := ⟨⟨zini_SixWalls, zt3 (List.mem_of_getElem? (i := 168) rfl), zpn_SixWalls.1, zpn_SixWalls.2, zds_3, by decide⟩, zt3 (List.mem_of_getElem? (i := 166) rfl), zt3 (List.mem_of_getElem? (i := 167) rfl)⟩
theorem okX9_opened : zokV mX9_opened 1 := ⟨⟨zini_SixWalls, zt3 (List.mem_of_getElem? (i := 193) rfl), zpn_SixWalls.1, zpn_SixWalls.2, zds_29, by decide⟩, zt3 (List.mem_of_getElem? (i := 191) rfl), zt3 (List.mem_of_getElem? (i := 192) rfl)⟩
theorem okX9_heard : zokV mX9_heard 2 := ⟨⟨zini_SixWalls, zt3 (List.mem_of_getElem? (i := 209) rfl), zpn_SixWalls.1, zpn_SixWalls.2, zds_8, by decide⟩, zt3 (List.mem_of_getElem? (i := 207) rfl), zt3 (List.mem_of_getElem? (i := 208) rfl)⟩
theorem okX9_whose : zokV mX9_whose 2 := ⟨⟨zini_SixWalls, zt3 (List.mem_of_getElem? (i := 226) rfl), zpn_SixWalls.1, zpn_SixWalls.2, zds_8, by decide⟩, zt3 (List.mem_of_getElem? (i := 224) rfl), zt3 (List.mem_of_getElem? (i := 225) rfl)⟩
theorem okX9_colours : zokV mX9_colours 1 := ⟨⟨zini_SixWalls, zt3 (List.mem_of_getElem? (i := 239) rfl), zpn_SixWalls.1, zpn_SixWalls.2, zds_3, by decide⟩, zt3 (List.mem_of_getElem? (i := 237) rfl), zt3 (List.mem_of_getElem? (i := 238) rfl)⟩
theorem okX9_paint : zokV mX9_paint 1 := ⟨⟨zini_SixWalls, zt4 (List.mem_of_getElem? (i := 37) rfl), zpn_SixWalls.1, zpn_SixWalls.2, zds_3, by decide⟩, zt4 (List.mem_of_getElem? (i := 35) rfl), zt4 (List.mem_of_getElem? (i := 36) rfl)⟩
theorem okX9_empty : zokV mX9_empty 1 := ⟨⟨zini_SixWalls, zt4 (List.mem_of_getElem? (i := 42) rfl), zpn_SixWalls.1, zpn_SixWalls.2, zds_3, by decide⟩, zt4 (List.mem_of_getElem? (i := 40) rfl), zt4 (List.mem_of_getElem? (i := 41) rfl)⟩
theorem okX9_takes : zokV mX9_takes 2 := ⟨⟨zini_SixWalls, zt4 (List.mem_of_getElem? (i := 46) rfl), zpn_SixWalls.1, zpn_SixWalls.2, zds_8, by decide⟩, zt4 (List.mem_of_getElem? (i := 44) rfl), zt4 (List.mem_of_getElem? (i := 45) rfl)⟩
theorem okX9_where : zokV mX9_where 1 := ⟨⟨zini_SixWalls, zt4 (List.mem_of_getElem? (i := 59) rfl), zpn_SixWalls.1, zpn_SixWalls.2, zds_3, by decide⟩, zt4 (List.mem_of_getElem? (i := 57) rfl), zt4 (List.mem_of_getElem? (i := 58) rfl)⟩
theorem okX9_years : zokV mX9_years 2 := ⟨⟨zini_SixWalls, zt4 (List.mem_of_getElem? (i := 63) rfl), zpn_SixWalls.1, zpn_SixWalls.2, zds_8, by decide⟩, zt4 (List.mem_of_getElem? (i := 61) rfl), zt4 (List.mem_of_getElem? (i := 62) rfl)⟩
theorem okX9_image : zokV mX9_image 0 := ⟨⟨zini_SixWalls, zt4 (List.mem_of_getElem? (i := 86) rfl), zpn_SixWalls.1, zpn_SixWalls.2, zds_1, by decide⟩, zt4 (List.mem_of_getElem? (i := 84) rfl), zt4 (List.mem_of_getElem? (i := 85) rfl)⟩
theorem okX9_back : zokV mX9_back 0 := ⟨⟨zini_SixWalls, zt4 (List.mem_of_getElem? (i := 95) rfl), zpn_SixWalls.1, zpn_SixWalls.2, zds_1, by decide⟩, zt4 (List.mem_of_getElem? (i := 93) rfl), zt4 (List.mem_of_getElem? (i := 94) rfl)⟩
theorem okX9_undo : zokV mX9_undo 0 := ⟨⟨zini_SixWalls, zt4 (List.mem_of_getElem? (i := 103) rfl), zpn_SixWalls.1, zpn_SixWalls.2, zds_1, by decide⟩, zt4 (List.mem_of_getElem? (i := 101) rfl), zt4 (List.mem_of_getElem? (i := 102) rfl)⟩
theorem okX9_redo : zokV mX9_redo 0 := ⟨⟨zini_SixWalls, zt4 (List.mem_of_getElem? (i := 112) rfl), zpn_SixWalls.1, zpn_SixWalls.2, zds_1, by decide⟩, zt4 (List.mem_of_getElem? (i := 110) rfl), zt4 (List.mem_of_getElem? (i := 111) rfl)⟩
theorem okX9_body : zokV mX9_body 1 := ⟨⟨zini_SixWalls, zt4 (List.mem_of_getElem? (i := 120) rfl), zpn_SixWalls.1, zpn_SixWalls.2, zds_3, by decide⟩, zt4 (List.mem_of_getElem? (i := 118) rfl), zt4 (List.mem_of_getElem? (i := 119) rfl)⟩
theorem okX9_act : zokV mX9_act 3 := ⟨⟨zini_SixWalls, zt4 (List.mem_of_getElem? (i := 134) rfl), zpn_SixWalls.1, zpn_SixWalls.2, zds_5, by decide⟩, zt4 (List.mem_of_getElem? (i := 132) rfl), zt4 (List.mem_of_getElem? (i := 133) rfl)⟩
theorem okX9_trace : zokV mX9_trace 1 := ⟨⟨zini_SixWalls, zt4 (List.mem_of_getElem? (i := 160) rfl), zpn_SixWalls.1, zpn_SixWalls.2, zds_3, by decide⟩, zt4 (List.mem_of_getElem? (i := 158) rfl), zt4 (List.mem_of_getElem? (i := 159) rfl)⟩
theorem okX9_keep : zokV mX9_keep 2 := ⟨⟨zini_SixWalls, zt4 (List.mem_of_getElem? (i := 169) rfl), zpn_SixWalls.1, zpn_SixWalls.2, zds_8, by decide⟩, zt4 (List.mem_of_getElem? (i := 167) rfl), zt4 (List.mem_of_getElem? (i := 168) rfl)⟩
theorem okX9_row : zokV mX9_row 3 := ⟨⟨zini_SixWalls, zt4 (List.mem_of_getElem? (i := 178) rfl), zpn_SixWalls.1, zpn_SixWalls.2, zds_5, by decide⟩, zt4 (List.mem_of_getElem? (i := 176) rfl), zt4 (List.mem_of_getElem? (i := 177) rfl)⟩
theorem okX9_put : zokV mX9_put 3 := ⟨⟨zini_SixWalls, zt4 (List.mem_of_getElem? (i := 190) rfl), zpn_SixWalls.1, zpn_SixWalls.2, zds_30, by decide⟩, zt4 (List.mem_of_getElem? (i := 188) rfl), zt4 (List.mem_of_getElem? (i := 189) rfl)⟩
theorem okX9_element : zokV mX9_element 2 := ⟨⟨zini_SixWalls, zt4 (List.mem_of_getElem? (i := 211) rfl), zpn_SixWalls.1, zpn_SixWalls.2, zds_23, by decide⟩, zt4 (List.mem_of_getElem? (i := 209) rfl), zt4 (List.mem_of_getElem? (i := 210) rfl)⟩
theorem okX9_shift : zokV mX9_shift 5 := ⟨⟨zini_SixWalls, zt4 (List.mem_of_getElem? (i := 215) rfl), zpn_SixWalls.1, zpn_SixWalls.2, zds_17, by decide⟩, zt4 (List.mem_of_getElem? (i := 213) rfl), zt4 (List.mem_of_getElem? (i := 214) rfl)⟩
theorem okX9_taken : zokV mX9_taken 2 := ⟨⟨zini_SixWalls, zt4 (List.mem_of_getElem? (i := 232) rfl), zpn_SixWalls.1, zpn_SixWalls.2, zds_8, by decide⟩, zt4 (List.mem_of_getElem? (i := 230) rfl), zt4 (List.mem_of_getElem? (i := 231) rfl)⟩
theorem okX9_count : zokV mX9_count 1 := ⟨⟨zini_SixWalls, zt5 (List.mem_of_getElem? (i := 13) rfl), zpn_SixWalls.1, zpn_SixWalls.2, zds_3, by decide⟩, zt5 (List.mem_of_getElem? (i := 11) rfl), zt5 (List.mem_of_getElem? (i := 12) rfl)⟩
theorem okX10_within : zokS mX10_within 3 := ⟨⟨zini_SixWallsModel, zt5 (List.mem_of_getElem? (i := 190) rfl), zpn_SixWallsModel.1, zpn_SixWallsModel.2, zds_31, by decide⟩, zt5 (List.mem_of_getElem? (i := 189) rfl)⟩
theorem okX10_isIn : zokS mX10_isIn 2 := ⟨⟨zini_SixWallsModel, zt6 (List.mem_of_getElem? (i := 151) rfl), zpn_SixWallsModel.1, zpn_SixWallsModel.2, zds_32, by decide⟩, zt6 (List.mem_of_getElem? (i := 150) rfl)⟩
theorem okX10_init : zokI mX10_init 0 := ⟨⟨zini_SixWallsModel, zt5 (List.mem_of_getElem? (i := 30) rfl), zpn_SixWallsModel.1, zpn_SixWallsModel.2, zds_0, by decide⟩, zt5 (List.mem_of_getElem? (i := 29) rfl), rfl, rfl⟩
theorem okX10_becomes : zokV mX10_becomes 2 := ⟨⟨zini_SixWallsModel, zt5 (List.mem_of_getElem? (i := 203) rfl), zpn_SixWallsModel.1, zpn_SixWallsModel.2, zds_8, by decide⟩, zt5 (List.mem_of_getElem? (i := 202) rfl), zt0 (List.mem_of_getElem? (i := 33) rfl)⟩
theorem okX10_undo : zokV mX10_undo 0 := ⟨⟨zini_SixWallsModel, zt5 (List.mem_of_getElem? (i := 172) rfl), zpn_SixWallsModel.1, zpn_SixWallsModel.2, zds_1, by decide⟩, zt5 (List.mem_of_getElem? (i := 170) rfl), zt5 (List.mem_of_getElem? (i := 171) rfl)⟩
theorem okX10_redo : zokV mX10_redo 0 := ⟨⟨zini_SixWallsModel, zt5 (List.mem_of_getElem? (i := 176) rfl), zpn_SixWallsModel.1, zpn_SixWallsModel.2, zds_1, by decide⟩, zt5 (List.mem_of_getElem? (i := 174) rfl), zt5 (List.mem_of_getElem? (i := 175) rfl)⟩
theorem okX10_isHouse : zokS mX10_isHouse 1 := ⟨⟨zini_SixWallsModel, zt5 (List.mem_of_getElem? (i := 186) rfl), zpn_SixWallsModel.1, zpn_SixWallsModel.2, zds_2, by decide⟩, zt5 (List.mem_of_getElem? (i := 185) rfl)⟩
theorem okX10_isWall : zokS mX10_isWall 1 := ⟨⟨zini_SixWallsModel, zt5 (List.mem_of_getElem? (i := 206) rfl), zpn_SixWallsModel.1, zpn_SixWallsModel.2, zds_2, by decide⟩, zt5 (List.mem_of_getElem? (i := 205) rfl)⟩
theorem okX10_areNeighbours : zokS mX10_areNeighbours 2 := ⟨⟨zini_SixWallsModel, zt5 (List.mem_of_getElem? (i := 34) rfl), zpn_SixWallsModel.1, zpn_SixWallsModel.2, zds_4, by decide⟩, zt5 (List.mem_of_getElem? (i := 33) rfl)⟩
theorem okX10_wallOf : zokV mX10_wallOf 2 := ⟨⟨zini_SixWallsModel, zt5 (List.mem_of_getElem? (i := 194) rfl), zpn_SixWallsModel.1, zpn_SixWallsModel.2, zds_8, by decide⟩, zt5 (List.mem_of_getElem? (i := 193) rfl), zt0 (List.mem_of_getElem? (i := 32) rfl)⟩
theorem okX10_isAb : zokS mX10_isAb 1 := ⟨⟨zini_SixWallsModel, zt5 (List.mem_of_getElem? (i := 183) rfl), zpn_SixWallsModel.1, zpn_SixWallsModel.2, zds_2, by decide⟩, zt5 (List.mem_of_getElem? (i := 182) rfl)⟩
theorem okX10_wall : zokV mX10_wall 1 := ⟨⟨zini_SixWallsModel, zt5 (List.mem_of_getElem? (i := 180) rfl), zpn_SixWallsModel.1, zpn_SixWallsModel.2, zds_3, by decide⟩, zt5 (List.mem_of_getElem? (i := 178) rfl), zt5 (List.mem_of_getElem? (i := 179) rfl)⟩
theorem okX10_mend : zokV mX10_mend 3 := ⟨⟨zini_SixWallsModel, zt5 (List.mem_of_getElem? (i := 198) rfl), zpn_SixWallsModel.1, zpn_SixWallsModel.2, zds_5, by decide⟩, zt5 (List.mem_of_getElem? (i := 196) rfl), zt5 (List.mem_of_getElem? (i := 197) rfl)⟩
theorem okX10_neighboursOf : zokV mX10_neighboursOf 1 := ⟨⟨zini_SixWallsModel, zt5 (List.mem_of_getElem? (i := 222) rfl), zpn_SixWallsModel.1, zpn_SixWallsModel.2, zds_3, by decide⟩, zt5 (List.mem_of_getElem? (i := 221) rfl), zt0 (List.mem_of_getElem? (i := 35) rfl)⟩
theorem okX10_agreedOf : zokV mX10_agreedOf 1 := ⟨⟨zini_SixWallsModel, zt6 (List.mem_of_getElem? (i := 0) rfl), zpn_SixWallsModel.1, zpn_SixWallsModel.2, zds_3, by decide⟩, zt5 (List.mem_of_getElem? (i := 239) rfl), zt0 (List.mem_of_getElem? (i := 39) rfl)⟩
theorem okX10_ofHouse : zokV mX10_ofHouse 2 := ⟨⟨zini_SixWallsModel, zt5 (List.mem_of_getElem? (i := 218) rfl), zpn_SixWallsModel.1, zpn_SixWallsModel.2, zds_8, by decide⟩, zt5 (List.mem_of_getElem? (i := 217) rfl), zt0 (List.mem_of_getElem? (i := 34) rfl)⟩
theorem okX10_ofWall : zokV mX10_ofWall 2 := ⟨⟨zini_SixWallsModel, zt5 (List.mem_of_getElem? (i := 236) rfl), zpn_SixWallsModel.1, zpn_SixWallsModel.2, zds_8, by decide⟩, zt5 (List.mem_of_getElem? (i := 235) rfl), zt0 (List.mem_of_getElem? (i := 38) rfl)⟩
theorem okX10_of : zokV mX10_of 2 := ⟨⟨zini_SixWallsModel, zt5 (List.mem_of_getElem? (i := 214) rfl), zpn_SixWallsModel.1, zpn_SixWallsModel.2, zds_8, by decide⟩, zt5 (List.mem_of_getElem? (i := 212) rfl), zt5 (List.mem_of_getElem? (i := 213) rfl)⟩
theorem okX10_fires : zokV mX10_fires 3 := ⟨⟨zini_SixWallsModel, zt6 (List.mem_of_getElem? (i := 61) rfl), zpn_SixWallsModel.1, zpn_SixWallsModel.2, zds_5, by decide⟩, zt6 (List.mem_of_getElem? (i := 59) rfl), zt6 (List.mem_of_getElem? (i := 60) rfl)⟩
theorem okX10_feed : zokV mX10_feed 1 := ⟨⟨zini_SixWallsModel, zt6 (List.mem_of_getElem? (i := 69) rfl), zpn_SixWallsModel.1, zpn_SixWallsModel.2, zds_3, by decide⟩, zt6 (List.mem_of_getElem? (i := 67) rfl), zt6 (List.mem_of_getElem? (i := 68) rfl)⟩
theorem okX10_byteAt : zokV mX10_byteAt 0 := ⟨⟨zini_SixWallsModel, zt6 (List.mem_of_getElem? (i := 44) rfl), zpn_SixWallsModel.1, zpn_SixWallsModel.2, zds_1, by decide⟩, zt6 (List.mem_of_getElem? (i := 43) rfl), zt0 (List.mem_of_getElem? (i := 50) rfl)⟩
theorem okX10_wrong : zokV mX10_wrong 0 := ⟨⟨zini_SixWallsModel, zt6 (List.mem_of_getElem? (i := 48) rfl), zpn_SixWallsModel.1, zpn_SixWallsModel.2, zds_1, by decide⟩, zt6 (List.mem_of_getElem? (i := 47) rfl), zt0 (List.mem_of_getElem? (i := 51) rfl)⟩
theorem okX10_takesByte : zokV mX10_takesByte 1 := ⟨⟨zini_SixWallsModel, zt6 (List.mem_of_getElem? (i := 52) rfl), zpn_SixWallsModel.1, zpn_SixWallsModel.2, zds_2, by decide⟩, zt6 (List.mem_of_getElem? (i := 51) rfl), zt0 (List.mem_of_getElem? (i := 52) rfl)⟩
theorem okX10_either : zokV mX10_either 0 := ⟨⟨zini_SixWallsModel, zt6 (List.mem_of_getElem? (i := 20) rfl), zpn_SixWallsModel.1, zpn_SixWallsModel.2, zds_1, by decide⟩, zt6 (List.mem_of_getElem? (i := 19) rfl), zt0 (List.mem_of_getElem? (i := 44) rfl)⟩
theorem okX10_both : zokV mX10_both 0 := ⟨⟨zini_SixWallsModel, zt6 (List.mem_of_getElem? (i := 24) rfl), zpn_SixWallsModel.1, zpn_SixWallsModel.2, zds_1, by decide⟩, zt6 (List.mem_of_getElem? (i := 23) rfl), zt0 (List.mem_of_getElem? (i := 45) rfl)⟩
theorem okX10_compared : zokV mX10_compared 0 := ⟨⟨zini_SixWallsModel, zt6 (List.mem_of_getElem? (i := 28) rfl), zpn_SixWallsModel.1, zpn_SixWallsModel.2, zds_1, by decide⟩, zt6 (List.mem_of_getElem? (i := 27) rfl), zt0 (List.mem_of_getElem? (i := 46) rfl)⟩
theorem okX10_sums : zokV mX10_sums 0 := ⟨⟨zini_SixWallsModel, zt6 (List.mem_of_getElem? (i := 32) rfl), zpn_SixWallsModel.1, zpn_SixWallsModel.2, zds_1, by decide⟩, zt6 (List.mem_of_getElem? (i := 31) rfl), zt0 (List.mem_of_getElem? (i := 47) rfl)⟩
theorem okX10_product : zokV mX10_product 0 := ⟨⟨zini_SixWallsModel, zt6 (List.mem_of_getElem? (i := 36) rfl), zpn_SixWallsModel.1, zpn_SixWallsModel.2, zds_1, by decide⟩, zt6 (List.mem_of_getElem? (i := 35) rfl), zt0 (List.mem_of_getElem? (i := 48) rfl)⟩
theorem okX10_nameOf : zokS mX10_nameOf 1 := ⟨⟨zini_SixWallsModel, zt6 (List.mem_of_getElem? (i := 55) rfl), zpn_SixWallsModel.1, zpn_SixWallsModel.2, zds_3, by decide⟩, zt6 (List.mem_of_getElem? (i := 54) rfl)⟩
theorem okX10_oneOf : zokV mX10_oneOf 0 := ⟨⟨zini_SixWallsModel, zt6 (List.mem_of_getElem? (i := 40) rfl), zpn_SixWallsModel.1, zpn_SixWallsModel.2, zds_1, by decide⟩, zt6 (List.mem_of_getElem? (i := 39) rfl), zt0 (List.mem_of_getElem? (i := 49) rfl)⟩
theorem okX10_workOut : zokV mX10_workOut 2 := ⟨⟨zini_SixWallsModel, zt6 (List.mem_of_getElem? (i := 16) rfl), zpn_SixWallsModel.1, zpn_SixWallsModel.2, zds_8, by decide⟩, zt6 (List.mem_of_getElem? (i := 15) rfl), zt0 (List.mem_of_getElem? (i := 43) rfl)⟩
theorem okX10_law : zokV mX10_law 0 := ⟨⟨zini_SixWallsModel, zt6 (List.mem_of_getElem? (i := 74) rfl), zpn_SixWallsModel.1, zpn_SixWallsModel.2, zds_1, by decide⟩, zt6 (List.mem_of_getElem? (i := 72) rfl), zt6 (List.mem_of_getElem? (i := 73) rfl)⟩
theorem okX10_begins1 : zokV mX10_begins1 0 := ⟨⟨zini_SixWallsModel, zt6 (List.mem_of_getElem? (i := 4) rfl), zpn_SixWallsModel.1, zpn_SixWallsModel.2, zds_0, by decide⟩, zt6 (List.mem_of_getElem? (i := 3) rfl), zt0 (List.mem_of_getElem? (i := 40) rfl)⟩
theorem okX10_throughOf : zokV mX10_throughOf 3 := ⟨⟨zini_SixWallsModel, zt6 (List.mem_of_getElem? (i := 12) rfl), zpn_SixWallsModel.1, zpn_SixWallsModel.2, zds_5, by decide⟩, zt6 (List.mem_of_getElem? (i := 11) rfl), zt0 (List.mem_of_getElem? (i := 42) rfl)⟩
theorem okX10_flowOf : zokV mX10_flowOf 1 := ⟨⟨zini_SixWallsModel, zt6 (List.mem_of_getElem? (i := 8) rfl), zpn_SixWallsModel.1, zpn_SixWallsModel.2, zds_3, by decide⟩, zt6 (List.mem_of_getElem? (i := 7) rfl), zt0 (List.mem_of_getElem? (i := 41) rfl)⟩
theorem okX10_dayGoes : zokV mX10_dayGoes 0 := ⟨⟨zini_SixWallsModel, zt6 (List.mem_of_getElem? (i := 87) rfl), zpn_SixWallsModel.1, zpn_SixWallsModel.2, zds_14, by decide⟩, zt6 (List.mem_of_getElem? (i := 86) rfl), zt0 (List.mem_of_getElem? (i := 54) rfl)⟩
theorem okX10_winter : zokV mX10_winter 1 := ⟨⟨zini_SixWallsModel, zt6 (List.mem_of_getElem? (i := 83) rfl), zpn_SixWallsModel.1, zpn_SixWallsModel.2, zds_13, by decide⟩, zt6 (List.mem_of_getElem? (i := 82) rfl), zt0 (List.mem_of_getElem? (i := 53) rfl)⟩
theorem okX10_allThen : zokV mX10_allThen 0 := ⟨⟨zini_SixWallsModel, zt6 (List.mem_of_getElem? (i := 91) rfl), zpn_SixWallsModel.1, zpn_SixWallsModel.2, zds_1, by decide⟩, zt6 (List.mem_of_getElem? (i := 90) rfl), zt0 (List.mem_of_getElem? (i := 55) rfl)⟩
theorem okX10_warmth : zokV mX10_warmth 2 := ⟨⟨zini_SixWallsModel, zt6 (List.mem_of_getElem? (i := 78) rfl), zpn_SixWallsModel.1, zpn_SixWallsModel.2, zds_8, by decide⟩, zt6 (List.mem_of_getElem? (i := 76) rfl), zt6 (List.mem_of_getElem? (i := 77) rfl)⟩
theorem okX10_cold : zokV mX10_cold 2 := ⟨⟨zini_SixWallsModel, zt6 (List.mem_of_getElem? (i := 95) rfl), zpn_SixWallsModel.1, zpn_SixWallsModel.2, zds_8, by decide⟩, zt6 (List.mem_of_getElem? (i := 93) rfl), zt6 (List.mem_of_getElem? (i := 94) rfl)⟩
theorem okX10_still : zokV mX10_still 0 := ⟨⟨zini_SixWallsModel, zt6 (List.mem_of_getElem? (i := 100) rfl), zpn_SixWallsModel.1, zpn_SixWallsModel.2, zds_1, by decide⟩, zt6 (List.mem_of_getElem? (i := 98) rfl), zt6 (List.mem_of_getElem? (i := 99) rfl)⟩
theorem okX10_gave : zokV mX10_gave 2 := ⟨⟨zini_SixWallsModel, zt6 (List.mem_of_getElem? (i := 104) rfl), zpn_SixWallsModel.1, zpn_SixWallsModel.2, zds_8, by decide⟩, zt6 (List.mem_of_getElem? (i := 102) rfl), zt6 (List.mem_of_getElem? (i := 103) rfl)⟩
theorem okX10_leastFire : zokV mX10_leastFire 2 := ⟨⟨zini_SixWallsModel, zt6 (List.mem_of_getElem? (i := 108) rfl), zpn_SixWallsModel.1, zpn_SixWallsModel.2, zds_8, by decide⟩, zt6 (List.mem_of_getElem? (i := 106) rfl), zt6 (List.mem_of_getElem? (i := 107) rfl)⟩
theorem okX10_days : zokV mX10_days 1 := ⟨⟨zini_SixWallsModel, zt6 (List.mem_of_getElem? (i := 112) rfl), zpn_SixWallsModel.1, zpn_SixWallsModel.2, zds_3, by decide⟩, zt6 (List.mem_of_getElem? (i := 110) rfl), zt6 (List.mem_of_getElem? (i := 111) rfl)⟩
theorem okX10_led : zokV mX10_led 1 := ⟨⟨zini_SixWallsModel, zt6 (List.mem_of_getElem? (i := 116) rfl), zpn_SixWallsModel.1, zpn_SixWallsModel.2, zds_3, by decide⟩, zt6 (List.mem_of_getElem? (i := 114) rfl), zt6 (List.mem_of_getElem? (i := 115) rfl)⟩
theorem okX10_asksThick : zokV mX10_asksThick 0 := ⟨⟨zini_SixWallsModel, zt5 (List.mem_of_getElem? (i := 226) rfl), zpn_SixWallsModel.1, zpn_SixWallsModel.2, zds_0, by decide⟩, zt5 (List.mem_of_getElem? (i := 225) rfl), zt0 (List.mem_of_getElem? (i := 36) rfl)⟩
theorem okX10_borne : zokV mX10_borne 1 := ⟨⟨zini_SixWallsModel, zt5 (List.mem_of_getElem? (i := 230) rfl), zpn_SixWallsModel.1, zpn_SixWallsModel.2, zds_3, by decide⟩, zt5 (List.mem_of_getElem? (i := 229) rfl), zt0 (List.mem_of_getElem? (i := 37) rfl)⟩
theorem okX10_roundGoes : zokV mX10_roundGoes 0 := ⟨⟨zini_SixWallsModel, zt6 (List.mem_of_getElem? (i := 124) rfl), zpn_SixWallsModel.1, zpn_SixWallsModel.2, zds_14, by decide⟩, zt6 (List.mem_of_getElem? (i := 123) rfl), zt0 (List.mem_of_getElem? (i := 56) rfl)⟩
theorem okX10_rounds : zokV mX10_rounds 1 := ⟨⟨zini_SixWallsModel, zt6 (List.mem_of_getElem? (i := 120) rfl), zpn_SixWallsModel.1, zpn_SixWallsModel.2, zds_3, by decide⟩, zt6 (List.mem_of_getElem? (i := 118) rfl), zt6 (List.mem_of_getElem? (i := 119) rfl)⟩
theorem okX10_measures : zokV mX10_measures 2 := ⟨⟨zini_SixWallsModel, zt6 (List.mem_of_getElem? (i := 132) rfl), zpn_SixWallsModel.1, zpn_SixWallsModel.2, zds_33, by decide⟩, zt6 (List.mem_of_getElem? (i := 131) rfl), zt0 (List.mem_of_getElem? (i := 57) rfl)⟩
theorem okX10_comesTo : zokV mX10_comesTo 2 := ⟨⟨zini_SixWallsModel, zt6 (List.mem_of_getElem? (i := 136) rfl), zpn_SixWallsModel.1, zpn_SixWallsModel.2, zds_4, by decide⟩, zt6 (List.mem_of_getElem? (i := 135) rfl), zt0 (List.mem_of_getElem? (i := 58) rfl)⟩
theorem okX10_way : zokV mX10_way 1 := ⟨⟨zini_SixWallsModel, zt6 (List.mem_of_getElem? (i := 128) rfl), zpn_SixWallsModel.1, zpn_SixWallsModel.2, zds_3, by decide⟩, zt6 (List.mem_of_getElem? (i := 126) rfl), zt6 (List.mem_of_getElem? (i := 127) rfl)⟩
theorem okX10_outWith : zokV mX10_outWith 1 := ⟨⟨zini_SixWallsModel, zt6 (List.mem_of_getElem? (i := 148) rfl), zpn_SixWallsModel.1, zpn_SixWallsModel.2, zds_34, by decide⟩, zt6 (List.mem_of_getElem? (i := 147) rfl), zt0 (List.mem_of_getElem? (i := 60) rfl)⟩
theorem okX10_livedIn : zokV mX10_livedIn 0 := ⟨⟨zini_SixWallsModel, zt6 (List.mem_of_getElem? (i := 144) rfl), zpn_SixWallsModel.1, zpn_SixWallsModel.2, zds_1, by decide⟩, zt6 (List.mem_of_getElem? (i := 143) rfl), zt0 (List.mem_of_getElem? (i := 59) rfl)⟩
theorem okX10_bitsOf : zokS mX10_bitsOf 1 := ⟨⟨zini_SixWallsModel, zt6 (List.mem_of_getElem? (i := 154) rfl), zpn_SixWallsModel.1, zpn_SixWallsModel.2, zds_34, by decide⟩, zt6 (List.mem_of_getElem? (i := 153) rfl)⟩
theorem okX10_doors : zokV mX10_doors 1 := ⟨⟨zini_SixWallsModel, zt6 (List.mem_of_getElem? (i := 140) rfl), zpn_SixWallsModel.1, zpn_SixWallsModel.2, zds_3, by decide⟩, zt6 (List.mem_of_getElem? (i := 138) rfl), zt6 (List.mem_of_getElem? (i := 139) rfl)⟩
theorem okX10_opens : zokV mX10_opens 3 := ⟨⟨zini_SixWallsModel, zt6 (List.mem_of_getElem? (i := 164) rfl), zpn_SixWallsModel.1, zpn_SixWallsModel.2, zds_24, by decide⟩, zt6 (List.mem_of_getElem? (i := 163) rfl), zt0 (List.mem_of_getElem? (i := 61) rfl)⟩
theorem okX10_opened : zokV mX10_opened 1 := ⟨⟨zini_SixWallsModel, zt6 (List.mem_of_getElem? (i := 158) rfl), zpn_SixWallsModel.1, zpn_SixWallsModel.2, zds_29, by decide⟩, zt6 (List.mem_of_getElem? (i := 156) rfl), zt6 (List.mem_of_getElem? (i := 157) rfl)⟩
theorem okX10_heard : zokV mX10_heard 2 := ⟨⟨zini_SixWallsModel, zt6 (List.mem_of_getElem? (i := 168) rfl), zpn_SixWallsModel.1, zpn_SixWallsModel.2, zds_8, by decide⟩, zt6 (List.mem_of_getElem? (i := 166) rfl), zt6 (List.mem_of_getElem? (i := 167) rfl)⟩
theorem okX10_whose : zokV mX10_whose 2 := ⟨⟨zini_SixWallsModel, zt6 (List.mem_of_getElem? (i := 172) rfl), zpn_SixWallsModel.1, zpn_SixWallsModel.2, zds_8, by decide⟩, zt6 (List.mem_of_getElem? (i := 170) rfl), zt6 (List.mem_of_getElem? (i := 171) rfl)⟩
theorem okX10_asksColours : zokV mX10_asksColours 0 := ⟨⟨zini_SixWallsModel, zt6 (List.mem_of_getElem? (i := 181) rfl), zpn_SixWallsModel.1, zpn_SixWallsModel.2, zds_0, by decide⟩, zt6 (List.mem_of_getElem? (i := 180) rfl), zt0 (List.mem_of_getElem? (i := 62) rfl)⟩
theorem okX10_clashes : zokV mX10_clashes 0 := ⟨⟨zini_SixWallsModel, zt6 (List.mem_of_getElem? (i := 189) rfl), zpn_SixWallsModel.1, zpn_SixWallsModel.2, zds_1, by decide⟩, zt6 (List.mem_of_getElem? (i := 188) rfl), zt0 (List.mem_of_getElem? (i := 64) rfl)⟩
theorem okX10_bestColour : zokV mX10_bestColour 1 := ⟨⟨zini_SixWallsModel, zt6 (List.mem_of_getElem? (i := 185) rfl), zpn_SixWallsModel.1, zpn_SixWallsModel.2, zds_3, by decide⟩, zt6 (List.mem_of_getElem? (i := 184) rfl), zt0 (List.mem_of_getElem? (i := 63) rfl)⟩
theorem okX10_paint : zokV mX10_paint 1 := ⟨⟨zini_SixWallsModel, zt6 (List.mem_of_getElem? (i := 177) rfl), zpn_SixWallsModel.1, zpn_SixWallsModel.2, zds_3, by decide⟩, zt6 (List.mem_of_getElem? (i := 175) rfl), zt6 (List.mem_of_getElem? (i := 176) rfl)⟩
theorem okX10_colours : zokV mX10_colours 1 := ⟨⟨zini_SixWallsModel, zt6 (List.mem_of_getElem? (i := 193) rfl), zpn_SixWallsModel.1, zpn_SixWallsModel.2, zds_3, by decide⟩, zt6 (List.mem_of_getElem? (i := 191) rfl), zt6 (List.mem_of_getElem? (i := 192) rfl)⟩
theorem okX10_empty : zokV mX10_empty 1 := ⟨⟨zini_SixWallsModel, zt6 (List.mem_of_getElem? (i := 197) rfl), zpn_SixWallsModel.1, zpn_SixWallsModel.2, zds_3, by decide⟩, zt6 (List.mem_of_getElem? (i := 195) rfl), zt6 (List.mem_of_getElem? (i := 196) rfl)⟩
theorem okX10_whoTakes : zokV mX10_whoTakes 1 := ⟨⟨zini_SixWallsModel, zt6 (List.mem_of_getElem? (i := 205) rfl), zpn_SixWallsModel.1, zpn_SixWallsModel.2, zds_3, by decide⟩, zt6 (List.mem_of_getElem? (i := 204) rfl), zt0 (List.mem_of_getElem? (i := 65) rfl)⟩
theorem okX10_takes : zokV mX10_takes 2 := ⟨⟨zini_SixWallsModel, zt6 (List.mem_of_getElem? (i := 201) rfl), zpn_SixWallsModel.1, zpn_SixWallsModel.2, zds_8, by decide⟩, zt6 (List.mem_of_getElem? (i := 199) rfl), zt6 (List.mem_of_getElem? (i := 200) rfl)⟩
theorem okX10_where : zokV mX10_where 1 := ⟨⟨zini_SixWallsModel, zt6 (List.mem_of_getElem? (i := 209) rfl), zpn_SixWallsModel.1, zpn_SixWallsModel.2, zds_3, by decide⟩, zt6 (List.mem_of_getElem? (i := 207) rfl), zt6 (List.mem_of_getElem? (i := 208) rfl)⟩
theorem okX10_isBorn : zokV mX10_isBorn 1 := ⟨⟨zini_SixWallsModel, zt6 (List.mem_of_getElem? (i := 218) rfl), zpn_SixWallsModel.1, zpn_SixWallsModel.2, zds_13, by decide⟩, zt6 (List.mem_of_getElem? (i := 217) rfl), zt0 (List.mem_of_getElem? (i := 66) rfl)⟩
theorem okX10_feuds : zokV mX10_feuds 1 := ⟨⟨zini_SixWallsModel, zt6 (List.mem_of_getElem? (i := 222) rfl), zpn_SixWallsModel.1, zpn_SixWallsModel.2, zds_13, by decide⟩, zt6 (List.mem_of_getElem? (i := 221) rfl), zt0 (List.mem_of_getElem? (i := 67) rfl)⟩
theorem okX10_years : zokV mX10_years 2 := ⟨⟨zini_SixWallsModel, zt6 (List.mem_of_getElem? (i := 213) rfl), zpn_SixWallsModel.1, zpn_SixWallsModel.2, zds_8, by decide⟩, zt6 (List.mem_of_getElem? (i := 211) rfl), zt6 (List.mem_of_getElem? (i := 212) rfl)⟩
theorem okX10_allWarmth : zokV mX10_allWarmth 0 := ⟨⟨zini_SixWallsModel, zt6 (List.mem_of_getElem? (i := 230) rfl), zpn_SixWallsModel.1, zpn_SixWallsModel.2, zds_1, by decide⟩, zt6 (List.mem_of_getElem? (i := 229) rfl), zt0 (List.mem_of_getElem? (i := 68) rfl)⟩
theorem okX10_image : zokV mX10_image 0 := ⟨⟨zini_SixWallsModel, zt6 (List.mem_of_getElem? (i := 226) rfl), zpn_SixWallsModel.1, zpn_SixWallsModel.2, zds_1, by decide⟩, zt6 (List.mem_of_getElem? (i := 224) rfl), zt6 (List.mem_of_getElem? (i := 225) rfl)⟩
theorem okX10_back : zokV mX10_back 0 := ⟨⟨zini_SixWallsModel, zt6 (List.mem_of_getElem? (i := 234) rfl), zpn_SixWallsModel.1, zpn_SixWallsModel.2, zds_1, by decide⟩, zt6 (List.mem_of_getElem? (i := 232) rfl), zt6 (List.mem_of_getElem? (i := 233) rfl)⟩
theorem okX10_doorMany : zokV mX10_doorMany 0 := ⟨⟨zini_SixWallsModel, zt7 (List.mem_of_getElem? (i := 78) rfl), zpn_SixWallsModel.1, zpn_SixWallsModel.2, zds_1, by decide⟩, zt7 (List.mem_of_getElem? (i := 77) rfl), zt0 (List.mem_of_getElem? (i := 77) rfl)⟩
theorem okX10_isBody : zokV mX10_isBody 1 := ⟨⟨zini_SixWallsModel, zt7 (List.mem_of_getElem? (i := 7) rfl), zpn_SixWallsModel.1, zpn_SixWallsModel.2, zds_2, by decide⟩, zt7 (List.mem_of_getElem? (i := 6) rfl), zt0 (List.mem_of_getElem? (i := 69) rfl)⟩
theorem okX10_kindOf : zokV mX10_kindOf 1 := ⟨⟨zini_SixWallsModel, zt7 (List.mem_of_getElem? (i := 67) rfl), zpn_SixWallsModel.1, zpn_SixWallsModel.2, zds_3, by decide⟩, zt7 (List.mem_of_getElem? (i := 66) rfl), zt0 (List.mem_of_getElem? (i := 76) rfl)⟩
theorem okX10_body : zokV mX10_body 1 := ⟨⟨zini_SixWallsModel, zt6 (List.mem_of_getElem? (i := 238) rfl), zpn_SixWallsModel.1, zpn_SixWallsModel.2, zds_3, by decide⟩, zt6 (List.mem_of_getElem? (i := 236) rfl), zt6 (List.mem_of_getElem? (i := 237) rfl)⟩
theorem okX10_above : zokS mX10_above 1 := ⟨⟨zini_SixWallsModel, zt7 (List.mem_of_getElem? (i := 70) rfl), zpn_SixWallsModel.1, zpn_SixWallsModel.2, zds_3, by decide⟩, zt7 (List.mem_of_getElem? (i := 69) rfl)⟩
theorem okX10_begins : zokV mX10_begins 1 := ⟨⟨zini_SixWallsModel, zt7 (List.mem_of_getElem? (i := 15) rfl), zpn_SixWallsModel.1, zpn_SixWallsModel.2, zds_13, by decide⟩, zt7 (List.mem_of_getElem? (i := 14) rfl), zt0 (List.mem_of_getElem? (i := 71) rfl)⟩
theorem okX10_warmsAs : zokV mX10_warmsAs 2 := ⟨⟨zini_SixWallsModel, zt7 (List.mem_of_getElem? (i := 11) rfl), zpn_SixWallsModel.1, zpn_SixWallsModel.2, zds_8, by decide⟩, zt7 (List.mem_of_getElem? (i := 10) rfl), zt0 (List.mem_of_getElem? (i := 70) rfl)⟩
theorem okX10_wallsAs : zokV mX10_wallsAs 2 := ⟨⟨zini_SixWallsModel, zt7 (List.mem_of_getElem? (i := 19) rfl), zpn_SixWallsModel.1, zpn_SixWallsModel.2, zds_8, by decide⟩, zt7 (List.mem_of_getElem? (i := 18) rfl), zt0 (List.mem_of_getElem? (i := 72) rfl)⟩
theorem okX10_pipesAs : zokV mX10_pipesAs 2 := ⟨⟨zini_SixWallsModel, zt7 (List.mem_of_getElem? (i := 23) rfl), zpn_SixWallsModel.1, zpn_SixWallsModel.2, zds_8, by decide⟩, zt7 (List.mem_of_getElem? (i := 22) rfl), zt0 (List.mem_of_getElem? (i := 73) rfl)⟩
theorem okX10_tellsAs : zokV mX10_tellsAs 2 := ⟨⟨zini_SixWallsModel, zt7 (List.mem_of_getElem? (i := 27) rfl), zpn_SixWallsModel.1, zpn_SixWallsModel.2, zds_8, by decide⟩, zt7 (List.mem_of_getElem? (i := 26) rfl), zt0 (List.mem_of_getElem? (i := 74) rfl)⟩
theorem okX10_act : zokV mX10_act 3 := ⟨⟨zini_SixWallsModel, zt7 (List.mem_of_getElem? (i := 3) rfl), zpn_SixWallsModel.1, zpn_SixWallsModel.2, zds_5, by decide⟩, zt7 (List.mem_of_getElem? (i := 1) rfl), zt7 (List.mem_of_getElem? (i := 2) rfl)⟩
theorem okX10_trace : zokV mX10_trace 1 := ⟨⟨zini_SixWallsModel, zt7 (List.mem_of_getElem? (i := 31) rfl), zpn_SixWallsModel.1, zpn_SixWallsModel.2, zds_3, by decide⟩, zt7 (List.mem_of_getElem? (i := 29) rfl), zt7 (List.mem_of_getElem? (i := 30) rfl)⟩
theorem okX10_isShelf : zokS mX10_isShelf 1 := ⟨⟨zini_SixWallsModel, zt6 (List.mem_of_getElem? (i := 64) rfl), zpn_SixWallsModel.1, zpn_SixWallsModel.2, zds_2, by decide⟩, zt6 (List.mem_of_getElem? (i := 63) rfl)⟩
theorem okX10_keep : zokV mX10_keep 2 := ⟨⟨zini_SixWallsModel, zt7 (List.mem_of_getElem? (i := 35) rfl), zpn_SixWallsModel.1, zpn_SixWallsModel.2, zds_8, by decide⟩, zt7 (List.mem_of_getElem? (i := 33) rfl), zt7 (List.mem_of_getElem? (i := 34) rfl)⟩
theorem okX10_row : zokV mX10_row 3 := ⟨⟨zini_SixWallsModel, zt7 (List.mem_of_getElem? (i := 39) rfl), zpn_SixWallsModel.1, zpn_SixWallsModel.2, zds_5, by decide⟩, zt7 (List.mem_of_getElem? (i := 37) rfl), zt7 (List.mem_of_getElem? (i := 38) rfl)⟩
theorem okX10_refusal : zokV mX10_refusal 2 := ⟨⟨zini_SixWallsModel, zt7 (List.mem_of_getElem? (i := 48) rfl), zpn_SixWallsModel.1, zpn_SixWallsModel.2, zds_8, by decide⟩, zt7 (List.mem_of_getElem? (i := 47) rfl), zt0 (List.mem_of_getElem? (i := 75) rfl)⟩
theorem okX10_asSort : zokS mX10_asSort 2 := ⟨⟨zini_SixWallsModel, zt7 (List.mem_of_getElem? (i := 51) rfl), zpn_SixWallsModel.1, zpn_SixWallsModel.2, zds_26, by decide⟩, zt7 (List.mem_of_getElem? (i := 50) rfl)⟩
theorem okX10_put : zokV mX10_put 3 := ⟨⟨zini_SixWallsModel, zt7 (List.mem_of_getElem? (i := 44) rfl), zpn_SixWallsModel.1, zpn_SixWallsModel.2, zds_30, by decide⟩, zt7 (List.mem_of_getElem? (i := 42) rfl), zt7 (List.mem_of_getElem? (i := 43) rfl)⟩
theorem okX10_element : zokV mX10_element 2 := ⟨⟨zini_SixWallsModel, zt7 (List.mem_of_getElem? (i := 55) rfl), zpn_SixWallsModel.1, zpn_SixWallsModel.2, zds_23, by decide⟩, zt7 (List.mem_of_getElem? (i := 53) rfl), zt7 (List.mem_of_getElem? (i := 54) rfl)⟩
theorem okX10_shift : zokV mX10_shift 5 := ⟨⟨zini_SixWallsModel, zt7 (List.mem_of_getElem? (i := 59) rfl), zpn_SixWallsModel.1, zpn_SixWallsModel.2, zds_17, by decide⟩, zt7 (List.mem_of_getElem? (i := 57) rfl), zt7 (List.mem_of_getElem? (i := 58) rfl)⟩
theorem okX10_taken : zokV mX10_taken 2 := ⟨⟨zini_SixWallsModel, zt7 (List.mem_of_getElem? (i := 63) rfl), zpn_SixWallsModel.1, zpn_SixWallsModel.2, zds_8, by decide⟩, zt7 (List.mem_of_getElem? (i := 61) rfl), zt7 (List.mem_of_getElem? (i := 62) rfl)⟩
theorem okX10_count : zokV mX10_count 1 := ⟨⟨zini_SixWallsModel, zt7 (List.mem_of_getElem? (i := 74) rfl), zpn_SixWallsModel.1, zpn_SixWallsModel.2, zds_3, by decide⟩, zt7 (List.mem_of_getElem? (i := 72) rfl), zt7 (List.mem_of_getElem? (i := 73) rfl)⟩
theorem okJ6_compare_7cf53 : zokS mJ6_compare_7cf53 2 := ⟨⟨zini_JInteger, zt3 (List.mem_of_getElem? (i := 148) rfl), zpn_JInteger.1, zpn_JInteger.2, zds_8, by decide⟩, zt3 (List.mem_of_getElem? (i := 147) rfl)⟩
theorem okJ6_bitCount_0f7a4 : zokS mJ6_bitCount_0f7a4 1 := ⟨⟨zini_JInteger, zt4 (List.mem_of_getElem? (i := 30) rfl), zpn_JInteger.1, zpn_JInteger.2, zds_3, by decide⟩, zt4 (List.mem_of_getElem? (i := 29) rfl)⟩
theorem okJ13_bitCount_95d88 : zokS mJ13_bitCount_95d88 1 := ⟨⟨zini_JLong, zt3 (List.mem_of_getElem? (i := 202) rfl), zpn_JLong.1, zpn_JLong.2, zds_34, by decide⟩, zt3 (List.mem_of_getElem? (i := 201) rfl)⟩
theorem cl_SixWallsLaw_7 : Cond.classLink "SixWallsLaw" 7 "SixWalls" ∈ lw_tbl := zt1 (List.mem_of_getElem? (i := 16) rfl)
theorem zins_SixWalls : Cond.instantiable "SixWalls" 9 ∈ lw_tbl := zt1 (List.mem_of_getElem? (i := 17) rfl)
theorem ml_SixWallsLaw_9 : Cond.methodLink "SixWallsLaw" 9 ⟨"SixWalls", "<init>", "()V"⟩ ∈ lw_tbl := zt1 (List.mem_of_getElem? (i := 18) rfl)
theorem ml_SixWalls_1 : Cond.methodLink "SixWalls" 1 ⟨"java/lang/Object", "<init>", "()V"⟩ ∈ lw_tbl := zt1 (List.mem_of_getElem? (i := 21) rfl)
theorem cl_SixWalls_7 : Cond.classLink "SixWalls" 7 "SixWalls$Comb" ∈ lw_tbl := zt1 (List.mem_of_getElem? (i := 24) rfl)
theorem zins_SixWalls_Comb : Cond.instantiable "SixWalls$Comb" 14 ∈ lw_tbl := zt1 (List.mem_of_getElem? (i := 25) rfl)
theorem ml_SixWalls_9 : Cond.methodLink "SixWalls" 9 ⟨"SixWalls$Comb", "<init>", "()V"⟩ ∈ lw_tbl := zt1 (List.mem_of_getElem? (i := 26) rfl)
theorem ml_SixWalls_Comb_3 : Cond.methodLink "SixWalls$Comb" 3 ⟨"java/lang/Object", "<init>", "()V"⟩ ∈ lw_tbl := zt1 (List.mem_of_getElem? (i := 29) rfl)
theorem ml_SixWalls_Comb_55 : Cond.methodLink "SixWalls$Comb" 55 ⟨"SixWalls$Comb", "layWalls", "()V"⟩ ∈ lw_tbl := zt1 (List.mem_of_getElem? (i := 30) rfl)
theorem ml_SixWalls_Comb_58 : Cond.methodLink "SixWalls$Comb" 58 ⟨"SixWalls$Comb", "beside", "(II)Z"⟩ ∈ lw_tbl := zt1 (List.mem_of_getElem? (i := 34) rfl)
theorem ml_SixWalls_Comb_66 : Cond.methodLink "SixWalls$Comb" 66 ⟨"java/lang/Math", "abs", "(I)I"⟩ ∈ lw_tbl := zt1 (List.mem_of_getElem? (i := 37) rfl)
theorem ml_SixWalls_Comb_62 : Cond.methodLink "SixWalls$Comb" 62 ⟨"SixWalls$Comb", "addSide", "(III)V"⟩ ∈ lw_tbl := zt1 (List.mem_of_getElem? (i := 40) rfl)
theorem fl_SixWalls_Comb_9 : Cond.fieldLink "SixWalls$Comb" 9 "SixWalls$Comb" "low" "[I" ∈ lw_tbl := zt1 (List.mem_of_getElem? (i := 44) rfl)
theorem fl_SixWalls_Masonry_25 : Cond.fieldLink "SixWalls$Masonry" 25 "SixWalls$Comb" "low" "[I" ∈ lw_tbl := zt1 (List.mem_of_getElem? (i := 45) rfl)
theorem fl_SixWalls_Winter_39 : Cond.fieldLink "SixWalls$Winter" 39 "SixWalls$Comb" "low" "[I" ∈ lw_tbl := zt1 (List.mem_of_getElem? (i := 46) rfl)
theorem fl_SixWalls_Ways_31 : Cond.fieldLink "SixWalls$Ways" 31 "SixWalls$Comb" "low" "[I" ∈ lw_tbl := zt1 (List.mem_of_getElem? (i := 47) rfl)
theorem fl_SixWalls_151 : Cond.fieldLink "SixWalls" 151 "SixWalls$Comb" "low" "[I" ∈ lw_tbl := zt1 (List.mem_of_getElem? (i := 48) rfl)
theorem fl_SixWalls_Comb_15 : Cond.fieldLink "SixWalls$Comb" 15 "SixWalls$Comb" "high" "[I" ∈ lw_tbl := zt1 (List.mem_of_getElem? (i := 49) rfl)
theorem fl_SixWalls_Masonry_30 : Cond.fieldLink "SixWalls$Masonry" 30 "SixWalls$Comb" "high" "[I" ∈ lw_tbl := zt1 (List.mem_of_getElem? (i := 50) rfl)
theorem fl_SixWalls_Winter_44 : Cond.fieldLink "SixWalls$Winter" 44 "SixWalls$Comb" "high" "[I" ∈ lw_tbl := zt1 (List.mem_of_getElem? (i := 51) rfl)
theorem fl_SixWalls_Ways_34 : Cond.fieldLink "SixWalls$Ways" 34 "SixWalls$Comb" "high" "[I" ∈ lw_tbl := zt1 (List.mem_of_getElem? (i := 52) rfl)
theorem fl_SixWalls_154 : Cond.fieldLink "SixWalls" 154 "SixWalls$Comb" "high" "[I" ∈ lw_tbl := zt1 (List.mem_of_getElem? (i := 53) rfl)
theorem fl_SixWalls_Comb_18 : Cond.fieldLink "SixWalls$Comb" 18 "SixWalls$Comb" "sides" "[I" ∈ lw_tbl := zt1 (List.mem_of_getElem? (i := 54) rfl)
theorem fl_SixWalls_Families_26 : Cond.fieldLink "SixWalls$Families" 26 "SixWalls$Comb" "sides" "[I" ∈ lw_tbl := zt1 (List.mem_of_getElem? (i := 55) rfl)
theorem fl_SixWalls_Winter_95 : Cond.fieldLink "SixWalls$Winter" 95 "SixWalls$Comb" "sides" "[I" ∈ lw_tbl := zt1 (List.mem_of_getElem? (i := 56) rfl)
theorem fl_SixWalls_Masonry_81 : Cond.fieldLink "SixWalls$Masonry" 81 "SixWalls$Comb" "sides" "[I" ∈ lw_tbl := zt1 (List.mem_of_getElem? (i := 57) rfl)
theorem fl_SixWalls_135 : Cond.fieldLink "SixWalls" 135 "SixWalls$Comb" "sides" "[I" ∈ lw_tbl := zt1 (List.mem_of_getElem? (i := 58) rfl)
theorem fl_SixWalls_Comb_21 : Cond.fieldLink "SixWalls$Comb" 21 "SixWalls$Comb" "wallAt" "[I" ∈ lw_tbl := zt1 (List.mem_of_getElem? (i := 59) rfl)
theorem fl_SixWalls_Families_70 : Cond.fieldLink "SixWalls$Families" 70 "SixWalls$Comb" "wallAt" "[I" ∈ lw_tbl := zt1 (List.mem_of_getElem? (i := 60) rfl)
theorem fl_SixWalls_Masonry_84 : Cond.fieldLink "SixWalls$Masonry" 84 "SixWalls$Comb" "wallAt" "[I" ∈ lw_tbl := zt1 (List.mem_of_getElem? (i := 61) rfl)
theorem fl_SixWalls_Comb_24 : Cond.fieldLink "SixWalls$Comb" 24 "SixWalls$Comb" "nextAt" "[I" ∈ lw_tbl := zt1 (List.mem_of_getElem? (i := 62) rfl)
theorem fl_SixWalls_Families_31 : Cond.fieldLink "SixWalls$Families" 31 "SixWalls$Comb" "nextAt" "[I" ∈ lw_tbl := zt1 (List.mem_of_getElem? (i := 63) rfl)
theorem fl_SixWalls_Comb_27 : Cond.fieldLink "SixWalls$Comb" 27 "SixWalls$Comb" "lived" "[I" ∈ lw_tbl := zt1 (List.mem_of_getElem? (i := 64) rfl)
theorem fl_SixWalls_Masonry_33 : Cond.fieldLink "SixWalls$Masonry" 33 "SixWalls$Comb" "lived" "[I" ∈ lw_tbl := zt1 (List.mem_of_getElem? (i := 65) rfl)
theorem fl_SixWalls_Families_34 : Cond.fieldLink "SixWalls$Families" 34 "SixWalls$Comb" "lived" "[I" ∈ lw_tbl := zt1 (List.mem_of_getElem? (i := 66) rfl)
theorem fl_SixWalls_Ways_54 : Cond.fieldLink "SixWalls$Ways" 54 "SixWalls$Comb" "lived" "[I" ∈ lw_tbl := zt1 (List.mem_of_getElem? (i := 67) rfl)
theorem fl_SixWalls_132 : Cond.fieldLink "SixWalls" 132 "SixWalls$Comb" "lived" "[I" ∈ lw_tbl := zt1 (List.mem_of_getElem? (i := 68) rfl)
theorem fl_SixWalls_Comb_30 : Cond.fieldLink "SixWalls$Comb" 30 "SixWalls$Comb" "fire" "[I" ∈ lw_tbl := zt1 (List.mem_of_getElem? (i := 69) rfl)
theorem fl_SixWalls_Winter_89 : Cond.fieldLink "SixWalls$Winter" 89 "SixWalls$Comb" "fire" "[I" ∈ lw_tbl := zt1 (List.mem_of_getElem? (i := 70) rfl)
theorem fl_SixWalls_Families_59 : Cond.fieldLink "SixWalls$Families" 59 "SixWalls$Comb" "fire" "[I" ∈ lw_tbl := zt1 (List.mem_of_getElem? (i := 71) rfl)
theorem fl_SixWalls_122 : Cond.fieldLink "SixWalls" 122 "SixWalls$Comb" "fire" "[I" ∈ lw_tbl := zt1 (List.mem_of_getElem? (i := 72) rfl)
theorem fl_SixWalls_Comb_33 : Cond.fieldLink "SixWalls$Comb" 33 "SixWalls$Comb" "warm" "[I" ∈ lw_tbl := zt1 (List.mem_of_getElem? (i := 73) rfl)
theorem fl_SixWalls_Winter_80 : Cond.fieldLink "SixWalls$Winter" 80 "SixWalls$Comb" "warm" "[I" ∈ lw_tbl := zt1 (List.mem_of_getElem? (i := 74) rfl)
theorem fl_SixWalls_Families_73 : Cond.fieldLink "SixWalls$Families" 73 "SixWalls$Comb" "warm" "[I" ∈ lw_tbl := zt1 (List.mem_of_getElem? (i := 75) rfl)
theorem fl_SixWalls_129 : Cond.fieldLink "SixWalls" 129 "SixWalls$Comb" "warm" "[I" ∈ lw_tbl := zt1 (List.mem_of_getElem? (i := 76) rfl)
theorem fl_SixWalls_Comb_36 : Cond.fieldLink "SixWalls$Comb" 36 "SixWalls$Comb" "want" "[I" ∈ lw_tbl := zt1 (List.mem_of_getElem? (i := 77) rfl)
theorem fl_SixWalls_Masonry_36 : Cond.fieldLink "SixWalls$Masonry" 36 "SixWalls$Comb" "want" "[I" ∈ lw_tbl := zt1 (List.mem_of_getElem? (i := 78) rfl)
theorem fl_SixWalls_Families_37 : Cond.fieldLink "SixWalls$Families" 37 "SixWalls$Comb" "want" "[I" ∈ lw_tbl := zt1 (List.mem_of_getElem? (i := 79) rfl)
theorem fl_SixWalls_126 : Cond.fieldLink "SixWalls" 126 "SixWalls$Comb" "want" "[I" ∈ lw_tbl := zt1 (List.mem_of_getElem? (i := 80) rfl)
theorem fl_SixWalls_Comb_39 : Cond.fieldLink "SixWalls$Comb" 39 "SixWalls$Comb" "thick" "[I" ∈ lw_tbl := zt1 (List.mem_of_getElem? (i := 81) rfl)
theorem fl_SixWalls_Winter_64 : Cond.fieldLink "SixWalls$Winter" 64 "SixWalls$Comb" "thick" "[I" ∈ lw_tbl := zt1 (List.mem_of_getElem? (i := 82) rfl)
theorem fl_SixWalls_Masonry_39 : Cond.fieldLink "SixWalls$Masonry" 39 "SixWalls$Comb" "thick" "[I" ∈ lw_tbl := zt1 (List.mem_of_getElem? (i := 83) rfl)
theorem fl_SixWalls_Ways_59 : Cond.fieldLink "SixWalls$Ways" 59 "SixWalls$Comb" "thick" "[I" ∈ lw_tbl := zt1 (List.mem_of_getElem? (i := 84) rfl)
theorem fl_SixWalls_138 : Cond.fieldLink "SixWalls" 138 "SixWalls$Comb" "thick" "[I" ∈ lw_tbl := zt1 (List.mem_of_getElem? (i := 85) rfl)
theorem fl_SixWalls_Comb_42 : Cond.fieldLink "SixWalls$Comb" 42 "SixWalls$Comb" "door" "[I" ∈ lw_tbl := zt1 (List.mem_of_getElem? (i := 86) rfl)
theorem fl_SixWalls_Ways_26 : Cond.fieldLink "SixWalls$Ways" 26 "SixWalls$Comb" "door" "[I" ∈ lw_tbl := zt1 (List.mem_of_getElem? (i := 87) rfl)
theorem fl_SixWalls_Winter_67 : Cond.fieldLink "SixWalls$Winter" 67 "SixWalls$Comb" "door" "[I" ∈ lw_tbl := zt1 (List.mem_of_getElem? (i := 88) rfl)
theorem fl_SixWalls_Families_44 : Cond.fieldLink "SixWalls$Families" 44 "SixWalls$Comb" "door" "[I" ∈ lw_tbl := zt1 (List.mem_of_getElem? (i := 89) rfl)
theorem fl_SixWalls_145 : Cond.fieldLink "SixWalls" 145 "SixWalls$Comb" "door" "[I" ∈ lw_tbl := zt1 (List.mem_of_getElem? (i := 90) rfl)
theorem fl_SixWalls_Comb_45 : Cond.fieldLink "SixWalls$Comb" 45 "SixWalls$Comb" "colour" "[I" ∈ lw_tbl := zt1 (List.mem_of_getElem? (i := 91) rfl)
theorem fl_SixWalls_Masonry_66 : Cond.fieldLink "SixWalls$Masonry" 66 "SixWalls$Comb" "colour" "[I" ∈ lw_tbl := zt1 (List.mem_of_getElem? (i := 92) rfl)
theorem fl_SixWalls_148 : Cond.fieldLink "SixWalls" 148 "SixWalls$Comb" "colour" "[I" ∈ lw_tbl := zt1 (List.mem_of_getElem? (i := 93) rfl)
theorem fl_SixWalls_Comb_48 : Cond.fieldLink "SixWalls$Comb" 48 "SixWalls$Comb" "frost" "I" ∈ lw_tbl := zt1 (List.mem_of_getElem? (i := 94) rfl)
theorem fl_SixWalls_Winter_92 : Cond.fieldLink "SixWalls$Winter" 92 "SixWalls$Comb" "frost" "I" ∈ lw_tbl := zt1 (List.mem_of_getElem? (i := 95) rfl)
theorem fl_SixWalls_115 : Cond.fieldLink "SixWalls" 115 "SixWalls$Comb" "frost" "I" ∈ lw_tbl := zt1 (List.mem_of_getElem? (i := 96) rfl)
theorem fl_SixWalls_Comb_52 : Cond.fieldLink "SixWalls$Comb" 52 "SixWalls$Comb" "bear" "I" ∈ lw_tbl := zt1 (List.mem_of_getElem? (i := 97) rfl)
theorem fl_SixWalls_Masonry_62 : Cond.fieldLink "SixWalls$Masonry" 62 "SixWalls$Comb" "bear" "I" ∈ lw_tbl := zt1 (List.mem_of_getElem? (i := 98) rfl)
theorem fl_SixWalls_119 : Cond.fieldLink "SixWalls" 119 "SixWalls$Comb" "bear" "I" ∈ lw_tbl := zt1 (List.mem_of_getElem? (i := 99) rfl)
theorem cl_SixWalls_16 : Cond.classLink "SixWalls" 16 "SixWalls$LawText" ∈ lw_tbl := zt1 (List.mem_of_getElem? (i := 130) rfl)
theorem zins_SixWalls_LawText : Cond.instantiable "SixWalls$LawText" 11 ∈ lw_tbl := zt1 (List.mem_of_getElem? (i := 131) rfl)
theorem mn_SixWalls_18 : Cond.methodLinkNest "SixWalls" 18 ⟨"SixWalls$LawText", "<init>", "()V"⟩ "SixWalls" ∈ lw_tbl := zt1 (List.mem_of_getElem? (i := 132) rfl)
theorem ml_SixWalls_LawText_1 : Cond.methodLink "SixWalls$LawText" 1 ⟨"java/lang/Object", "<init>", "()V"⟩ ∈ lw_tbl := zt1 (List.mem_of_getElem? (i := 135) rfl)
theorem fl_SixWalls_LawText_9 : Cond.fieldLink "SixWalls$LawText" 9 "SixWalls$LawText" "tape" "[I" ∈ lw_tbl := zt1 (List.mem_of_getElem? (i := 136) rfl)
theorem fl_SixWalls_LawText_13 : Cond.fieldLink "SixWalls$LawText" 13 "SixWalls$LawText" "fed" "I" ∈ lw_tbl := zt1 (List.mem_of_getElem? (i := 137) rfl)
theorem fl_SixWalls_LawText_17 : Cond.fieldLink "SixWalls$LawText" 17 "SixWalls$LawText" "at" "I" ∈ lw_tbl := zt1 (List.mem_of_getElem? (i := 138) rfl)
theorem fl_SixWalls_LawText_20 : Cond.fieldLink "SixWalls$LawText" 20 "SixWalls$LawText" "wrong" "Z" ∈ lw_tbl := zt1 (List.mem_of_getElem? (i := 139) rfl)
theorem fl_SixWalls_LawText_24 : Cond.fieldLink "SixWalls$LawText" 24 "SixWalls$LawText" "signs" "[I" ∈ lw_tbl := zt1 (List.mem_of_getElem? (i := 140) rfl)
theorem fl_SixWalls_LawText_27 : Cond.fieldLink "SixWalls$LawText" 27 "SixWalls$LawText" "numbers" "[I" ∈ lw_tbl := zt1 (List.mem_of_getElem? (i := 141) rfl)
theorem fl_SixWalls_LawText_30 : Cond.fieldLink "SixWalls$LawText" 30 "SixWalls$LawText" "size" "I" ∈ lw_tbl := zt1 (List.mem_of_getElem? (i := 142) rfl)
theorem fl_SixWalls_LawText_33 : Cond.fieldLink "SixWalls$LawText" 33 "SixWalls$LawText" "newSigns" "[I" ∈ lw_tbl := zt1 (List.mem_of_getElem? (i := 143) rfl)
theorem fl_SixWalls_LawText_36 : Cond.fieldLink "SixWalls$LawText" 36 "SixWalls$LawText" "newNumbers" "[I" ∈ lw_tbl := zt1 (List.mem_of_getElem? (i := 144) rfl)
theorem fl_SixWalls_LawText_39 : Cond.fieldLink "SixWalls$LawText" 39 "SixWalls$LawText" "newSize" "I" ∈ lw_tbl := zt1 (List.mem_of_getElem? (i := 145) rfl)
theorem fl_SixWalls_LawText_42 : Cond.fieldLink "SixWalls$LawText" 42 "SixWalls$LawText" "stack" "[I" ∈ lw_tbl := zt1 (List.mem_of_getElem? (i := 146) rfl)
theorem cl_SixWalls_23 : Cond.classLink "SixWalls" 23 "SixWalls$Winter" ∈ lw_tbl := zt1 (List.mem_of_getElem? (i := 170) rfl)
theorem zins_SixWalls_Winter : Cond.instantiable "SixWalls$Winter" 8 ∈ lw_tbl := zt1 (List.mem_of_getElem? (i := 171) rfl)
theorem ml_SixWalls_25 : Cond.methodLink "SixWalls" 25 ⟨"SixWalls$Winter", "<init>", "(LSixWalls$Comb;LSixWalls$LawText;)V"⟩ ∈ lw_tbl := zt1 (List.mem_of_getElem? (i := 172) rfl)
theorem ml_SixWalls_Winter_3 : Cond.methodLink "SixWalls$Winter" 3 ⟨"java/lang/Object", "<init>", "()V"⟩ ∈ lw_tbl := zt1 (List.mem_of_getElem? (i := 175) rfl)
theorem fl_SixWalls_Winter_31 : Cond.fieldLink "SixWalls$Winter" 31 "SixWalls$Winter" "comb" "LSixWalls$Comb;" ∈ lw_tbl := zt1 (List.mem_of_getElem? (i := 176) rfl)
theorem fl_SixWalls_Winter_35 : Cond.fieldLink "SixWalls$Winter" 35 "SixWalls$Winter" "text" "LSixWalls$LawText;" ∈ lw_tbl := zt1 (List.mem_of_getElem? (i := 177) rfl)
theorem fl_SixWalls_Winter_9 : Cond.fieldLink "SixWalls$Winter" 9 "SixWalls$Winter" "thought" "[I" ∈ lw_tbl := zt1 (List.mem_of_getElem? (i := 178) rfl)
theorem fl_SixWalls_201 : Cond.fieldLink "SixWalls" 201 "SixWalls$Winter" "thought" "[I" ∈ lw_tbl := zt1 (List.mem_of_getElem? (i := 179) rfl)
theorem fl_SixWalls_Winter_15 : Cond.fieldLink "SixWalls$Winter" 15 "SixWalls$Winter" "hearth" "[I" ∈ lw_tbl := zt1 (List.mem_of_getElem? (i := 180) rfl)
theorem fl_SixWalls_Winter_18 : Cond.fieldLink "SixWalls$Winter" 18 "SixWalls$Winter" "went" "[I" ∈ lw_tbl := zt1 (List.mem_of_getElem? (i := 181) rfl)
theorem fl_SixWalls_Winter_21 : Cond.fieldLink "SixWalls$Winter" 21 "SixWalls$Winter" "gain" "[I" ∈ lw_tbl := zt1 (List.mem_of_getElem? (i := 182) rfl)
theorem fl_SixWalls_Winter_24 : Cond.fieldLink "SixWalls$Winter" 24 "SixWalls$Winter" "latest" "[I" ∈ lw_tbl := zt1 (List.mem_of_getElem? (i := 183) rfl)
theorem fl_SixWalls_224 : Cond.fieldLink "SixWalls" 224 "SixWalls$Winter" "latest" "[I" ∈ lw_tbl := zt1 (List.mem_of_getElem? (i := 184) rfl)
theorem fl_SixWalls_Winter_27 : Cond.fieldLink "SixWalls$Winter" 27 "SixWalls$Winter" "passed" "I" ∈ lw_tbl := zt1 (List.mem_of_getElem? (i := 185) rfl)
theorem fl_SixWalls_221 : Cond.fieldLink "SixWalls" 221 "SixWalls$Winter" "passed" "I" ∈ lw_tbl := zt1 (List.mem_of_getElem? (i := 186) rfl)
theorem cl_SixWalls_32 : Cond.classLink "SixWalls" 32 "SixWalls$Masonry" ∈ lw_tbl := zt1 (List.mem_of_getElem? (i := 204) rfl)
theorem zins_SixWalls_Masonry : Cond.instantiable "SixWalls$Masonry" 4 ∈ lw_tbl := zt1 (List.mem_of_getElem? (i := 205) rfl)
theorem ml_SixWalls_34 : Cond.methodLink "SixWalls" 34 ⟨"SixWalls$Masonry", "<init>", "(LSixWalls$Comb;)V"⟩ ∈ lw_tbl := zt1 (List.mem_of_getElem? (i := 206) rfl)
theorem ml_SixWalls_Masonry_3 : Cond.methodLink "SixWalls$Masonry" 3 ⟨"java/lang/Object", "<init>", "()V"⟩ ∈ lw_tbl := zt1 (List.mem_of_getElem? (i := 209) rfl)
theorem fl_SixWalls_Masonry_21 : Cond.fieldLink "SixWalls$Masonry" 21 "SixWalls$Masonry" "comb" "LSixWalls$Comb;" ∈ lw_tbl := zt1 (List.mem_of_getElem? (i := 210) rfl)
theorem fl_SixWalls_Masonry_9 : Cond.fieldLink "SixWalls$Masonry" 9 "SixWalls$Masonry" "thick" "[I" ∈ lw_tbl := zt1 (List.mem_of_getElem? (i := 211) rfl)
theorem fl_SixWalls_Masonry_15 : Cond.fieldLink "SixWalls$Masonry" 15 "SixWalls$Masonry" "load" "[I" ∈ lw_tbl := zt1 (List.mem_of_getElem? (i := 212) rfl)
theorem fl_SixWalls_Masonry_18 : Cond.fieldLink "SixWalls$Masonry" 18 "SixWalls$Masonry" "paints" "[I" ∈ lw_tbl := zt1 (List.mem_of_getElem? (i := 213) rfl)
theorem cl_SixWalls_41 : Cond.classLink "SixWalls" 41 "SixWalls$Ways" ∈ lw_tbl := zt1 (List.mem_of_getElem? (i := 223) rfl)
theorem zins_SixWalls_Ways : Cond.instantiable "SixWalls$Ways" 3 ∈ lw_tbl := zt1 (List.mem_of_getElem? (i := 224) rfl)
theorem ml_SixWalls_43 : Cond.methodLink "SixWalls" 43 ⟨"SixWalls$Ways", "<init>", "(LSixWalls$Comb;)V"⟩ ∈ lw_tbl := zt1 (List.mem_of_getElem? (i := 225) rfl)
theorem ml_SixWalls_Ways_3 : Cond.methodLink "SixWalls$Ways" 3 ⟨"java/lang/Object", "<init>", "()V"⟩ ∈ lw_tbl := zt1 (List.mem_of_getElem? (i := 228) rfl)
theorem fl_SixWalls_Ways_18 : Cond.fieldLink "SixWalls$Ways" 18 "SixWalls$Ways" "comb" "LSixWalls$Comb;" ∈ lw_tbl := zt1 (List.mem_of_getElem? (i := 229) rfl)
theorem fl_SixWalls_Ways_9 : Cond.fieldLink "SixWalls$Ways" 9 "SixWalls$Ways" "company" "[I" ∈ lw_tbl := zt1 (List.mem_of_getElem? (i := 230) rfl)
theorem fl_SixWalls_Ways_15 : Cond.fieldLink "SixWalls$Ways" 15 "SixWalls$Ways" "loss" "[I" ∈ lw_tbl := zt1 (List.mem_of_getElem? (i := 231) rfl)
theorem cl_SixWalls_48 : Cond.classLink "SixWalls" 48 "SixWalls$Families" ∈ lw_tbl := zt1 (List.mem_of_getElem? (i := 239) rfl)
theorem zins_SixWalls_Families : Cond.instantiable "SixWalls$Families" 4 ∈ lw_tbl := zt2 (List.mem_of_getElem? (i := 0) rfl)
theorem ml_SixWalls_50 : Cond.methodLink "SixWalls" 50 ⟨"SixWalls$Families", "<init>", "(LSixWalls$Comb;)V"⟩ ∈ lw_tbl := zt2 (List.mem_of_getElem? (i := 1) rfl)
theorem ml_SixWalls_Families_3 : Cond.methodLink "SixWalls$Families" 3 ⟨"java/lang/Object", "<init>", "()V"⟩ ∈ lw_tbl := zt2 (List.mem_of_getElem? (i := 4) rfl)
theorem fl_SixWalls_Families_22 : Cond.fieldLink "SixWalls$Families" 22 "SixWalls$Families" "comb" "LSixWalls$Comb;" ∈ lw_tbl := zt2 (List.mem_of_getElem? (i := 5) rfl)
theorem fl_SixWalls_Families_9 : Cond.fieldLink "SixWalls$Families" 9 "SixWalls$Families" "imageWarm" "[I" ∈ lw_tbl := zt2 (List.mem_of_getElem? (i := 6) rfl)
theorem fl_SixWalls_Families_15 : Cond.fieldLink "SixWalls$Families" 15 "SixWalls$Families" "imageLived" "[I" ∈ lw_tbl := zt2 (List.mem_of_getElem? (i := 7) rfl)
theorem fl_SixWalls_Families_18 : Cond.fieldLink "SixWalls$Families" 18 "SixWalls$Families" "imaged" "Z" ∈ lw_tbl := zt2 (List.mem_of_getElem? (i := 8) rfl)
theorem cl_SixWalls_55 : Cond.classLink "SixWalls" 55 "SixWalls$History" ∈ lw_tbl := zt2 (List.mem_of_getElem? (i := 18) rfl)
theorem zins_SixWalls_History : Cond.instantiable "SixWalls$History" 7 ∈ lw_tbl := zt2 (List.mem_of_getElem? (i := 19) rfl)
theorem ml_SixWalls_57 : Cond.methodLink "SixWalls" 57 ⟨"SixWalls$History", "<init>", "(LSixWalls$Comb;)V"⟩ ∈ lw_tbl := zt2 (List.mem_of_getElem? (i := 20) rfl)
theorem ml_SixWalls_History_3 : Cond.methodLink "SixWalls$History" 3 ⟨"java/lang/Object", "<init>", "()V"⟩ ∈ lw_tbl := zt2 (List.mem_of_getElem? (i := 23) rfl)
theorem fl_SixWalls_History_31 : Cond.fieldLink "SixWalls$History" 31 "SixWalls$History" "comb" "LSixWalls$Comb;" ∈ lw_tbl := zt2 (List.mem_of_getElem? (i := 24) rfl)
theorem fl_SixWalls_History_11 : Cond.fieldLink "SixWalls$History" 11 "SixWalls$History" "number" "[I" ∈ lw_tbl := zt2 (List.mem_of_getElem? (i := 25) rfl)
theorem fl_SixWalls_History_15 : Cond.fieldLink "SixWalls$History" 15 "SixWalls$History" "what" "[I" ∈ lw_tbl := zt2 (List.mem_of_getElem? (i := 26) rfl)
theorem fl_SixWalls_History_18 : Cond.fieldLink "SixWalls$History" 18 "SixWalls$History" "before" "[I" ∈ lw_tbl := zt2 (List.mem_of_getElem? (i := 27) rfl)
theorem fl_SixWalls_History_21 : Cond.fieldLink "SixWalls$History" 21 "SixWalls$History" "after" "[I" ∈ lw_tbl := zt2 (List.mem_of_getElem? (i := 28) rfl)
theorem fl_SixWalls_History_24 : Cond.fieldLink "SixWalls$History" 24 "SixWalls$History" "standing" "I" ∈ lw_tbl := zt2 (List.mem_of_getElem? (i := 29) rfl)
theorem fl_SixWalls_History_28 : Cond.fieldLink "SixWalls$History" 28 "SixWalls$History" "kept" "I" ∈ lw_tbl := zt2 (List.mem_of_getElem? (i := 30) rfl)
theorem cl_SixWalls_62 : Cond.classLink "SixWalls" 62 "SixWalls$Cells" ∈ lw_tbl := zt2 (List.mem_of_getElem? (i := 46) rfl)
theorem zins_SixWalls_Cells : Cond.instantiable "SixWalls$Cells" 5 ∈ lw_tbl := zt2 (List.mem_of_getElem? (i := 47) rfl)
theorem mn_SixWalls_64 : Cond.methodLinkNest "SixWalls" 64 ⟨"SixWalls$Cells", "<init>", "()V"⟩ "SixWalls" ∈ lw_tbl := zt2 (List.mem_of_getElem? (i := 48) rfl)
theorem ml_SixWalls_Cells_3 : Cond.methodLink "SixWalls$Cells" 3 ⟨"java/lang/Object", "<init>", "()V"⟩ ∈ lw_tbl := zt2 (List.mem_of_getElem? (i := 51) rfl)
theorem fl_SixWalls_Cells_11 : Cond.fieldLink "SixWalls$Cells" 11 "SixWalls$Cells" "kinds" "[I" ∈ lw_tbl := zt2 (List.mem_of_getElem? (i := 52) rfl)
theorem fl_SixWalls_Cells_15 : Cond.fieldLink "SixWalls$Cells" 15 "SixWalls$Cells" "many" "I" ∈ lw_tbl := zt2 (List.mem_of_getElem? (i := 53) rfl)
theorem fl_SixWalls_Cells_19 : Cond.fieldLink "SixWalls$Cells" 19 "SixWalls$Cells" "traced" "[I" ∈ lw_tbl := zt2 (List.mem_of_getElem? (i := 54) rfl)
theorem fl_SixWalls_Cells_22 : Cond.fieldLink "SixWalls$Cells" 22 "SixWalls$Cells" "ran" "I" ∈ lw_tbl := zt2 (List.mem_of_getElem? (i := 55) rfl)
theorem fl_SixWalls_Cells_25 : Cond.fieldLink "SixWalls$Cells" 25 "SixWalls$Cells" "self" "I" ∈ lw_tbl := zt2 (List.mem_of_getElem? (i := 56) rfl)
theorem cl_SixWalls_69 : Cond.classLink "SixWalls" 69 "SixWalls$Shelves" ∈ lw_tbl := zt2 (List.mem_of_getElem? (i := 68) rfl)
theorem zins_SixWalls_Shelves : Cond.instantiable "SixWalls$Shelves" 4 ∈ lw_tbl := zt2 (List.mem_of_getElem? (i := 69) rfl)
theorem ml_SixWalls_71 : Cond.methodLink "SixWalls" 71 ⟨"SixWalls$Shelves", "<init>", "()V"⟩ ∈ lw_tbl := zt2 (List.mem_of_getElem? (i := 70) rfl)
theorem ml_SixWalls_Shelves_3 : Cond.methodLink "SixWalls$Shelves" 3 ⟨"java/lang/Object", "<init>", "()V"⟩ ∈ lw_tbl := zt2 (List.mem_of_getElem? (i := 73) rfl)
theorem cl_SixWalls_Shelves_21 : Cond.classLink "SixWalls$Shelves" 21 "[[J" ∈ lw_tbl := zt2 (List.mem_of_getElem? (i := 74) rfl)
theorem fl_SixWalls_Shelves_11 : Cond.fieldLink "SixWalls$Shelves" 11 "SixWalls$Shelves" "held" "[I" ∈ lw_tbl := zt2 (List.mem_of_getElem? (i := 76) rfl)
theorem fl_SixWalls_Shelves_15 : Cond.fieldLink "SixWalls$Shelves" 15 "SixWalls$Shelves" "cell" "[I" ∈ lw_tbl := zt2 (List.mem_of_getElem? (i := 77) rfl)
theorem fl_SixWalls_Shelves_18 : Cond.fieldLink "SixWalls$Shelves" 18 "SixWalls$Shelves" "size" "[I" ∈ lw_tbl := zt2 (List.mem_of_getElem? (i := 78) rfl)
theorem fl_SixWalls_Shelves_23 : Cond.fieldLink "SixWalls$Shelves" 23 "SixWalls$Shelves" "rows" "[[J" ∈ lw_tbl := zt2 (List.mem_of_getElem? (i := 79) rfl)
theorem fl_SixWalls_10 : Cond.fieldLink "SixWalls" 10 "SixWalls" "comb" "LSixWalls$Comb;" ∈ lw_tbl := zt2 (List.mem_of_getElem? (i := 90) rfl)
theorem fl_SixWalls_19 : Cond.fieldLink "SixWalls" 19 "SixWalls" "text" "LSixWalls$LawText;" ∈ lw_tbl := zt2 (List.mem_of_getElem? (i := 91) rfl)
theorem fl_SixWalls_28 : Cond.fieldLink "SixWalls" 28 "SixWalls" "winter" "LSixWalls$Winter;" ∈ lw_tbl := zt2 (List.mem_of_getElem? (i := 92) rfl)
theorem fl_SixWalls_37 : Cond.fieldLink "SixWalls" 37 "SixWalls" "masonry" "LSixWalls$Masonry;" ∈ lw_tbl := zt2 (List.mem_of_getElem? (i := 93) rfl)
theorem fl_SixWalls_44 : Cond.fieldLink "SixWalls" 44 "SixWalls" "ways" "LSixWalls$Ways;" ∈ lw_tbl := zt2 (List.mem_of_getElem? (i := 94) rfl)
theorem fl_SixWalls_51 : Cond.fieldLink "SixWalls" 51 "SixWalls" "families" "LSixWalls$Families;" ∈ lw_tbl := zt2 (List.mem_of_getElem? (i := 95) rfl)
theorem fl_SixWalls_58 : Cond.fieldLink "SixWalls" 58 "SixWalls" "history" "LSixWalls$History;" ∈ lw_tbl := zt2 (List.mem_of_getElem? (i := 96) rfl)
theorem fl_SixWalls_65 : Cond.fieldLink "SixWalls" 65 "SixWalls" "cells" "LSixWalls$Cells;" ∈ lw_tbl := zt2 (List.mem_of_getElem? (i := 97) rfl)
theorem fl_SixWalls_72 : Cond.fieldLink "SixWalls" 72 "SixWalls" "shelves" "LSixWalls$Shelves;" ∈ lw_tbl := zt2 (List.mem_of_getElem? (i := 98) rfl)
theorem ml_SixWallsLaw_13 : Cond.methodLink "SixWallsLaw" 13 ⟨"SixWalls", "wall", "(I)I"⟩ ∈ lw_tbl := zt2 (List.mem_of_getElem? (i := 118) rfl)
theorem ml_SixWalls_84 : Cond.methodLink "SixWalls" 84 ⟨"SixWalls", "isPair", "(I)Z"⟩ ∈ lw_tbl := zt2 (List.mem_of_getElem? (i := 122) rfl)
theorem ml_SixWalls_80 : Cond.methodLink "SixWalls" 80 ⟨"SixWalls", "isHouse", "(I)Z"⟩ ∈ lw_tbl := zt2 (List.mem_of_getElem? (i := 125) rfl)
theorem ml_SixWalls_76 : Cond.methodLink "SixWalls" 76 ⟨"SixWalls", "within", "(III)Z"⟩ ∈ lw_tbl := zt2 (List.mem_of_getElem? (i := 128) rfl)
theorem ml_SixWalls_87 : Cond.methodLink "SixWalls" 87 ⟨"SixWalls$Comb", "wallBetween", "(II)I"⟩ ∈ lw_tbl := zt2 (List.mem_of_getElem? (i := 131) rfl)
theorem ml_SixWallsLaw_18 : Cond.methodLink "SixWallsLaw" 18 ⟨"SixWalls", "mend", "(III)I"⟩ ∈ lw_tbl := zt2 (List.mem_of_getElem? (i := 135) rfl)
theorem ml_SixWalls_91 : Cond.methodLink "SixWalls" 91 ⟨"SixWalls$Comb", "fits", "(III)Z"⟩ ∈ lw_tbl := zt2 (List.mem_of_getElem? (i := 139) rfl)
theorem mn_SixWalls_Comb_72 : Cond.methodLinkNest "SixWalls$Comb" 72 ⟨"SixWalls", "isHouse", "(I)Z"⟩ "SixWalls" ∈ lw_tbl := zt2 (List.mem_of_getElem? (i := 143) rfl)
theorem mn_SixWalls_Comb_76 : Cond.methodLinkNest "SixWalls$Comb" 76 ⟨"SixWalls", "within", "(III)Z"⟩ "SixWalls" ∈ lw_tbl := zt2 (List.mem_of_getElem? (i := 144) rfl)
theorem mn_SixWalls_Comb_80 : Cond.methodLinkNest "SixWalls$Comb" 80 ⟨"SixWalls", "isWall", "(I)Z"⟩ "SixWalls" ∈ lw_tbl := zt2 (List.mem_of_getElem? (i := 145) rfl)
theorem ml_SixWalls_94 : Cond.methodLink "SixWalls" 94 ⟨"SixWalls$Comb", "told", "(II)I"⟩ ∈ lw_tbl := zt2 (List.mem_of_getElem? (i := 148) rfl)
theorem ml_SixWalls_97 : Cond.methodLink "SixWalls" 97 ⟨"SixWalls$Comb", "tell", "(III)V"⟩ ∈ lw_tbl := zt2 (List.mem_of_getElem? (i := 152) rfl)
theorem ml_SixWalls_101 : Cond.methodLink "SixWalls" 101 ⟨"SixWalls$History", "record", "(IIII)V"⟩ ∈ lw_tbl := zt2 (List.mem_of_getElem? (i := 156) rfl)
theorem ml_SixWalls_History_35 : Cond.methodLink "SixWalls$History" 35 ⟨"SixWalls$History", "dropOldest", "([I)V"⟩ ∈ lw_tbl := zt2 (List.mem_of_getElem? (i := 160) rfl)
theorem ml_SixWalls_History_39 : Cond.methodLink "SixWalls$History" 39 ⟨"java/lang/System", "arraycopy", "(Ljava/lang/Object;ILjava/lang/Object;II)V"⟩ ∈ lw_tbl := zt2 (List.mem_of_getElem? (i := 163) rfl)
theorem ml_SixWallsLaw_23 : Cond.methodLink "SixWallsLaw" 23 ⟨"SixWalls", "of", "(II)I"⟩ ∈ lw_tbl := zt2 (List.mem_of_getElem? (i := 166) rfl)
theorem ml_SixWalls_105 : Cond.methodLink "SixWalls" 105 ⟨"SixWalls", "ofHouse", "(II)I"⟩ ∈ lw_tbl := zt2 (List.mem_of_getElem? (i := 170) rfl)
theorem ml_SixWalls_141 : Cond.methodLink "SixWalls" 141 ⟨"SixWalls$Comb", "load", "(I[I)I"⟩ ∈ lw_tbl := zt2 (List.mem_of_getElem? (i := 174) rfl)
theorem kc_SixWalls_108 : Cond.constant "SixWalls" 108 (-2000000000) ∈ lw_tbl := zt2 (List.mem_of_getElem? (i := 178) rfl)
theorem ml_SixWalls_109 : Cond.methodLink "SixWalls" 109 ⟨"SixWalls", "isWall", "(I)Z"⟩ ∈ lw_tbl := zt2 (List.mem_of_getElem? (i := 179) rfl)
theorem ml_SixWalls_112 : Cond.methodLink "SixWalls" 112 ⟨"SixWalls", "ofWall", "(II)I"⟩ ∈ lw_tbl := zt2 (List.mem_of_getElem? (i := 180) rfl)
theorem ml_SixWalls_157 : Cond.methodLink "SixWalls" 157 ⟨"SixWalls$Masonry", "agreed", "(II)I"⟩ ∈ lw_tbl := zt2 (List.mem_of_getElem? (i := 184) rfl)
theorem ml_SixWalls_160 : Cond.methodLink "SixWalls" 160 ⟨"SixWalls$Winter", "flow", "(I[I)I"⟩ ∈ lw_tbl := zt2 (List.mem_of_getElem? (i := 188) rfl)
theorem ml_SixWalls_Winter_47 : Cond.methodLink "SixWalls$Winter" 47 ⟨"java/lang/Math", "abs", "(I)I"⟩ ∈ lw_tbl := zt2 (List.mem_of_getElem? (i := 192) rfl)
theorem ml_SixWalls_Winter_53 : Cond.methodLink "SixWalls$Winter" 53 ⟨"java/lang/Math", "max", "(II)I"⟩ ∈ lw_tbl := zt2 (List.mem_of_getElem? (i := 193) rfl)
theorem ml_SixWalls_Winter_57 : Cond.methodLink "SixWalls$Winter" 57 ⟨"java/lang/Math", "min", "(II)I"⟩ ∈ lw_tbl := zt2 (List.mem_of_getElem? (i := 196) rfl)
theorem ml_SixWalls_Winter_60 : Cond.methodLink "SixWalls$Winter" 60 ⟨"SixWalls$Winter", "lawful", "(IIII)I"⟩ ∈ lw_tbl := zt2 (List.mem_of_getElem? (i := 199) rfl)
theorem ml_SixWalls_Winter_70 : Cond.methodLink "SixWalls$Winter" 70 ⟨"SixWalls$LawText", "isTold", "()Z"⟩ ∈ lw_tbl := zt2 (List.mem_of_getElem? (i := 203) rfl)
theorem ml_SixWalls_Winter_76 : Cond.methodLink "SixWalls$Winter" 76 ⟨"SixWalls$LawText", "worth", "(IIIII)I"⟩ ∈ lw_tbl := zt2 (List.mem_of_getElem? (i := 207) rfl)
theorem ml_SixWalls_LawText_92 : Cond.methodLink "SixWalls$LawText" 92 ⟨"java/lang/Math", "max", "(II)I"⟩ ∈ lw_tbl := zt2 (List.mem_of_getElem? (i := 211) rfl)
theorem ml_SixWalls_LawText_95 : Cond.methodLink "SixWalls$LawText" 95 ⟨"SixWalls$LawText", "truth", "(Z)I"⟩ ∈ lw_tbl := zt2 (List.mem_of_getElem? (i := 212) rfl)
theorem ml_SixWalls_LawText_72 : Cond.methodLink "SixWalls$LawText" 72 ⟨"SixWalls$LawText", "levelOf", "(I)I"⟩ ∈ lw_tbl := zt2 (List.mem_of_getElem? (i := 215) rfl)
theorem ml_SixWalls_LawText_99 : Cond.methodLink "SixWalls$LawText" 99 ⟨"SixWalls$LawText", "joined", "(III)I"⟩ ∈ lw_tbl := zt2 (List.mem_of_getElem? (i := 218) rfl)
theorem ml_SixWalls_LawText_103 : Cond.methodLink "SixWalls$LawText" 103 ⟨"SixWalls$LawText", "named", "(IIIIII)I"⟩ ∈ lw_tbl := zt2 (List.mem_of_getElem? (i := 221) rfl)
theorem ml_SixWallsLaw_28 : Cond.methodLink "SixWallsLaw" 28 ⟨"SixWalls", "fires", "(III)I"⟩ ∈ lw_tbl := zt2 (List.mem_of_getElem? (i := 224) rfl)
theorem ml_SixWalls_163 : Cond.methodLink "SixWalls" 163 ⟨"SixWalls$Shelves", "isShelf", "(I)Z"⟩ ∈ lw_tbl := zt2 (List.mem_of_getElem? (i := 228) rfl)
theorem ml_SixWalls_166 : Cond.methodLink "SixWalls" 166 ⟨"SixWalls$Shelves", "mayBeBytes", "(I)Z"⟩ ∈ lw_tbl := zt2 (List.mem_of_getElem? (i := 232) rfl)
theorem ml_SixWalls_169 : Cond.methodLink "SixWalls" 169 ⟨"java/lang/Math", "min", "(II)I"⟩ ∈ lw_tbl := zt2 (List.mem_of_getElem? (i := 236) rfl)
theorem ml_SixWalls_174 : Cond.methodLink "SixWalls" 174 ⟨"SixWalls$Shelves", "hasPlace", "(II)Z"⟩ ∈ lw_tbl := zt2 (List.mem_of_getElem? (i := 237) rfl)
theorem ml_SixWalls_178 : Cond.methodLink "SixWalls" 178 ⟨"SixWalls$Shelves", "at", "(II)J"⟩ ∈ lw_tbl := zt3 (List.mem_of_getElem? (i := 1) rfl)
theorem kl_SixWalls_182 : Cond.constantLong "SixWalls" 182 (9) ∈ lw_tbl := zt3 (List.mem_of_getElem? (i := 5) rfl)
theorem ml_SixWallsLaw_32 : Cond.methodLink "SixWallsLaw" 32 ⟨"SixWalls", "feed", "(I)I"⟩ ∈ lw_tbl := zt3 (List.mem_of_getElem? (i := 6) rfl)
theorem ml_SixWalls_184 : Cond.methodLink "SixWalls" 184 ⟨"SixWalls$LawText", "take", "(I)Z"⟩ ∈ lw_tbl := zt3 (List.mem_of_getElem? (i := 10) rfl)
theorem ml_SixWalls_187 : Cond.methodLink "SixWalls" 187 ⟨"SixWalls$LawText", "fed", "()I"⟩ ∈ lw_tbl := zt3 (List.mem_of_getElem? (i := 14) rfl)
theorem ml_SixWallsLaw_36 : Cond.methodLink "SixWallsLaw" 36 ⟨"SixWalls", "law", "()I"⟩ ∈ lw_tbl := zt3 (List.mem_of_getElem? (i := 18) rfl)
theorem ml_SixWalls_191 : Cond.methodLink "SixWalls" 191 ⟨"SixWalls$LawText", "read", "()I"⟩ ∈ lw_tbl := zt3 (List.mem_of_getElem? (i := 22) rfl)
theorem ml_SixWalls_LawText_45 : Cond.methodLink "SixWalls$LawText" 45 ⟨"SixWalls$LawText", "readLines", "()V"⟩ ∈ lw_tbl := zt3 (List.mem_of_getElem? (i := 26) rfl)
theorem ml_SixWalls_LawText_54 : Cond.methodLink "SixWalls$LawText" 54 ⟨"SixWalls$LawText", "readLine", "()V"⟩ ∈ lw_tbl := zt3 (List.mem_of_getElem? (i := 30) rfl)
theorem ml_SixWalls_LawText_61 : Cond.methodLink "SixWalls$LawText" 61 ⟨"SixWalls$LawText", "readLevel", "(II)V"⟩ ∈ lw_tbl := zt3 (List.mem_of_getElem? (i := 34) rfl)
theorem ml_SixWalls_LawText_68 : Cond.methodLink "SixWalls$LawText" 68 ⟨"SixWalls$LawText", "readOperand", "(I)V"⟩ ∈ lw_tbl := zt3 (List.mem_of_getElem? (i := 38) rfl)
theorem ml_SixWalls_LawText_57 : Cond.methodLink "SixWalls$LawText" 57 ⟨"SixWalls$LawText", "peek", "()I"⟩ ∈ lw_tbl := zt3 (List.mem_of_getElem? (i := 42) rfl)
theorem ml_SixWalls_LawText_76 : Cond.methodLink "SixWalls$LawText" 76 ⟨"SixWalls$LawText", "isDigit", "(I)Z"⟩ ∈ lw_tbl := zt3 (List.mem_of_getElem? (i := 46) rfl)
theorem mn_SixWalls_LawText_86 : Cond.methodLinkNest "SixWalls$LawText" 86 ⟨"SixWalls", "within", "(III)Z"⟩ "SixWalls" ∈ lw_tbl := zt3 (List.mem_of_getElem? (i := 49) rfl)
theorem ml_SixWalls_LawText_80 : Cond.methodLink "SixWalls$LawText" 80 ⟨"SixWalls$LawText", "readNumber", "()V"⟩ ∈ lw_tbl := zt3 (List.mem_of_getElem? (i := 50) rfl)
theorem ml_SixWalls_LawText_65 : Cond.methodLink "SixWalls$LawText" 65 ⟨"SixWalls$LawText", "emit", "(II)I"⟩ ∈ lw_tbl := zt3 (List.mem_of_getElem? (i := 54) rfl)
theorem ml_SixWalls_LawText_48 : Cond.methodLink "SixWalls$LawText" 48 ⟨"java/lang/Math", "min", "(II)I"⟩ ∈ lw_tbl := zt3 (List.mem_of_getElem? (i := 58) rfl)
theorem ml_SixWalls_LawText_83 : Cond.methodLink "SixWalls$LawText" 83 ⟨"SixWalls$LawText", "isName", "(I)Z"⟩ ∈ lw_tbl := zt3 (List.mem_of_getElem? (i := 59) rfl)
theorem ml_SixWallsLaw_41 : Cond.methodLink "SixWallsLaw" 41 ⟨"SixWalls", "warmth", "(II)I"⟩ ∈ lw_tbl := zt3 (List.mem_of_getElem? (i := 62) rfl)
theorem ml_SixWalls_194 : Cond.methodLink "SixWalls" 194 ⟨"SixWalls", "isThought", "(I)Z"⟩ ∈ lw_tbl := zt3 (List.mem_of_getElem? (i := 66) rfl)
theorem ml_SixWalls_197 : Cond.methodLink "SixWalls" 197 ⟨"SixWalls$Winter", "think", "(I)V"⟩ ∈ lw_tbl := zt3 (List.mem_of_getElem? (i := 69) rfl)
theorem ml_SixWalls_Winter_105 : Cond.methodLink "SixWalls$Winter" 105 ⟨"SixWalls$Winter", "begin", "()V"⟩ ∈ lw_tbl := zt3 (List.mem_of_getElem? (i := 73) rfl)
theorem ml_SixWalls_Winter_83 : Cond.methodLink "SixWalls$Winter" 83 ⟨"java/lang/System", "arraycopy", "(Ljava/lang/Object;ILjava/lang/Object;II)V"⟩ ∈ lw_tbl := zt3 (List.mem_of_getElem? (i := 77) rfl)
theorem ml_SixWalls_Winter_108 : Cond.methodLink "SixWalls$Winter" 108 ⟨"SixWalls$Winter", "passAll", "(I)V"⟩ ∈ lw_tbl := zt3 (List.mem_of_getElem? (i := 78) rfl)
theorem ml_SixWalls_Winter_102 : Cond.methodLink "SixWalls$Winter" 102 ⟨"SixWalls$Winter", "pass", "()Z"⟩ ∈ lw_tbl := zt3 (List.mem_of_getElem? (i := 82) rfl)
theorem ml_SixWalls_Winter_98 : Cond.methodLink "SixWalls$Winter" 98 ⟨"SixWalls$Winter", "flow", "(I[I)I"⟩ ∈ lw_tbl := zt3 (List.mem_of_getElem? (i := 86) rfl)
theorem ml_SixWalls_204 : Cond.methodLink "SixWalls" 204 ⟨"SixWalls", "sum", "([I)I"⟩ ∈ lw_tbl := zt3 (List.mem_of_getElem? (i := 87) rfl)
theorem ml_SixWallsLaw_45 : Cond.methodLink "SixWallsLaw" 45 ⟨"SixWalls", "cold", "(II)I"⟩ ∈ lw_tbl := zt3 (List.mem_of_getElem? (i := 90) rfl)
theorem ml_SixWallsLaw_49 : Cond.methodLink "SixWallsLaw" 49 ⟨"SixWalls", "still", "()I"⟩ ∈ lw_tbl := zt3 (List.mem_of_getElem? (i := 94) rfl)
theorem ml_SixWalls_208 : Cond.methodLink "SixWalls" 208 ⟨"SixWalls$Winter", "daysTillStill", "()I"⟩ ∈ lw_tbl := zt3 (List.mem_of_getElem? (i := 98) rfl)
theorem ml_SixWallsLaw_53 : Cond.methodLink "SixWallsLaw" 53 ⟨"SixWalls", "gave", "(II)I"⟩ ∈ lw_tbl := zt3 (List.mem_of_getElem? (i := 102) rfl)
theorem ml_SixWalls_211 : Cond.methodLink "SixWalls" 211 ⟨"SixWalls$Winter", "goneThrough", "(II)I"⟩ ∈ lw_tbl := zt3 (List.mem_of_getElem? (i := 106) rfl)
theorem ml_SixWallsLaw_57 : Cond.methodLink "SixWallsLaw" 57 ⟨"SixWalls", "leastFire", "(II)I"⟩ ∈ lw_tbl := zt3 (List.mem_of_getElem? (i := 110) rfl)
theorem ml_SixWalls_214 : Cond.methodLink "SixWalls" 214 ⟨"SixWalls$Winter", "fireFor", "(III)I"⟩ ∈ lw_tbl := zt3 (List.mem_of_getElem? (i := 114) rfl)
theorem ml_SixWallsLaw_61 : Cond.methodLink "SixWallsLaw" 61 ⟨"SixWalls", "days", "(I)I"⟩ ∈ lw_tbl := zt3 (List.mem_of_getElem? (i := 118) rfl)
theorem ml_SixWalls_218 : Cond.methodLink "SixWalls" 218 ⟨"SixWalls$Winter", "live", "(I)V"⟩ ∈ lw_tbl := zt3 (List.mem_of_getElem? (i := 122) rfl)
theorem ml_SixWalls_Winter_112 : Cond.methodLink "SixWalls$Winter" 112 ⟨"SixWalls$Winter", "think", "(I)V"⟩ ∈ lw_tbl := zt3 (List.mem_of_getElem? (i := 126) rfl)
theorem ml_SixWallsLaw_65 : Cond.methodLink "SixWallsLaw" 65 ⟨"SixWalls", "led", "(I)I"⟩ ∈ lw_tbl := zt3 (List.mem_of_getElem? (i := 127) rfl)
theorem ml_SixWallsLaw_69 : Cond.methodLink "SixWallsLaw" 69 ⟨"SixWalls", "rounds", "(I)I"⟩ ∈ lw_tbl := zt3 (List.mem_of_getElem? (i := 131) rfl)
theorem ml_SixWalls_227 : Cond.methodLink "SixWalls" 227 ⟨"SixWalls$Masonry", "settle", "()I"⟩ ∈ lw_tbl := zt3 (List.mem_of_getElem? (i := 135) rfl)
theorem ml_SixWalls_Masonry_40 : Cond.methodLink "SixWalls$Masonry" 40 ⟨"java/lang/System", "arraycopy", "(Ljava/lang/Object;ILjava/lang/Object;II)V"⟩ ∈ lw_tbl := zt3 (List.mem_of_getElem? (i := 139) rfl)
theorem ml_SixWalls_Masonry_46 : Cond.methodLink "SixWalls$Masonry" 46 ⟨"SixWalls$Comb", "load", "(I[I)I"⟩ ∈ lw_tbl := zt3 (List.mem_of_getElem? (i := 140) rfl)
theorem ml_SixWalls_Masonry_49 : Cond.methodLink "SixWalls$Masonry" 49 ⟨"SixWalls$Masonry", "goRound", "()Z"⟩ ∈ lw_tbl := zt3 (List.mem_of_getElem? (i := 141) rfl)
theorem ml_SixWalls_Masonry_53 : Cond.methodLink "SixWalls$Masonry" 53 ⟨"SixWalls$Masonry", "agreed", "(II)I"⟩ ∈ lw_tbl := zt3 (List.mem_of_getElem? (i := 145) rfl)
theorem ml_SixWalls_Masonry_57 : Cond.methodLink "SixWalls$Masonry" 57 ⟨"java/lang/Integer", "compare", "(II)I"⟩ ∈ lw_tbl := zt3 (List.mem_of_getElem? (i := 146) rfl)
theorem ml_SixWalls_230 : Cond.methodLink "SixWalls" 230 ⟨"SixWalls$Masonry", "thickThen", "(I)I"⟩ ∈ lw_tbl := zt3 (List.mem_of_getElem? (i := 149) rfl)
theorem ml_SixWallsLaw_73 : Cond.methodLink "SixWallsLaw" 73 ⟨"SixWalls", "way", "(I)I"⟩ ∈ lw_tbl := zt3 (List.mem_of_getElem? (i := 153) rfl)
theorem ml_SixWalls_234 : Cond.methodLink "SixWalls" 234 ⟨"SixWalls$Ways", "steps", "(II)I"⟩ ∈ lw_tbl := zt3 (List.mem_of_getElem? (i := 157) rfl)
theorem ml_SixWalls_Ways_22 : Cond.methodLink "SixWalls$Ways" 22 ⟨"SixWalls$Ways", "besides", "(I)I"⟩ ∈ lw_tbl := zt3 (List.mem_of_getElem? (i := 161) rfl)
theorem ml_SixWallsLaw_77 : Cond.methodLink "SixWallsLaw" 77 ⟨"SixWalls", "doors", "(I)I"⟩ ∈ lw_tbl := zt3 (List.mem_of_getElem? (i := 165) rfl)
theorem ml_SixWalls_237 : Cond.methodLink "SixWalls" 237 ⟨"SixWalls$Ways", "shutIn", "()I"⟩ ∈ lw_tbl := zt3 (List.mem_of_getElem? (i := 169) rfl)
theorem ml_SixWalls_Ways_51 : Cond.methodLink "SixWalls$Ways" 51 ⟨"SixWalls$Ways", "gather", "()V"⟩ ∈ lw_tbl := zt3 (List.mem_of_getElem? (i := 173) rfl)
theorem ml_SixWalls_Ways_37 : Cond.methodLink "SixWalls$Ways" 37 ⟨"SixWalls$Comb", "atEdge", "(I)Z"⟩ ∈ lw_tbl := zt3 (List.mem_of_getElem? (i := 177) rfl)
theorem ml_SixWalls_Ways_41 : Cond.methodLink "SixWalls$Ways" 41 ⟨"SixWalls$Ways", "join", "(II)V"⟩ ∈ lw_tbl := zt3 (List.mem_of_getElem? (i := 181) rfl)
theorem ml_SixWalls_Ways_45 : Cond.methodLink "SixWalls$Ways" 45 ⟨"java/lang/Math", "max", "(II)I"⟩ ∈ lw_tbl := zt3 (List.mem_of_getElem? (i := 185) rfl)
theorem ml_SixWalls_240 : Cond.methodLink "SixWalls" 240 ⟨"SixWalls$Ways", "friends", "()I"⟩ ∈ lw_tbl := zt3 (List.mem_of_getElem? (i := 186) rfl)
theorem ml_SixWallsLaw_81 : Cond.methodLink "SixWallsLaw" 81 ⟨"SixWalls", "opened", "(I)J"⟩ ∈ lw_tbl := zt3 (List.mem_of_getElem? (i := 190) rfl)
theorem kl_SixWalls_245 : Cond.constantLong "SixWalls" 245 (-9223372036854775808) ∈ lw_tbl := zt3 (List.mem_of_getElem? (i := 194) rfl)
theorem ml_SixWalls_247 : Cond.methodLink "SixWalls" 247 ⟨"SixWalls$Ways", "fewestMore", "()J"⟩ ∈ lw_tbl := zt3 (List.mem_of_getElem? (i := 195) rfl)
theorem kc_SixWalls_Ways_57 : Cond.constant "SixWalls$Ways" 57 (65536) ∈ lw_tbl := zt3 (List.mem_of_getElem? (i := 199) rfl)
theorem ml_SixWalls_251 : Cond.methodLink "SixWalls" 251 ⟨"java/lang/Long", "bitCount", "(J)I"⟩ ∈ lw_tbl := zt3 (List.mem_of_getElem? (i := 200) rfl)
theorem kl_JLong_314 : Cond.constantLong "java/lang/Long" 314 (6148914691236517205) ∈ lw_tbl := zt3 (List.mem_of_getElem? (i := 203) rfl)
theorem kl_JLong_316 : Cond.constantLong "java/lang/Long" 316 (3689348814741910323) ∈ lw_tbl := zt3 (List.mem_of_getElem? (i := 204) rfl)
theorem kl_JLong_318 : Cond.constantLong "java/lang/Long" 318 (1085102592571150095) ∈ lw_tbl := zt3 (List.mem_of_getElem? (i := 205) rfl)
theorem ml_SixWallsLaw_86 : Cond.methodLink "SixWallsLaw" 86 ⟨"SixWalls", "heard", "(II)I"⟩ ∈ lw_tbl := zt3 (List.mem_of_getElem? (i := 206) rfl)
theorem ml_SixWalls_255 : Cond.methodLink "SixWalls" 255 ⟨"SixWalls$Ways", "loudness", "(III)I"⟩ ∈ lw_tbl := zt3 (List.mem_of_getElem? (i := 210) rfl)
theorem ml_SixWalls_Ways_66 : Cond.methodLink "SixWalls$Ways" 66 ⟨"SixWalls$Ways", "listen", "(I)V"⟩ ∈ lw_tbl := zt3 (List.mem_of_getElem? (i := 214) rfl)
theorem kc_SixWalls_Ways_58 : Cond.constant "SixWalls$Ways" 58 (1000000) ∈ lw_tbl := zt3 (List.mem_of_getElem? (i := 218) rfl)
theorem ml_SixWalls_Ways_62 : Cond.methodLink "SixWalls$Ways" 62 ⟨"SixWalls$Ways", "pass", "(III)Z"⟩ ∈ lw_tbl := zt3 (List.mem_of_getElem? (i := 219) rfl)
theorem ml_SixWallsLaw_90 : Cond.methodLink "SixWallsLaw" 90 ⟨"SixWalls", "whose", "(II)I"⟩ ∈ lw_tbl := zt3 (List.mem_of_getElem? (i := 223) rfl)
theorem kc_SixWalls_258 : Cond.constant "SixWalls" 258 (65535) ∈ lw_tbl := zt3 (List.mem_of_getElem? (i := 227) rfl)
theorem ml_SixWalls_259 : Cond.methodLink "SixWalls" 259 ⟨"SixWalls$Ways", "sources", "(II)I"⟩ ∈ lw_tbl := zt3 (List.mem_of_getElem? (i := 228) rfl)
theorem ml_SixWalls_Ways_70 : Cond.methodLink "SixWalls$Ways" 70 ⟨"SixWalls$Ways", "hearers", "(II)I"⟩ ∈ lw_tbl := zt3 (List.mem_of_getElem? (i := 232) rfl)
theorem ml_SixWallsLaw_94 : Cond.methodLink "SixWallsLaw" 94 ⟨"SixWalls", "colours", "(I)I"⟩ ∈ lw_tbl := zt3 (List.mem_of_getElem? (i := 236) rfl)
theorem ml_SixWalls_262 : Cond.methodLink "SixWalls" 262 ⟨"SixWalls$Masonry", "clashes", "()I"⟩ ∈ lw_tbl := zt4 (List.mem_of_getElem? (i := 0) rfl)
theorem ml_SixWalls_Masonry_69 : Cond.methodLink "SixWalls$Masonry" 69 ⟨"SixWalls$Masonry", "clashesOf", "([I)I"⟩ ∈ lw_tbl := zt4 (List.mem_of_getElem? (i := 4) rfl)
theorem ml_SixWalls_Masonry_73 : Cond.methodLink "SixWalls$Masonry" 73 ⟨"SixWalls$Masonry", "alike", "(II[I)I"⟩ ∈ lw_tbl := zt4 (List.mem_of_getElem? (i := 8) rfl)
theorem ml_SixWalls_Masonry_77 : Cond.methodLink "SixWalls$Masonry" 77 ⟨"SixWalls$Masonry", "alikeIn", "(III[I)I"⟩ ∈ lw_tbl := zt4 (List.mem_of_getElem? (i := 12) rfl)
theorem ml_SixWalls_265 : Cond.methodLink "SixWalls" 265 ⟨"SixWalls$Masonry", "calmed", "()I"⟩ ∈ lw_tbl := zt4 (List.mem_of_getElem? (i := 16) rfl)
theorem ml_SixWalls_Masonry_87 : Cond.methodLink "SixWalls$Masonry" 87 ⟨"SixWalls$Masonry", "calmest", "(I[I)I"⟩ ∈ lw_tbl := zt4 (List.mem_of_getElem? (i := 20) rfl)
theorem ml_SixWalls_268 : Cond.methodLink "SixWalls" 268 ⟨"SixWalls$Masonry", "pots", "()I"⟩ ∈ lw_tbl := zt4 (List.mem_of_getElem? (i := 24) rfl)
theorem ml_SixWalls_Masonry_90 : Cond.methodLink "SixWalls$Masonry" 90 ⟨"java/lang/Integer", "bitCount", "(I)I"⟩ ∈ lw_tbl := zt4 (List.mem_of_getElem? (i := 28) rfl)
theorem kc_JInteger_265 : Cond.constant "java/lang/Integer" 265 (1431655765) ∈ lw_tbl := zt4 (List.mem_of_getElem? (i := 31) rfl)
theorem kc_JInteger_266 : Cond.constant "java/lang/Integer" 266 (858993459) ∈ lw_tbl := zt4 (List.mem_of_getElem? (i := 32) rfl)
theorem kc_JInteger_267 : Cond.constant "java/lang/Integer" 267 (252645135) ∈ lw_tbl := zt4 (List.mem_of_getElem? (i := 33) rfl)
theorem ml_SixWallsLaw_98 : Cond.methodLink "SixWallsLaw" 98 ⟨"SixWalls", "paint", "(I)I"⟩ ∈ lw_tbl := zt4 (List.mem_of_getElem? (i := 34) rfl)
theorem ml_SixWalls_271 : Cond.methodLink "SixWalls" 271 ⟨"SixWalls$Masonry", "calmest", "(I[I)I"⟩ ∈ lw_tbl := zt4 (List.mem_of_getElem? (i := 38) rfl)
theorem ml_SixWallsLaw_102 : Cond.methodLink "SixWallsLaw" 102 ⟨"SixWalls", "empty", "(I)I"⟩ ∈ lw_tbl := zt4 (List.mem_of_getElem? (i := 39) rfl)
theorem ml_SixWallsLaw_106 : Cond.methodLink "SixWallsLaw" 106 ⟨"SixWalls", "takes", "(II)I"⟩ ∈ lw_tbl := zt4 (List.mem_of_getElem? (i := 43) rfl)
theorem ml_SixWalls_274 : Cond.methodLink "SixWalls" 274 ⟨"SixWalls$Families", "taker", "(I)I"⟩ ∈ lw_tbl := zt4 (List.mem_of_getElem? (i := 47) rfl)
theorem ml_SixWalls_277 : Cond.methodLink "SixWalls" 277 ⟨"SixWalls$Families", "takeIn", "(II)V"⟩ ∈ lw_tbl := zt4 (List.mem_of_getElem? (i := 51) rfl)
theorem ml_SixWalls_Families_40 : Cond.methodLink "SixWalls$Families" 40 ⟨"SixWalls$Comb", "wallBetween", "(II)I"⟩ ∈ lw_tbl := zt4 (List.mem_of_getElem? (i := 55) rfl)
theorem ml_SixWallsLaw_110 : Cond.methodLink "SixWallsLaw" 110 ⟨"SixWalls", "where", "(I)I"⟩ ∈ lw_tbl := zt4 (List.mem_of_getElem? (i := 56) rfl)
theorem ml_SixWallsLaw_114 : Cond.methodLink "SixWallsLaw" 114 ⟨"SixWalls", "years", "(II)I"⟩ ∈ lw_tbl := zt4 (List.mem_of_getElem? (i := 60) rfl)
theorem ml_SixWalls_281 : Cond.methodLink "SixWalls" 281 ⟨"SixWalls$Families", "grow", "(II)V"⟩ ∈ lw_tbl := zt4 (List.mem_of_getElem? (i := 64) rfl)
theorem kc_SixWalls_Families_47 : Cond.constant "SixWalls$Families" 47 (1103515245) ∈ lw_tbl := zt4 (List.mem_of_getElem? (i := 68) rfl)
theorem ml_SixWalls_Families_48 : Cond.methodLink "SixWalls$Families" 48 ⟨"SixWalls$Families", "befall", "(II)V"⟩ ∈ lw_tbl := zt4 (List.mem_of_getElem? (i := 69) rfl)
theorem ml_SixWalls_Families_52 : Cond.methodLink "SixWalls$Families" 52 ⟨"SixWalls$Families", "bear", "(I)V"⟩ ∈ lw_tbl := zt4 (List.mem_of_getElem? (i := 73) rfl)
theorem ml_SixWalls_Families_56 : Cond.methodLink "SixWalls$Families" 56 ⟨"SixWalls$Families", "feud", "(I)V"⟩ ∈ lw_tbl := zt4 (List.mem_of_getElem? (i := 77) rfl)
theorem ml_SixWalls_Families_62 : Cond.methodLink "SixWalls$Families" 62 ⟨"java/lang/Math", "min", "(II)I"⟩ ∈ lw_tbl := zt4 (List.mem_of_getElem? (i := 81) rfl)
theorem ml_SixWalls_Families_67 : Cond.methodLink "SixWalls$Families" 67 ⟨"java/lang/Math", "max", "(II)I"⟩ ∈ lw_tbl := zt4 (List.mem_of_getElem? (i := 82) rfl)
theorem ml_SixWallsLaw_118 : Cond.methodLink "SixWallsLaw" 118 ⟨"SixWalls", "image", "()I"⟩ ∈ lw_tbl := zt4 (List.mem_of_getElem? (i := 83) rfl)
theorem ml_SixWalls_284 : Cond.methodLink "SixWalls" 284 ⟨"SixWalls$Families", "keepImage", "()V"⟩ ∈ lw_tbl := zt4 (List.mem_of_getElem? (i := 87) rfl)
theorem ml_SixWalls_Families_76 : Cond.methodLink "SixWalls$Families" 76 ⟨"java/lang/System", "arraycopy", "(Ljava/lang/Object;ILjava/lang/Object;II)V"⟩ ∈ lw_tbl := zt4 (List.mem_of_getElem? (i := 91) rfl)
theorem ml_SixWallsLaw_122 : Cond.methodLink "SixWallsLaw" 122 ⟨"SixWalls", "back", "()I"⟩ ∈ lw_tbl := zt4 (List.mem_of_getElem? (i := 92) rfl)
theorem ml_SixWalls_287 : Cond.methodLink "SixWalls" 287 ⟨"SixWalls$Families", "layBack", "()Z"⟩ ∈ lw_tbl := zt4 (List.mem_of_getElem? (i := 96) rfl)
theorem ml_SixWallsLaw_126 : Cond.methodLink "SixWallsLaw" 126 ⟨"SixWalls", "undo", "()I"⟩ ∈ lw_tbl := zt4 (List.mem_of_getElem? (i := 100) rfl)
theorem ml_SixWalls_291 : Cond.methodLink "SixWalls" 291 ⟨"SixWalls$History", "takeBack", "()I"⟩ ∈ lw_tbl := zt4 (List.mem_of_getElem? (i := 104) rfl)
theorem ml_SixWalls_History_45 : Cond.methodLink "SixWalls$History" 45 ⟨"SixWalls$Comb", "tell", "(III)V"⟩ ∈ lw_tbl := zt4 (List.mem_of_getElem? (i := 108) rfl)
theorem ml_SixWallsLaw_130 : Cond.methodLink "SixWallsLaw" 130 ⟨"SixWalls", "redo", "()I"⟩ ∈ lw_tbl := zt4 (List.mem_of_getElem? (i := 109) rfl)
theorem ml_SixWalls_294 : Cond.methodLink "SixWalls" 294 ⟨"SixWalls$History", "doAgain", "()I"⟩ ∈ lw_tbl := zt4 (List.mem_of_getElem? (i := 113) rfl)
theorem ml_SixWallsLaw_134 : Cond.methodLink "SixWallsLaw" 134 ⟨"SixWalls", "body", "(I)I"⟩ ∈ lw_tbl := zt4 (List.mem_of_getElem? (i := 117) rfl)
theorem ml_SixWalls_297 : Cond.methodLink "SixWalls" 297 ⟨"SixWalls$Cells", "isKind", "(I)Z"⟩ ∈ lw_tbl := zt4 (List.mem_of_getElem? (i := 121) rfl)
theorem fl_SixWalls_Cells_28 : Cond.fieldLink "SixWalls$Cells" 28 "SixWalls$Cells" "ABOVE" "[I" ∈ lw_tbl := zt4 (List.mem_of_getElem? (i := 125) rfl)
theorem ml_SixWalls_300 : Cond.methodLink "SixWalls" 300 ⟨"SixWalls$Cells", "add", "(I)I"⟩ ∈ lw_tbl := zt4 (List.mem_of_getElem? (i := 127) rfl)
theorem ml_SixWallsLaw_138 : Cond.methodLink "SixWallsLaw" 138 ⟨"SixWalls", "act", "(III)I"⟩ ∈ lw_tbl := zt4 (List.mem_of_getElem? (i := 131) rfl)
theorem ml_SixWalls_303 : Cond.methodLink "SixWalls" 303 ⟨"SixWalls$Cells", "run", "(III)I"⟩ ∈ lw_tbl := zt4 (List.mem_of_getElem? (i := 135) rfl)
theorem ml_SixWalls_Cells_31 : Cond.methodLink "SixWalls$Cells" 31 ⟨"SixWalls$Cells", "isBody", "(I)Z"⟩ ∈ lw_tbl := zt4 (List.mem_of_getElem? (i := 139) rfl)
theorem ml_SixWalls_Cells_45 : Cond.methodLink "SixWalls$Cells" 45 ⟨"SixWalls$Cells", "from", "(IIII)I"⟩ ∈ lw_tbl := zt4 (List.mem_of_getElem? (i := 143) rfl)
theorem fl_SixWalls_Cells_49 : Cond.fieldLink "SixWalls$Cells" 49 "SixWalls$Cells" "BODIES" "[I" ∈ lw_tbl := zt4 (List.mem_of_getElem? (i := 147) rfl)
theorem ml_SixWalls_Cells_52 : Cond.methodLink "SixWalls$Cells" 52 ⟨"SixWalls$Cells", "perform", "(IIII)I"⟩ ∈ lw_tbl := zt4 (List.mem_of_getElem? (i := 149) rfl)
theorem ml_SixWalls_Cells_55 : Cond.methodLink "SixWalls$Cells" 55 ⟨"SixWalls$Cells", "own", "(III)I"⟩ ∈ lw_tbl := zt4 (List.mem_of_getElem? (i := 153) rfl)
theorem ml_SixWallsLaw_142 : Cond.methodLink "SixWallsLaw" 142 ⟨"SixWalls", "trace", "(I)I"⟩ ∈ lw_tbl := zt4 (List.mem_of_getElem? (i := 157) rfl)
theorem ml_SixWalls_306 : Cond.methodLink "SixWalls" 306 ⟨"SixWalls$Cells", "ranAt", "(I)I"⟩ ∈ lw_tbl := zt4 (List.mem_of_getElem? (i := 161) rfl)
theorem ml_SixWalls_Cells_39 : Cond.methodLink "SixWalls$Cells" 39 ⟨"java/lang/Math", "min", "(II)I"⟩ ∈ lw_tbl := zt4 (List.mem_of_getElem? (i := 165) rfl)
theorem ml_SixWallsLaw_146 : Cond.methodLink "SixWallsLaw" 146 ⟨"SixWalls", "keep", "(II)I"⟩ ∈ lw_tbl := zt4 (List.mem_of_getElem? (i := 166) rfl)
theorem ml_SixWalls_309 : Cond.methodLink "SixWalls" 309 ⟨"SixWalls$Cells", "isBody", "(I)Z"⟩ ∈ lw_tbl := zt4 (List.mem_of_getElem? (i := 170) rfl)
theorem ml_SixWalls_312 : Cond.methodLink "SixWalls" 312 ⟨"SixWalls$Shelves", "hold", "(II)V"⟩ ∈ lw_tbl := zt4 (List.mem_of_getElem? (i := 171) rfl)
theorem ml_SixWallsLaw_150 : Cond.methodLink "SixWallsLaw" 150 ⟨"SixWalls", "row", "(III)I"⟩ ∈ lw_tbl := zt4 (List.mem_of_getElem? (i := 175) rfl)
theorem ml_SixWalls_315 : Cond.methodLink "SixWalls" 315 ⟨"SixWalls$Shelves", "isSort", "(I)Z"⟩ ∈ lw_tbl := zt4 (List.mem_of_getElem? (i := 179) rfl)
theorem ml_SixWalls_318 : Cond.methodLink "SixWalls" 318 ⟨"SixWalls$Shelves", "lay", "(III)V"⟩ ∈ lw_tbl := zt4 (List.mem_of_getElem? (i := 183) rfl)
theorem ml_SixWallsLaw_156 : Cond.methodLink "SixWallsLaw" 156 ⟨"SixWalls", "put", "(IIJ)I"⟩ ∈ lw_tbl := zt4 (List.mem_of_getElem? (i := 187) rfl)
theorem ml_SixWalls_321 : Cond.methodLink "SixWalls" 321 ⟨"SixWalls$Shelves", "refusal", "(II)I"⟩ ∈ lw_tbl := zt4 (List.mem_of_getElem? (i := 191) rfl)
theorem ml_SixWalls_Shelves_30 : Cond.methodLink "SixWalls$Shelves" 30 ⟨"SixWalls$Shelves", "refusalOfRow", "(I)I"⟩ ∈ lw_tbl := zt4 (List.mem_of_getElem? (i := 195) rfl)
theorem ml_SixWalls_Shelves_26 : Cond.methodLink "SixWalls$Shelves" 26 ⟨"SixWalls$Shelves", "isShelf", "(I)Z"⟩ ∈ lw_tbl := zt4 (List.mem_of_getElem? (i := 199) rfl)
theorem ml_SixWalls_Shelves_34 : Cond.methodLink "SixWalls$Shelves" 34 ⟨"SixWalls$Shelves", "hasPlace", "(II)Z"⟩ ∈ lw_tbl := zt4 (List.mem_of_getElem? (i := 200) rfl)
theorem ml_SixWalls_324 : Cond.methodLink "SixWalls" 324 ⟨"SixWalls$Shelves", "set", "(IIJ)V"⟩ ∈ lw_tbl := zt4 (List.mem_of_getElem? (i := 201) rfl)
theorem ml_SixWalls_Shelves_38 : Cond.methodLink "SixWalls$Shelves" 38 ⟨"SixWalls$Shelves", "narrowed", "(IJ)J"⟩ ∈ lw_tbl := zt4 (List.mem_of_getElem? (i := 205) rfl)
theorem ml_SixWallsLaw_161 : Cond.methodLink "SixWallsLaw" 161 ⟨"SixWalls", "element", "(II)J"⟩ ∈ lw_tbl := zt4 (List.mem_of_getElem? (i := 208) rfl)
theorem ml_SixWallsLaw_166 : Cond.methodLink "SixWallsLaw" 166 ⟨"SixWalls", "shift", "(IIIII)I"⟩ ∈ lw_tbl := zt4 (List.mem_of_getElem? (i := 212) rfl)
theorem ml_SixWalls_328 : Cond.methodLink "SixWalls" 328 ⟨"SixWalls$Shelves", "refusalOfTwo", "(II)I"⟩ ∈ lw_tbl := zt4 (List.mem_of_getElem? (i := 216) rfl)
theorem ml_SixWalls_331 : Cond.methodLink "SixWalls" 331 ⟨"SixWalls$Shelves", "hasStretch", "(III)Z"⟩ ∈ lw_tbl := zt4 (List.mem_of_getElem? (i := 220) rfl)
theorem ml_SixWalls_334 : Cond.methodLink "SixWalls" 334 ⟨"SixWalls$Shelves", "move", "(IIIII)V"⟩ ∈ lw_tbl := zt4 (List.mem_of_getElem? (i := 224) rfl)
theorem ml_SixWalls_Shelves_42 : Cond.methodLink "SixWalls$Shelves" 42 ⟨"java/lang/System", "arraycopy", "(Ljava/lang/Object;ILjava/lang/Object;II)V"⟩ ∈ lw_tbl := zt4 (List.mem_of_getElem? (i := 228) rfl)
theorem ml_SixWallsLaw_171 : Cond.methodLink "SixWallsLaw" 171 ⟨"SixWalls", "taken", "(II)I"⟩ ∈ lw_tbl := zt4 (List.mem_of_getElem? (i := 229) rfl)
theorem ml_SixWalls_338 : Cond.methodLink "SixWalls" 338 ⟨"SixWalls$Shelves", "isBare", "(I)Z"⟩ ∈ lw_tbl := zt4 (List.mem_of_getElem? (i := 233) rfl)
theorem ml_SixWalls_341 : Cond.methodLink "SixWalls" 341 ⟨"SixWalls$Shelves", "cellOn", "(I)I"⟩ ∈ lw_tbl := zt4 (List.mem_of_getElem? (i := 237) rfl)
theorem ml_SixWalls_344 : Cond.methodLink "SixWalls" 344 ⟨"SixWalls$Cells", "isUnder", "(II)Z"⟩ ∈ lw_tbl := zt5 (List.mem_of_getElem? (i := 1) rfl)
theorem ml_SixWalls_Cells_35 : Cond.methodLink "SixWalls$Cells" 35 ⟨"SixWalls$Cells", "kindOf", "(I)I"⟩ ∈ lw_tbl := zt5 (List.mem_of_getElem? (i := 5) rfl)
theorem ml_SixWalls_347 : Cond.methodLink "SixWalls" 347 ⟨"SixWalls$Cells", "kindOf", "(I)I"⟩ ∈ lw_tbl := zt5 (List.mem_of_getElem? (i := 9) rfl)
theorem ml_SixWallsLaw_175 : Cond.methodLink "SixWallsLaw" 175 ⟨"SixWalls", "count", "(I)I"⟩ ∈ lw_tbl := zt5 (List.mem_of_getElem? (i := 10) rfl)
theorem ml_SixWalls_350 : Cond.methodLink "SixWalls" 350 ⟨"SixWalls$History", "undoable", "()I"⟩ ∈ lw_tbl := zt5 (List.mem_of_getElem? (i := 14) rfl)
theorem ml_SixWalls_353 : Cond.methodLink "SixWalls" 353 ⟨"SixWalls$Cells", "many", "()I"⟩ ∈ lw_tbl := zt5 (List.mem_of_getElem? (i := 18) rfl)
theorem ml_SixWalls_356 : Cond.methodLink "SixWalls" 356 ⟨"SixWalls$Cells", "ran", "()I"⟩ ∈ lw_tbl := zt5 (List.mem_of_getElem? (i := 22) rfl)
theorem cl_SixWallsLaw_10 : Cond.classLink "SixWallsLaw" 10 "SixWallsModel" ∈ lw_tbl := zt5 (List.mem_of_getElem? (i := 26) rfl)
theorem zins_SixWallsModel : Cond.instantiable "SixWallsModel" 44 ∈ lw_tbl := zt5 (List.mem_of_getElem? (i := 27) rfl)
theorem ml_SixWallsLaw_12 : Cond.methodLink "SixWallsLaw" 12 ⟨"SixWallsModel", "<init>", "()V"⟩ ∈ lw_tbl := zt5 (List.mem_of_getElem? (i := 28) rfl)
theorem ml_SixWallsModel_3 : Cond.methodLink "SixWallsModel" 3 ⟨"java/lang/Object", "<init>", "()V"⟩ ∈ lw_tbl := zt5 (List.mem_of_getElem? (i := 31) rfl)
theorem ml_SixWallsModel_97 : Cond.methodLink "SixWallsModel" 97 ⟨"SixWallsModel", "areNeighbours", "(II)Z"⟩ ∈ lw_tbl := zt5 (List.mem_of_getElem? (i := 32) rfl)
theorem fl_SixWallsModel_9 : Cond.fieldLink "SixWallsModel" 9 "SixWallsModel" "may" "[I" ∈ lw_tbl := zt5 (List.mem_of_getElem? (i := 35) rfl)
theorem fl_SixWallsModel_13 : Cond.fieldLink "SixWallsModel" 13 "SixWallsModel" "changeAt" "[I" ∈ lw_tbl := zt5 (List.mem_of_getElem? (i := 36) rfl)
theorem fl_SixWallsModel_16 : Cond.fieldLink "SixWallsModel" 16 "SixWallsModel" "changeWas" "[I" ∈ lw_tbl := zt5 (List.mem_of_getElem? (i := 37) rfl)
theorem fl_SixWallsModel_19 : Cond.fieldLink "SixWallsModel" 19 "SixWallsModel" "changeIs" "[I" ∈ lw_tbl := zt5 (List.mem_of_getElem? (i := 38) rfl)
theorem fl_SixWallsModel_107 : Cond.fieldLink "SixWallsModel" 107 "SixWallsModel" "keptMany" "I" ∈ lw_tbl := zt5 (List.mem_of_getElem? (i := 39) rfl)
theorem fl_SixWallsModel_104 : Cond.fieldLink "SixWallsModel" 104 "SixWallsModel" "done" "I" ∈ lw_tbl := zt5 (List.mem_of_getElem? (i := 40) rfl)
theorem fl_SixWallsModel_101 : Cond.fieldLink "SixWallsModel" 101 "SixWallsModel" "walls" "I" ∈ lw_tbl := zt5 (List.mem_of_getElem? (i := 41) rfl)
theorem fl_SixWallsModel_22 : Cond.fieldLink "SixWallsModel" 22 "SixWallsModel" "one" "[I" ∈ lw_tbl := zt5 (List.mem_of_getElem? (i := 42) rfl)
theorem fl_SixWallsModel_25 : Cond.fieldLink "SixWallsModel" 25 "SixWallsModel" "other" "[I" ∈ lw_tbl := zt5 (List.mem_of_getElem? (i := 43) rfl)
theorem fl_SixWallsModel_28 : Cond.fieldLink "SixWallsModel" 28 "SixWallsModel" "warmth" "[I" ∈ lw_tbl := zt5 (List.mem_of_getElem? (i := 44) rfl)
theorem fl_SixWallsModel_31 : Cond.fieldLink "SixWallsModel" 31 "SixWallsModel" "lives" "[Z" ∈ lw_tbl := zt5 (List.mem_of_getElem? (i := 45) rfl)
theorem fl_SixWallsModel_35 : Cond.fieldLink "SixWallsModel" 35 "SixWallsModel" "tape" "[I" ∈ lw_tbl := zt5 (List.mem_of_getElem? (i := 46) rfl)
theorem fl_SixWallsModel_182 : Cond.fieldLink "SixWallsModel" 182 "SixWallsModel" "tapeMany" "I" ∈ lw_tbl := zt5 (List.mem_of_getElem? (i := 47) rfl)
theorem fl_SixWallsModel_38 : Cond.fieldLink "SixWallsModel" 38 "SixWallsModel" "text" "[I" ∈ lw_tbl := zt5 (List.mem_of_getElem? (i := 48) rfl)
theorem fl_SixWallsModel_93 : Cond.fieldLink "SixWallsModel" 93 "SixWallsModel" "textMany" "I" ∈ lw_tbl := zt5 (List.mem_of_getElem? (i := 49) rfl)
theorem fl_SixWallsModel_191 : Cond.fieldLink "SixWallsModel" 191 "SixWallsModel" "base" "I" ∈ lw_tbl := zt5 (List.mem_of_getElem? (i := 50) rfl)
theorem fl_SixWallsModel_185 : Cond.fieldLink "SixWallsModel" 185 "SixWallsModel" "at" "I" ∈ lw_tbl := zt5 (List.mem_of_getElem? (i := 51) rfl)
theorem fl_SixWallsModel_188 : Cond.fieldLink "SixWallsModel" 188 "SixWallsModel" "ends" "I" ∈ lw_tbl := zt5 (List.mem_of_getElem? (i := 52) rfl)
theorem fl_SixWallsModel_194 : Cond.fieldLink "SixWallsModel" 194 "SixWallsModel" "fault" "I" ∈ lw_tbl := zt5 (List.mem_of_getElem? (i := 53) rfl)
theorem fl_SixWallsModel_219 : Cond.fieldLink "SixWallsModel" 219 "SixWallsModel" "opened1" "I" ∈ lw_tbl := zt5 (List.mem_of_getElem? (i := 54) rfl)
theorem fl_SixWallsModel_41 : Cond.fieldLink "SixWallsModel" 41 "SixWallsModel" "names" "[I" ∈ lw_tbl := zt5 (List.mem_of_getElem? (i := 55) rfl)
theorem fl_SixWallsModel_44 : Cond.fieldLink "SixWallsModel" 44 "SixWallsModel" "then" "[I" ∈ lw_tbl := zt5 (List.mem_of_getElem? (i := 56) rfl)
theorem fl_SixWallsModel_47 : Cond.fieldLink "SixWallsModel" 47 "SixWallsModel" "next" "[I" ∈ lw_tbl := zt5 (List.mem_of_getElem? (i := 57) rfl)
theorem fl_SixWallsModel_50 : Cond.fieldLink "SixWallsModel" 50 "SixWallsModel" "flows" "[I" ∈ lw_tbl := zt5 (List.mem_of_getElem? (i := 58) rfl)
theorem fl_SixWallsModel_53 : Cond.fieldLink "SixWallsModel" 53 "SixWallsModel" "gone" "[I" ∈ lw_tbl := zt5 (List.mem_of_getElem? (i := 59) rfl)
theorem fl_SixWallsModel_253 : Cond.fieldLink "SixWallsModel" 253 "SixWallsModel" "daysDone" "I" ∈ lw_tbl := zt5 (List.mem_of_getElem? (i := 60) rfl)
theorem fl_SixWallsModel_56 : Cond.fieldLink "SixWallsModel" 56 "SixWallsModel" "ledFlow" "[I" ∈ lw_tbl := zt5 (List.mem_of_getElem? (i := 61) rfl)
theorem fl_SixWallsModel_59 : Cond.fieldLink "SixWallsModel" 59 "SixWallsModel" "thick" "[I" ∈ lw_tbl := zt5 (List.mem_of_getElem? (i := 62) rfl)
theorem fl_SixWallsModel_62 : Cond.fieldLink "SixWallsModel" 62 "SixWallsModel" "far" "[I" ∈ lw_tbl := zt5 (List.mem_of_getElem? (i := 63) rfl)
theorem fl_SixWallsModel_280 : Cond.fieldLink "SixWallsModel" 280 "SixWallsModel" "openBest" "J" ∈ lw_tbl := zt5 (List.mem_of_getElem? (i := 64) rfl)
theorem fl_SixWallsModel_65 : Cond.fieldLink "SixWallsModel" 65 "SixWallsModel" "colour" "[I" ∈ lw_tbl := zt5 (List.mem_of_getElem? (i := 65) rfl)
theorem fl_SixWallsModel_315 : Cond.fieldLink "SixWallsModel" 315 "SixWallsModel" "isKept" "Z" ∈ lw_tbl := zt5 (List.mem_of_getElem? (i := 66) rfl)
theorem fl_SixWallsModel_68 : Cond.fieldLink "SixWallsModel" 68 "SixWallsModel" "imageWarmth" "[I" ∈ lw_tbl := zt5 (List.mem_of_getElem? (i := 67) rfl)
theorem fl_SixWallsModel_71 : Cond.fieldLink "SixWallsModel" 71 "SixWallsModel" "imageLives" "[Z" ∈ lw_tbl := zt5 (List.mem_of_getElem? (i := 68) rfl)
theorem fl_SixWallsModel_322 : Cond.fieldLink "SixWallsModel" 322 "SixWallsModel" "bodies" "I" ∈ lw_tbl := zt5 (List.mem_of_getElem? (i := 69) rfl)
theorem fl_SixWallsModel_74 : Cond.fieldLink "SixWallsModel" 74 "SixWallsModel" "bodyKind" "[I" ∈ lw_tbl := zt5 (List.mem_of_getElem? (i := 70) rfl)
theorem fl_SixWallsModel_77 : Cond.fieldLink "SixWallsModel" 77 "SixWallsModel" "trace" "[I" ∈ lw_tbl := zt5 (List.mem_of_getElem? (i := 71) rfl)
theorem fl_SixWallsModel_327 : Cond.fieldLink "SixWallsModel" 327 "SixWallsModel" "ran" "I" ∈ lw_tbl := zt5 (List.mem_of_getElem? (i := 72) rfl)
theorem fl_SixWallsModel_342 : Cond.fieldLink "SixWallsModel" 342 "SixWallsModel" "ownKind" "I" ∈ lw_tbl := zt5 (List.mem_of_getElem? (i := 73) rfl)
theorem fl_SixWallsModel_336 : Cond.fieldLink "SixWallsModel" 336 "SixWallsModel" "ownNumber" "I" ∈ lw_tbl := zt5 (List.mem_of_getElem? (i := 74) rfl)
theorem fl_SixWallsModel_80 : Cond.fieldLink "SixWallsModel" 80 "SixWallsModel" "shelf" "[I" ∈ lw_tbl := zt5 (List.mem_of_getElem? (i := 75) rfl)
theorem fl_SixWallsModel_83 : Cond.fieldLink "SixWallsModel" 83 "SixWallsModel" "many" "[I" ∈ lw_tbl := zt5 (List.mem_of_getElem? (i := 76) rfl)
theorem fl_SixWallsModel_86 : Cond.fieldLink "SixWallsModel" 86 "SixWallsModel" "items" "[J" ∈ lw_tbl := zt5 (List.mem_of_getElem? (i := 77) rfl)
theorem fl_SixWallsModel_90 : Cond.fieldLink "SixWallsModel" 90 "SixWallsModel" "carried" "[J" ∈ lw_tbl := zt5 (List.mem_of_getElem? (i := 78) rfl)
theorem ml_SixWallsLaw_129 : Cond.methodLink "SixWallsLaw" 129 ⟨"SixWallsModel", "undo", "()I"⟩ ∈ lw_tbl := zt5 (List.mem_of_getElem? (i := 169) rfl)
theorem ml_SixWallsLaw_133 : Cond.methodLink "SixWallsLaw" 133 ⟨"SixWallsModel", "redo", "()I"⟩ ∈ lw_tbl := zt5 (List.mem_of_getElem? (i := 173) rfl)
theorem ml_SixWallsLaw_17 : Cond.methodLink "SixWallsLaw" 17 ⟨"SixWallsModel", "wall", "(I)I"⟩ ∈ lw_tbl := zt5 (List.mem_of_getElem? (i := 177) rfl)
theorem ml_SixWallsModel_122 : Cond.methodLink "SixWallsModel" 122 ⟨"SixWallsModel", "isAb", "(I)Z"⟩ ∈ lw_tbl := zt5 (List.mem_of_getElem? (i := 181) rfl)
theorem ml_SixWallsModel_118 : Cond.methodLink "SixWallsModel" 118 ⟨"SixWallsModel", "isHouse", "(I)Z"⟩ ∈ lw_tbl := zt5 (List.mem_of_getElem? (i := 184) rfl)
theorem kl_SixWallsModel_110 : Cond.constantLong "SixWallsModel" 110 (15) ∈ lw_tbl := zt5 (List.mem_of_getElem? (i := 187) rfl)
theorem ml_SixWallsModel_112 : Cond.methodLink "SixWallsModel" 112 ⟨"SixWallsModel", "within", "(JJJ)Z"⟩ ∈ lw_tbl := zt5 (List.mem_of_getElem? (i := 188) rfl)
theorem ml_SixWallsModel_125 : Cond.methodLink "SixWallsModel" 125 ⟨"SixWallsModel", "wallOf", "(II)I"⟩ ∈ lw_tbl := zt5 (List.mem_of_getElem? (i := 191) rfl)
theorem ml_SixWallsLaw_22 : Cond.methodLink "SixWallsLaw" 22 ⟨"SixWallsModel", "mend", "(III)I"⟩ ∈ lw_tbl := zt5 (List.mem_of_getElem? (i := 195) rfl)
theorem kl_SixWallsModel_129 : Cond.constantLong "SixWallsModel" 129 (9) ∈ lw_tbl := zt5 (List.mem_of_getElem? (i := 199) rfl)
theorem ml_SixWallsModel_131 : Cond.methodLink "SixWallsModel" 131 ⟨"SixWallsModel", "becomes", "(II)I"⟩ ∈ lw_tbl := zt5 (List.mem_of_getElem? (i := 200) rfl)
theorem ml_SixWallsModel_134 : Cond.methodLink "SixWallsModel" 134 ⟨"SixWallsModel", "isWall", "(I)Z"⟩ ∈ lw_tbl := zt5 (List.mem_of_getElem? (i := 204) rfl)
theorem kl_SixWallsModel_116 : Cond.constantLong "SixWallsModel" 116 (32) ∈ lw_tbl := zt5 (List.mem_of_getElem? (i := 207) rfl)
theorem kl_SixWallsModel_137 : Cond.constantLong "SixWallsModel" 137 (5) ∈ lw_tbl := zt5 (List.mem_of_getElem? (i := 208) rfl)
theorem kl_SixWallsModel_139 : Cond.constantLong "SixWallsModel" 139 (6) ∈ lw_tbl := zt5 (List.mem_of_getElem? (i := 209) rfl)
theorem kl_SixWallsModel_141 : Cond.constantLong "SixWallsModel" 141 (54) ∈ lw_tbl := zt5 (List.mem_of_getElem? (i := 210) rfl)
theorem ml_SixWallsLaw_27 : Cond.methodLink "SixWallsLaw" 27 ⟨"SixWallsModel", "of", "(II)I"⟩ ∈ lw_tbl := zt5 (List.mem_of_getElem? (i := 211) rfl)
theorem ml_SixWallsModel_162 : Cond.methodLink "SixWallsModel" 162 ⟨"SixWallsModel", "ofHouse", "(II)I"⟩ ∈ lw_tbl := zt5 (List.mem_of_getElem? (i := 215) rfl)
theorem ml_SixWallsModel_143 : Cond.methodLink "SixWallsModel" 143 ⟨"SixWallsModel", "neighboursOf", "(I)I"⟩ ∈ lw_tbl := zt5 (List.mem_of_getElem? (i := 219) rfl)
theorem ml_SixWallsModel_147 : Cond.methodLink "SixWallsModel" 147 ⟨"SixWallsModel", "asksThick", "()V"⟩ ∈ lw_tbl := zt5 (List.mem_of_getElem? (i := 223) rfl)
theorem ml_SixWallsModel_150 : Cond.methodLink "SixWallsModel" 150 ⟨"SixWallsModel", "borne", "(I)I"⟩ ∈ lw_tbl := zt5 (List.mem_of_getElem? (i := 227) rfl)
theorem kc_SixWallsModel_165 : Cond.constant "SixWallsModel" 165 (-2000000000) ∈ lw_tbl := zt5 (List.mem_of_getElem? (i := 231) rfl)
theorem kl_SixWallsModel_166 : Cond.constantLong "SixWallsModel" 166 (10) ∈ lw_tbl := zt5 (List.mem_of_getElem? (i := 232) rfl)
theorem ml_SixWallsModel_168 : Cond.methodLink "SixWallsModel" 168 ⟨"SixWallsModel", "ofWall", "(II)I"⟩ ∈ lw_tbl := zt5 (List.mem_of_getElem? (i := 233) rfl)
theorem ml_SixWallsModel_153 : Cond.methodLink "SixWallsModel" 153 ⟨"SixWallsModel", "agreedOf", "(I)I"⟩ ∈ lw_tbl := zt5 (List.mem_of_getElem? (i := 237) rfl)
theorem ml_SixWallsModel_156 : Cond.methodLink "SixWallsModel" 156 ⟨"SixWallsModel", "begins1", "()V"⟩ ∈ lw_tbl := zt6 (List.mem_of_getElem? (i := 1) rfl)
theorem ml_SixWallsModel_159 : Cond.methodLink "SixWallsModel" 159 ⟨"SixWallsModel", "flowOf", "(I)I"⟩ ∈ lw_tbl := zt6 (List.mem_of_getElem? (i := 5) rfl)
theorem ml_SixWallsModel_234 : Cond.methodLink "SixWallsModel" 234 ⟨"SixWallsModel", "throughOf", "(III)I"⟩ ∈ lw_tbl := zt6 (List.mem_of_getElem? (i := 9) rfl)
theorem ml_SixWallsModel_231 : Cond.methodLink "SixWallsModel" 231 ⟨"SixWallsModel", "workOut", "(II)I"⟩ ∈ lw_tbl := zt6 (List.mem_of_getElem? (i := 13) rfl)
theorem ml_SixWallsModel_225 : Cond.methodLink "SixWallsModel" 225 ⟨"SixWallsModel", "either", "()I"⟩ ∈ lw_tbl := zt6 (List.mem_of_getElem? (i := 17) rfl)
theorem ml_SixWallsModel_201 : Cond.methodLink "SixWallsModel" 201 ⟨"SixWallsModel", "both", "()I"⟩ ∈ lw_tbl := zt6 (List.mem_of_getElem? (i := 21) rfl)
theorem ml_SixWallsModel_207 : Cond.methodLink "SixWallsModel" 207 ⟨"SixWallsModel", "compared", "()I"⟩ ∈ lw_tbl := zt6 (List.mem_of_getElem? (i := 25) rfl)
theorem ml_SixWallsModel_210 : Cond.methodLink "SixWallsModel" 210 ⟨"SixWallsModel", "sums", "()I"⟩ ∈ lw_tbl := zt6 (List.mem_of_getElem? (i := 29) rfl)
theorem ml_SixWallsModel_213 : Cond.methodLink "SixWallsModel" 213 ⟨"SixWallsModel", "product", "()I"⟩ ∈ lw_tbl := zt6 (List.mem_of_getElem? (i := 33) rfl)
theorem ml_SixWallsModel_216 : Cond.methodLink "SixWallsModel" 216 ⟨"SixWallsModel", "oneOf", "()I"⟩ ∈ lw_tbl := zt6 (List.mem_of_getElem? (i := 37) rfl)
theorem ml_SixWallsModel_197 : Cond.methodLink "SixWallsModel" 197 ⟨"SixWallsModel", "byteAt", "()I"⟩ ∈ lw_tbl := zt6 (List.mem_of_getElem? (i := 41) rfl)
theorem ml_SixWallsModel_222 : Cond.methodLink "SixWallsModel" 222 ⟨"SixWallsModel", "wrong", "()I"⟩ ∈ lw_tbl := zt6 (List.mem_of_getElem? (i := 45) rfl)
theorem ml_SixWallsModel_204 : Cond.methodLink "SixWallsModel" 204 ⟨"SixWallsModel", "takesByte", "(I)Z"⟩ ∈ lw_tbl := zt6 (List.mem_of_getElem? (i := 49) rfl)
theorem ml_SixWallsModel_228 : Cond.methodLink "SixWallsModel" 228 ⟨"SixWallsModel", "nameOf", "(I)I"⟩ ∈ lw_tbl := zt6 (List.mem_of_getElem? (i := 53) rfl)
theorem kl_SixWallsModel_171 : Cond.constantLong "SixWallsModel" 171 (20) ∈ lw_tbl := zt6 (List.mem_of_getElem? (i := 56) rfl)
theorem kl_SixWallsModel_173 : Cond.constantLong "SixWallsModel" 173 (21) ∈ lw_tbl := zt6 (List.mem_of_getElem? (i := 57) rfl)
theorem ml_SixWallsLaw_31 : Cond.methodLink "SixWallsLaw" 31 ⟨"SixWallsModel", "fires", "(III)I"⟩ ∈ lw_tbl := zt6 (List.mem_of_getElem? (i := 58) rfl)
theorem ml_SixWallsModel_175 : Cond.methodLink "SixWallsModel" 175 ⟨"SixWallsModel", "isShelf", "(I)Z"⟩ ∈ lw_tbl := zt6 (List.mem_of_getElem? (i := 62) rfl)
theorem kl_SixWallsModel_178 : Cond.constantLong "SixWallsModel" 178 (16) ∈ lw_tbl := zt6 (List.mem_of_getElem? (i := 65) rfl)
theorem ml_SixWallsLaw_35 : Cond.methodLink "SixWallsLaw" 35 ⟨"SixWallsModel", "feed", "(I)I"⟩ ∈ lw_tbl := zt6 (List.mem_of_getElem? (i := 66) rfl)
theorem kl_SixWallsModel_180 : Cond.constantLong "SixWallsModel" 180 (255) ∈ lw_tbl := zt6 (List.mem_of_getElem? (i := 70) rfl)
theorem ml_SixWallsLaw_40 : Cond.methodLink "SixWallsLaw" 40 ⟨"SixWallsModel", "law", "()I"⟩ ∈ lw_tbl := zt6 (List.mem_of_getElem? (i := 71) rfl)
theorem ml_SixWallsLaw_44 : Cond.methodLink "SixWallsLaw" 44 ⟨"SixWallsModel", "warmth", "(II)I"⟩ ∈ lw_tbl := zt6 (List.mem_of_getElem? (i := 75) rfl)
theorem kl_SixWallsModel_242 : Cond.constantLong "SixWallsModel" 242 (30) ∈ lw_tbl := zt6 (List.mem_of_getElem? (i := 79) rfl)
theorem ml_SixWallsModel_244 : Cond.methodLink "SixWallsModel" 244 ⟨"SixWallsModel", "winter", "(I)V"⟩ ∈ lw_tbl := zt6 (List.mem_of_getElem? (i := 80) rfl)
theorem ml_SixWallsModel_238 : Cond.methodLink "SixWallsModel" 238 ⟨"SixWallsModel", "dayGoes", "()Z"⟩ ∈ lw_tbl := zt6 (List.mem_of_getElem? (i := 84) rfl)
theorem ml_SixWallsModel_248 : Cond.methodLink "SixWallsModel" 248 ⟨"SixWallsModel", "allThen", "()I"⟩ ∈ lw_tbl := zt6 (List.mem_of_getElem? (i := 88) rfl)
theorem ml_SixWallsLaw_48 : Cond.methodLink "SixWallsLaw" 48 ⟨"SixWallsModel", "cold", "(II)I"⟩ ∈ lw_tbl := zt6 (List.mem_of_getElem? (i := 92) rfl)
theorem kl_SixWallsModel_251 : Cond.constantLong "SixWallsModel" 251 (99) ∈ lw_tbl := zt6 (List.mem_of_getElem? (i := 96) rfl)
theorem ml_SixWallsLaw_52 : Cond.methodLink "SixWallsLaw" 52 ⟨"SixWallsModel", "still", "()I"⟩ ∈ lw_tbl := zt6 (List.mem_of_getElem? (i := 97) rfl)
theorem ml_SixWallsLaw_56 : Cond.methodLink "SixWallsLaw" 56 ⟨"SixWallsModel", "gave", "(II)I"⟩ ∈ lw_tbl := zt6 (List.mem_of_getElem? (i := 101) rfl)
theorem ml_SixWallsLaw_60 : Cond.methodLink "SixWallsLaw" 60 ⟨"SixWallsModel", "leastFire", "(II)I"⟩ ∈ lw_tbl := zt6 (List.mem_of_getElem? (i := 105) rfl)
theorem ml_SixWallsLaw_64 : Cond.methodLink "SixWallsLaw" 64 ⟨"SixWallsModel", "days", "(I)I"⟩ ∈ lw_tbl := zt6 (List.mem_of_getElem? (i := 109) rfl)
theorem ml_SixWallsLaw_68 : Cond.methodLink "SixWallsLaw" 68 ⟨"SixWallsModel", "led", "(I)I"⟩ ∈ lw_tbl := zt6 (List.mem_of_getElem? (i := 113) rfl)
theorem ml_SixWallsLaw_72 : Cond.methodLink "SixWallsLaw" 72 ⟨"SixWallsModel", "rounds", "(I)I"⟩ ∈ lw_tbl := zt6 (List.mem_of_getElem? (i := 117) rfl)
theorem ml_SixWallsModel_256 : Cond.methodLink "SixWallsModel" 256 ⟨"SixWallsModel", "roundGoes", "()Z"⟩ ∈ lw_tbl := zt6 (List.mem_of_getElem? (i := 121) rfl)
theorem ml_SixWallsLaw_76 : Cond.methodLink "SixWallsLaw" 76 ⟨"SixWallsModel", "way", "(I)I"⟩ ∈ lw_tbl := zt6 (List.mem_of_getElem? (i := 125) rfl)
theorem ml_SixWallsModel_262 : Cond.methodLink "SixWallsModel" 262 ⟨"SixWallsModel", "measures", "(IZ)V"⟩ ∈ lw_tbl := zt6 (List.mem_of_getElem? (i := 129) rfl)
theorem ml_SixWallsModel_259 : Cond.methodLink "SixWallsModel" 259 ⟨"SixWallsModel", "comesTo", "(II)Z"⟩ ∈ lw_tbl := zt6 (List.mem_of_getElem? (i := 133) rfl)
theorem ml_SixWallsLaw_80 : Cond.methodLink "SixWallsLaw" 80 ⟨"SixWallsModel", "doors", "(I)I"⟩ ∈ lw_tbl := zt6 (List.mem_of_getElem? (i := 137) rfl)
theorem ml_SixWallsModel_270 : Cond.methodLink "SixWallsModel" 270 ⟨"SixWallsModel", "livedIn", "()I"⟩ ∈ lw_tbl := zt6 (List.mem_of_getElem? (i := 141) rfl)
theorem ml_SixWallsModel_273 : Cond.methodLink "SixWallsModel" 273 ⟨"SixWallsModel", "outWith", "(J)I"⟩ ∈ lw_tbl := zt6 (List.mem_of_getElem? (i := 145) rfl)
theorem ml_SixWallsModel_266 : Cond.methodLink "SixWallsModel" 266 ⟨"SixWallsModel", "isIn", "(JI)Z"⟩ ∈ lw_tbl := zt6 (List.mem_of_getElem? (i := 149) rfl)
theorem ml_SixWallsModel_277 : Cond.methodLink "SixWallsModel" 277 ⟨"SixWallsModel", "bitsOf", "(J)I"⟩ ∈ lw_tbl := zt6 (List.mem_of_getElem? (i := 152) rfl)
theorem ml_SixWallsLaw_85 : Cond.methodLink "SixWallsLaw" 85 ⟨"SixWallsModel", "opened", "(I)J"⟩ ∈ lw_tbl := zt6 (List.mem_of_getElem? (i := 155) rfl)
theorem kl_SixWallsModel_290 : Cond.constantLong "SixWallsModel" 290 (-9223372036854775808) ∈ lw_tbl := zt6 (List.mem_of_getElem? (i := 159) rfl)
theorem kl_SixWallsModel_292 : Cond.constantLong "SixWallsModel" 292 (-1) ∈ lw_tbl := zt6 (List.mem_of_getElem? (i := 160) rfl)
theorem ml_SixWallsModel_284 : Cond.methodLink "SixWallsModel" 284 ⟨"SixWallsModel", "opens", "(IIJ)V"⟩ ∈ lw_tbl := zt6 (List.mem_of_getElem? (i := 161) rfl)
theorem ml_SixWallsLaw_89 : Cond.methodLink "SixWallsLaw" 89 ⟨"SixWallsModel", "heard", "(II)I"⟩ ∈ lw_tbl := zt6 (List.mem_of_getElem? (i := 165) rfl)
theorem ml_SixWallsLaw_93 : Cond.methodLink "SixWallsLaw" 93 ⟨"SixWallsModel", "whose", "(II)I"⟩ ∈ lw_tbl := zt6 (List.mem_of_getElem? (i := 169) rfl)
theorem kl_SixWallsModel_294 : Cond.constantLong "SixWallsModel" 294 (65535) ∈ lw_tbl := zt6 (List.mem_of_getElem? (i := 173) rfl)
theorem ml_SixWallsLaw_101 : Cond.methodLink "SixWallsLaw" 101 ⟨"SixWallsModel", "paint", "(I)I"⟩ ∈ lw_tbl := zt6 (List.mem_of_getElem? (i := 174) rfl)
theorem ml_SixWallsModel_299 : Cond.methodLink "SixWallsModel" 299 ⟨"SixWallsModel", "asksColours", "()V"⟩ ∈ lw_tbl := zt6 (List.mem_of_getElem? (i := 178) rfl)
theorem ml_SixWallsModel_302 : Cond.methodLink "SixWallsModel" 302 ⟨"SixWallsModel", "bestColour", "(I)I"⟩ ∈ lw_tbl := zt6 (List.mem_of_getElem? (i := 182) rfl)
theorem ml_SixWallsModel_296 : Cond.methodLink "SixWallsModel" 296 ⟨"SixWallsModel", "clashes", "()I"⟩ ∈ lw_tbl := zt6 (List.mem_of_getElem? (i := 186) rfl)
theorem ml_SixWallsLaw_97 : Cond.methodLink "SixWallsLaw" 97 ⟨"SixWallsModel", "colours", "(I)I"⟩ ∈ lw_tbl := zt6 (List.mem_of_getElem? (i := 190) rfl)
theorem ml_SixWallsLaw_105 : Cond.methodLink "SixWallsLaw" 105 ⟨"SixWallsModel", "empty", "(I)I"⟩ ∈ lw_tbl := zt6 (List.mem_of_getElem? (i := 194) rfl)
theorem ml_SixWallsLaw_109 : Cond.methodLink "SixWallsLaw" 109 ⟨"SixWallsModel", "takes", "(II)I"⟩ ∈ lw_tbl := zt6 (List.mem_of_getElem? (i := 198) rfl)
theorem ml_SixWallsModel_305 : Cond.methodLink "SixWallsModel" 305 ⟨"SixWallsModel", "whoTakes", "(I)I"⟩ ∈ lw_tbl := zt6 (List.mem_of_getElem? (i := 202) rfl)
theorem ml_SixWallsLaw_113 : Cond.methodLink "SixWallsLaw" 113 ⟨"SixWallsModel", "where", "(I)I"⟩ ∈ lw_tbl := zt6 (List.mem_of_getElem? (i := 206) rfl)
theorem ml_SixWallsLaw_117 : Cond.methodLink "SixWallsLaw" 117 ⟨"SixWallsModel", "years", "(II)I"⟩ ∈ lw_tbl := zt6 (List.mem_of_getElem? (i := 210) rfl)
theorem kc_SixWallsModel_308 : Cond.constant "SixWallsModel" 308 (1103515245) ∈ lw_tbl := zt6 (List.mem_of_getElem? (i := 214) rfl)
theorem ml_SixWallsModel_309 : Cond.methodLink "SixWallsModel" 309 ⟨"SixWallsModel", "isBorn", "(I)V"⟩ ∈ lw_tbl := zt6 (List.mem_of_getElem? (i := 215) rfl)
theorem ml_SixWallsModel_312 : Cond.methodLink "SixWallsModel" 312 ⟨"SixWallsModel", "feuds", "(I)V"⟩ ∈ lw_tbl := zt6 (List.mem_of_getElem? (i := 219) rfl)
theorem ml_SixWallsLaw_121 : Cond.methodLink "SixWallsLaw" 121 ⟨"SixWallsModel", "image", "()I"⟩ ∈ lw_tbl := zt6 (List.mem_of_getElem? (i := 223) rfl)
theorem ml_SixWallsModel_319 : Cond.methodLink "SixWallsModel" 319 ⟨"SixWallsModel", "allWarmth", "()I"⟩ ∈ lw_tbl := zt6 (List.mem_of_getElem? (i := 227) rfl)
theorem ml_SixWallsLaw_125 : Cond.methodLink "SixWallsLaw" 125 ⟨"SixWallsModel", "back", "()I"⟩ ∈ lw_tbl := zt6 (List.mem_of_getElem? (i := 231) rfl)
theorem ml_SixWallsLaw_137 : Cond.methodLink "SixWallsLaw" 137 ⟨"SixWallsModel", "body", "(I)I"⟩ ∈ lw_tbl := zt6 (List.mem_of_getElem? (i := 235) rfl)
theorem kl_SixWallsModel_325 : Cond.constantLong "SixWallsModel" 325 (7) ∈ lw_tbl := zt6 (List.mem_of_getElem? (i := 239) rfl)
theorem ml_SixWallsLaw_141 : Cond.methodLink "SixWallsLaw" 141 ⟨"SixWallsModel", "act", "(III)I"⟩ ∈ lw_tbl := zt7 (List.mem_of_getElem? (i := 0) rfl)
theorem ml_SixWallsModel_351 : Cond.methodLink "SixWallsModel" 351 ⟨"SixWallsModel", "isBody", "(I)Z"⟩ ∈ lw_tbl := zt7 (List.mem_of_getElem? (i := 4) rfl)
theorem ml_SixWallsModel_333 : Cond.methodLink "SixWallsModel" 333 ⟨"SixWallsModel", "warmsAs", "(II)I"⟩ ∈ lw_tbl := zt7 (List.mem_of_getElem? (i := 8) rfl)
theorem ml_SixWallsModel_330 : Cond.methodLink "SixWallsModel" 330 ⟨"SixWallsModel", "begins", "(I)V"⟩ ∈ lw_tbl := zt7 (List.mem_of_getElem? (i := 12) rfl)
theorem ml_SixWallsModel_339 : Cond.methodLink "SixWallsModel" 339 ⟨"SixWallsModel", "wallsAs", "(II)I"⟩ ∈ lw_tbl := zt7 (List.mem_of_getElem? (i := 16) rfl)
theorem ml_SixWallsModel_345 : Cond.methodLink "SixWallsModel" 345 ⟨"SixWallsModel", "pipesAs", "(II)I"⟩ ∈ lw_tbl := zt7 (List.mem_of_getElem? (i := 20) rfl)
theorem ml_SixWallsModel_348 : Cond.methodLink "SixWallsModel" 348 ⟨"SixWallsModel", "tellsAs", "(II)I"⟩ ∈ lw_tbl := zt7 (List.mem_of_getElem? (i := 24) rfl)
theorem ml_SixWallsLaw_145 : Cond.methodLink "SixWallsLaw" 145 ⟨"SixWallsModel", "trace", "(I)I"⟩ ∈ lw_tbl := zt7 (List.mem_of_getElem? (i := 28) rfl)
theorem ml_SixWallsLaw_149 : Cond.methodLink "SixWallsLaw" 149 ⟨"SixWallsModel", "keep", "(II)I"⟩ ∈ lw_tbl := zt7 (List.mem_of_getElem? (i := 32) rfl)
theorem ml_SixWallsLaw_153 : Cond.methodLink "SixWallsLaw" 153 ⟨"SixWallsModel", "row", "(III)I"⟩ ∈ lw_tbl := zt7 (List.mem_of_getElem? (i := 36) rfl)
theorem kl_SixWallsModel_354 : Cond.constantLong "SixWallsModel" 354 (4) ∈ lw_tbl := zt7 (List.mem_of_getElem? (i := 40) rfl)
theorem ml_SixWallsLaw_160 : Cond.methodLink "SixWallsLaw" 160 ⟨"SixWallsModel", "put", "(IIJ)I"⟩ ∈ lw_tbl := zt7 (List.mem_of_getElem? (i := 41) rfl)
theorem ml_SixWallsModel_356 : Cond.methodLink "SixWallsModel" 356 ⟨"SixWallsModel", "refusal", "(II)I"⟩ ∈ lw_tbl := zt7 (List.mem_of_getElem? (i := 45) rfl)
theorem ml_SixWallsModel_359 : Cond.methodLink "SixWallsModel" 359 ⟨"SixWallsModel", "asSort", "(IJ)J"⟩ ∈ lw_tbl := zt7 (List.mem_of_getElem? (i := 49) rfl)
theorem ml_SixWallsLaw_165 : Cond.methodLink "SixWallsLaw" 165 ⟨"SixWallsModel", "element", "(II)J"⟩ ∈ lw_tbl := zt7 (List.mem_of_getElem? (i := 52) rfl)
theorem ml_SixWallsLaw_170 : Cond.methodLink "SixWallsLaw" 170 ⟨"SixWallsModel", "shift", "(IIIII)I"⟩ ∈ lw_tbl := zt7 (List.mem_of_getElem? (i := 56) rfl)
theorem ml_SixWallsLaw_174 : Cond.methodLink "SixWallsLaw" 174 ⟨"SixWallsModel", "taken", "(II)I"⟩ ∈ lw_tbl := zt7 (List.mem_of_getElem? (i := 60) rfl)
theorem ml_SixWallsModel_363 : Cond.methodLink "SixWallsModel" 363 ⟨"SixWallsModel", "kindOf", "(I)I"⟩ ∈ lw_tbl := zt7 (List.mem_of_getElem? (i := 64) rfl)
theorem ml_SixWallsModel_366 : Cond.methodLink "SixWallsModel" 366 ⟨"SixWallsModel", "above", "(I)I"⟩ ∈ lw_tbl := zt7 (List.mem_of_getElem? (i := 68) rfl)
theorem ml_SixWallsLaw_178 : Cond.methodLink "SixWallsLaw" 178 ⟨"SixWallsModel", "count", "(I)I"⟩ ∈ lw_tbl := zt7 (List.mem_of_getElem? (i := 71) rfl)
theorem ml_SixWallsModel_369 : Cond.methodLink "SixWallsModel" 369 ⟨"SixWallsModel", "doorMany", "()I"⟩ ∈ lw_tbl := zt7 (List.mem_of_getElem? (i := 75) rfl)
theorem kl_SixWallsLaw_154 : Cond.constantLong "SixWallsLaw" 154 (4294967295) ∈ lw_tbl := zt7 (List.mem_of_getElem? (i := 79) rfl)
end
section
/-! the world behind both constructors, its references, some more rules -/
def zS0 : List zSh := [(13, 9), (5, 14), (0, 33), (0, 33), (0, 16), (0, 96), (0, 96), (0, 16), (0, 16), (0, 16), (0, 16), (0, 33), (0, 33), (0, 33), (8, 11), (0, 120), (0, 121), (0, 121), (0, 121), (0, 121), (0, 121), (12, 8), (0, 16), (0, 16), (0, 33), (0, 16), (0, 33), (9, 4), (0, 33), (0, 16), (0, 33), (11, 3), (0, 16), (0, 16), (6, 4), (0, 16), (0, 16), (7, 7), (0, 40), (0, 40), (0, 40), (0, 40), (4, 5), (0, 50), (0, 24), (10, 4), (0, 6), (0, 6), (0, 6), (3, 6), (2, 60), (2, 60), (2, 60), (2, 60), (2, 60), (2, 60), (14, 44), (0, 133), (0, 40), (0, 40), (0, 40), (0, 33), (0, 33), (0, 16), (1, 16), (0, 120), (0, 120), (0, 5), (0, 16), (0, 16), (0, 33), (0, 33), (0, 33), (0, 33), (0, 16), (0, 33), (0, 16), (1, 16), (0, 50), (0, 24), (0, 6), (0, 6), (2, 360), (2, 60)]
theorem shp0 : zS0[0]? = some (13, 9) := rfl
theorem shp1 : zS0[1]? = some (5, 14) := rfl
theorem shp2 : zS0[2]? = some (0, 33) := rfl
theorem shp3 : zS0[3]? = some (0, 33) := rfl
theorem shp4 : zS0[4]? = some (0, 16) := rfl
theorem shp5 : zS0[5]? = some (0, 96) := rfl
theorem shp6 : zS0[6]? = some (0, 96) := rfl
theorem shp7 : zS0[7]? = some (0, 16) := rfl
theorem shp8 : zS0[8]? = some (0, 16) := rfl
theorem shp9 : zS0[9]? = some (0, 16) := rfl
theorem shp10 : zS0[10]? = some (0, 16) := rfl
theorem shp11 : zS0[11]? = some (0, 33) := rfl
theorem shp12 : zS0[12]? = some (0, 33) := rfl
theorem shp13 : zS0[13]? = some (0, 33) := rfl
theorem shp14 : zS0[14]? = some (8, 11) := rfl
theorem shp15 : zS0[15]? = some (0, 120) := rfl
theorem shp16 : zS0[16]? = some (0, 121) := rfl
theorem shp17 : zS0[17]? = some (0, 121) := rfl
theorem shp18 : zS0[18]? = some (0, 121) := rfl
theorem shp19 : zS0[19]? = some (0, 121) := rfl
theorem shp20 : zS0[20]? = some (0, 121) := rfl
theorem shp21 : zS0[21]? = some (12, 8) := rfl
theorem shp22 : zS0[22]? = some (0, 16) := rfl
theorem shp23 : zS0[23]? = some (0, 16) := rfl
theorem shp24 : zS0[24]? = some (0, 33) := rfl
theorem shp25 : zS0[25]? = some (0, 16) := rfl
theorem shp26 : zS0[26]? = some (0, 33) := rfl
theorem shp27 : zS0[27]? = some (9, 4) := rfl
theorem shp28 : zS0[28]? = some (0, 33) := rfl
theorem shp29 : zS0[29]? = some (0, 16) := rfl
theorem shp30 : zS0[30]? = some (0, 33) := rfl
theorem shp31 : zS0[31]? = some (11, 3) := rfl
theorem shp32 : zS0[32]? = some (0, 16) := rfl
theorem shp33 : zS0[33]? = some (0, 16) := rfl
theorem shp34 : zS0[34]? = some (6, 4) := rfl
theorem shp35 : zS0[35]? = some (0, 16) := rfl
theorem shp36 : zS0[36]? = some (0, 16) := rfl
theorem shp37 : zS0[37]? = some (7, 7) := rfl
theorem shp38 : zS0[38]? = some (0, 40) := rfl
theorem shp39 : zS0[39]? = some (0, 40) := rfl
theorem shp40 : zS0[40]? = some (0, 40) := rfl
theorem shp41 : zS0[41]? = some (0, 40) := rfl
theorem shp42 : zS0[42]? = some (4, 5) := rfl
theorem shp43 : zS0[43]? = some (0, 50) := rfl
theorem shp44 : zS0[44]? = some (0, 24) := rfl
theorem shp45 : zS0[45]? = some (10, 4) := rfl
theorem shp46 : zS0[46]? = some (0, 6) := rfl
theorem shp47 : zS0[47]? = some (0, 6) := rfl
theorem shp48 : zS0[48]? = some (0, 6) := rfl
theorem shp49 : zS0[49]? = some (3, 6) := rfl
theorem shp50 : zS0[50]? = some (2, 60) := rfl
theorem shp51 : zS0[51]? = some (2, 60) := rfl
theorem shp52 : zS0[52]? = some (2, 60) := rfl
theorem shp53 : zS0[53]? = some (2, 60) := rfl
theorem shp54 : zS0[54]? = some (2, 60) := rfl
theorem shp55 : zS0[55]? = some (2, 60) := rfl
theorem shp56 : zS0[56]? = some (14, 44) := rfl
theorem shp57 : zS0[57]? = some (0, 133) := rfl
theorem shp58 : zS0[58]? = some (0, 40) := rfl
theorem shp59 : zS0[59]? = some (0, 40) := rfl
theorem shp60 : zS0[60]? = some (0, 40) := rfl
theorem shp61 : zS0[61]? = some (0, 33) := rfl
theorem shp62 : zS0[62]? = some (0, 33) := rfl
theorem shp63 : zS0[63]? = some (0, 16) := rfl
theorem shp64 : zS0[64]? = some (1, 16) := rfl
theorem shp65 : zS0[65]? = some (0, 120) := rfl
theorem shp66 : zS0[66]? = some (0, 120) := rfl
theorem shp67 : zS0[67]? = some (0, 5) := rfl
theorem shp68 : zS0[68]? = some (0, 16) := rfl
theorem shp69 : zS0[69]? = some (0, 16) := rfl
theorem shp70 : zS0[70]? = some (0, 33) := rfl
theorem shp71 : zS0[71]? = some (0, 33) := rfl
theorem shp72 : zS0[72]? = some (0, 33) := rfl
theorem shp73 : zS0[73]? = some (0, 33) := rfl
theorem shp74 : zS0[74]? = some (0, 16) := rfl
theorem shp75 : zS0[75]? = some (0, 33) := rfl
theorem shp76 : zS0[76]? = some (0, 16) := rfl
theorem shp77 : zS0[77]? = some (1, 16) := rfl
theorem shp78 : zS0[78]? = some (0, 50) := rfl
theorem shp79 : zS0[79]? = some (0, 24) := rfl
theorem shp80 : zS0[80]? = some (0, 6) := rfl
theorem shp81 : zS0[81]? = some (0, 6) := rfl
theorem shp82 : zS0[82]? = some (2, 360) := rfl
theorem shp83 : zS0[83]? = some (2, 60) := rfl
def ztab : List (Int × Int × Int) := [((-10), 0, 1), ((-10), 1, 14), ((-10), 2, 21), ((-10), 3, 27), ((-10), 4, 31), ((-10), 5, 34), ((-10), 6, 37), ((-10), 7, 42), ((-10), 8, 45), ((-11), 0, 2), ((-11), 1, 3), ((-11), 2, 4), ((-11), 3, 5), ((-11), 4, 6), ((-11), 5, 7), ((-11), 6, 8), ((-11), 7, 9), ((-11), 8, 10), ((-11), 9, 11), ((-11), 10, 12), ((-11), 11, 13), ((-24), 0, 15), ((-24), 10, 20), ((-31), 0, 1), ((-31), 1, 14), ((-31), 2, 22), ((-31), 3, 23), ((-31), 4, 24), ((-31), 5, 25), ((-31), 6, 26), ((-37), 0, 1), ((-37), 1, 28), ((-37), 2, 29), ((-37), 3, 30), ((-41), 0, 1), ((-41), 1, 32), ((-41), 2, 33), ((-44), 0, 1), ((-44), 1, 35), ((-44), 2, 36), ((-47), 0, 1), ((-47), 1, 38), ((-47), 2, 39), ((-47), 3, 40), ((-47), 4, 41), ((-52), 0, 43), ((-52), 2, 44), ((-55), 0, 46), ((-55), 1, 47), ((-55), 2, 48), ((-55), 3, 49), ((-59), 0, 50), ((-59), 1, 51), ((-59), 2, 52), ((-59), 3, 53), ((-59), 4, 54), ((-59), 5, 55), ((-66), 0, 57), ((-66), 1, 58), ((-66), 2, 59), ((-66), 3, 60), ((-66), 7, 61), ((-66), 8, 62), ((-66), 9, 63), ((-66), 10, 64), ((-66), 11, 65), ((-66), 13, 66), ((-66), 20, 67), ((-66), 21, 68), ((-66), 22, 69), ((-66), 23, 70), ((-66), 24, 71), ((-66), 26, 72), ((-66), 27, 73), ((-66), 28, 74), ((-66), 30, 75), ((-66), 32, 76), ((-66), 33, 77), ((-66), 35, 78), ((-66), 36, 79), ((-66), 40, 80), ((-66), 41, 81), ((-66), 42, 82), ((-66), 43, 83)]
def zP (M : zMm) : Prop := ∀ q ∈ ztab, M q.1 q.2.1 = q.2.2
theorem zPa {M : zMm} (h : zP M) (i : Nat) {a b c : Int} (hi : ztab[i]? = some (a, b, c)) : M a b = c := h (a, b, c) (List.mem_of_getElem? hi)
theorem ztab_neg : ∀ q ∈ ztab, q.1 < -5 := by decide +kernel
theorem zP_of {M M' : zMm} (h : zP M) (hn : ∀ r : Int, r < 0 → M' r = M r) : zP M' := fun q hq => by rw [hn q.1 (by have := ztab_neg q hq; omega)]; exact h q hq
theorem zP_up {M : zMm} {c k v : Int} (h : zP M) (hc : 0 ≤ c) : zP (zup M c k v) := zP_of h fun r hr => zup_row (by omega)
theorem zP_cpy {M : zMm} {r0 i r1 j n : Int} (h : zP M) (hc : 0 ≤ r1) : zP (zcpy M r0 i r1 j n) := zP_of h fun r hr => zcpy_row (by omega)
theorem zoi1 : Cond.instanceMethod objectInit ∈ lw_tbl := zt1 (List.mem_of_getElem? (i := 22) rfl)
theorem zoi2 : Cond.code objectInit ⟨#[0xb1]⟩ 1 none ∈ lw_tbl := zt1 (List.mem_of_getElem? (i := 23) rfl)
theorem zcp1 : Cond.native arraycopyName ∈ lw_tbl := zt2 (List.mem_of_getElem? (i := 165) rfl)
theorem zcp2 : Cond.static arraycopyName ∈ lw_tbl := zt2 (List.mem_of_getElem? (i := 164) rfl)
theorem zcp3 : Cond.initialized "java/lang/System" ∈ lw_tbl := zt1 (List.mem_of_getElem? (i := 13) rfl)
section
variable {y : zM} {d : Nat} {Q : zPost} {b : Nat × Nat} {S : List zSh} {pc : Nat} {L : List (Nat × zV)} {st : List zV} {M : zMm}
theorem zms_max : Cond.static Lib.Math.max.name ∈ lw_tbl := zt2 (List.mem_of_getElem? (i := 194) rfl)
theorem zmc_max : Cond.code Lib.Math.max.name Lib.Math.max.code 2 (some .int) ∈ lw_tbl := zt2 (List.mem_of_getElem? (i := 195) rfl)
theorem z_mmax {x x' : Int} {idx : Nat} (hd : decode y.2.1 pc = .ok (.invokestatic idx, 3)) (hlink : Cond.methodLink y.1.cls idx Lib.Math.max.name ∈ lw_tbl) (hd1 : 1 ≤ d) (hsum : (st.map fun v => if zcat2 v = true then 2 else 1).sum ≤ 8) (kk : zW y d Q b S (pc + 3) L (.inl (if x < x' then x' else x) :: st) M) : zW y d Q b S pc L (.inl x' :: .inl x :: st) M := by
  intro p l e R s m args below meth c D cA ad0 n0 Mn A Z hE hR ad H locs cells slots ls hW hL hs
  have k := kk p l e R s m args below meth c D cA ad0 n0 Mn A Z hE hR ad H locs cells slots ls hW hL (zc_cons (by split; exact zc_hd hs; exact zc_hd (zc_tl hs)) (zc_tl (zc_tl hs)))
  rw [List.map_cons, List.map_cons, zc_int, zc_int]
  have hf := hE.2.2.2.2.2.1
  have hlo := hE.2.2.2.2.2.2.1
  refine va_mmax hE.1 hE.2.1 (by rw [hE.2.2.1]; exact hL.1.1.symm) hE.2.2.2.1 (hE.2.2.2.2.1 _ (zT hlink rfl)) (hE.2.2.2.2.1 _ (zT zms_max rfl)) (hE.2.2.2.2.1 _ (zT zini_JMath rfl)) (hE.2.2.2.2.1 _ (zT zmc_max rfl)) (by omega) (by rw [zcat_sum]; omega) (by have := hW.2.2.2.2.2.2.1; omega) (by have := hW.2.2.2.2.2.2.2.1; omega) hd ?_
  have e1 : Value.int (if Int32.ofInt x < Int32.ofInt x' then Int32.ofInt x' else Int32.ofInt x) = zc ad (.inl (if x < x' then x' else x)) := by
    have hlt : Int32.ofInt x < Int32.ofInt x' ↔ x < x' := zi_lt (zc_hd (zc_tl hs)) (zc_hd hs)
    by_cases hc : x < x'
    · rw [if_pos hc, if_pos (hlt.mpr hc)]; rfl
    · rw [if_neg hc, if_neg (fun q => hc (hlt.mp q))]; rfl
  rw [e1]
  exact k
theorem zms_min : Cond.static Lib.Math.min.name ∈ lw_tbl := zt2 (List.mem_of_getElem? (i := 197) rfl)
theorem zmc_min : Cond.code Lib.Math.min.name Lib.Math.min.code 2 (some .int) ∈ lw_tbl := zt2 (List.mem_of_getElem? (i := 198) rfl)
theorem z_mmin {x x' : Int} {idx : Nat} (hd : decode y.2.1 pc = .ok (.invokestatic idx, 3)) (hlink : Cond.methodLink y.1.cls idx Lib.Math.min.name ∈ lw_tbl) (hd1 : 1 ≤ d) (hsum : (st.map fun v => if zcat2 v = true then 2 else 1).sum ≤ 8) (kk : zW y d Q b S (pc + 3) L (.inl (if x' < x then x' else x) :: st) M) : zW y d Q b S pc L (.inl x' :: .inl x :: st) M := by
  intro p l e R s m args below meth c D cA ad0 n0 Mn A Z hE hR ad H locs cells slots ls hW hL hs
  have k := kk p l e R s m args below meth c D cA ad0 n0 Mn A Z hE hR ad H locs cells slots ls hW hL (zc_cons (by split; exact zc_hd hs; exact zc_hd (zc_tl hs)) (zc_tl (zc_tl hs)))
  rw [List.map_cons, List.map_cons, zc_int, zc_int]
  have hf := hE.2.2.2.2.2.1
  have hlo := hE.2.2.2.2.2.2.1
  refine va_mmin hE.1 hE.2.1 (by rw [hE.2.2.1]; exact hL.1.1.symm) hE.2.2.2.1 (hE.2.2.2.2.1 _ (zT hlink rfl)) (hE.2.2.2.2.1 _ (zT zms_min rfl)) (hE.2.2.2.2.1 _ (zT zini_JMath rfl)) (hE.2.2.2.2.1 _ (zT zmc_min rfl)) (by omega) (by rw [zcat_sum]; omega) (by have := hW.2.2.2.2.2.2.1; omega) (by have := hW.2.2.2.2.2.2.2.1; omega) hd ?_
  have e1 : Value.int (if Int32.ofInt x' < Int32.ofInt x then Int32.ofInt x' else Int32.ofInt x) = zc ad (.inl (if x' < x then x' else x)) := by
    have hlt : Int32.ofInt x' < Int32.ofInt x ↔ x' < x := zi_lt (zc_hd hs) (zc_hd (zc_tl hs))
    by_cases hc : x' < x
    · rw [if_pos hc, if_pos (hlt.mpr hc)]; rfl
    · rw [if_neg hc, if_neg (fun q => hc (hlt.mp q))]; rfl
  rw [e1]
  exact k
theorem zms_abs : Cond.static Lib.Math.abs.name ∈ lw_tbl := zt1 (List.mem_of_getElem? (i := 38) rfl)
theorem zmc_abs : Cond.code Lib.Math.abs.name Lib.Math.abs.code 1 (some .int) ∈ lw_tbl := zt1 (List.mem_of_getElem? (i := 39) rfl)
theorem z_mabs {x : Int} {idx : Nat} (hd : decode y.2.1 pc = .ok (.invokestatic idx, 3)) (hlink : Cond.methodLink y.1.cls idx Lib.Math.abs.name ∈ lw_tbl) (hd1 : 1 ≤ d) (hsum : (st.map fun v => if zcat2 v = true then 2 else 1).sum ≤ 8) (hr : -2147483648 < x) (kk : zW y d Q b S (pc + 3) L (.inl (if 0 ≤ x then x else -x) :: st) M) : zW y d Q b S pc L (.inl x :: st) M := by
  intro p l e R s m args below meth c D cA ad0 n0 Mn A Z hE hR ad H locs cells slots ls hW hL hs
  have h32 : z32 x := zc_hd hs
  have k := kk p l e R s m args below meth c D cA ad0 n0 Mn A Z hE hR ad H locs cells slots ls hW hL (zc_cons (by show z32 _; unfold z32 at *; split <;> omega) (zc_tl hs))
  rw [List.map_cons, zc_int]
  have hf := hE.2.2.2.2.2.1
  have hlo := hE.2.2.2.2.2.2.1
  refine va_mabs hE.1 hE.2.1 (by rw [hE.2.2.1]; exact hL.1.1.symm) hE.2.2.2.1 (hE.2.2.2.2.1 _ (zT hlink rfl)) (hE.2.2.2.2.1 _ (zT zms_abs rfl)) (hE.2.2.2.2.1 _ (zT zini_JMath rfl)) (hE.2.2.2.2.1 _ (zT zmc_abs rfl)) (by omega) (by rw [zcat_sum]; omega) (by have := hW.2.2.2.2.2.2.1; omega) (by have := hW.2.2.2.2.2.2.2.1; omega) hd ?_
  have e1 : Value.int (if 0 ≤ Int32.ofInt x then Int32.ofInt x else 0 - Int32.ofInt x) = zc ad (.inl (if 0 ≤ x then x else -x)) := by
    have hlt : (0 : Int32) ≤ Int32.ofInt x ↔ 0 ≤ x := by rw [show (0 : Int32) = Int32.ofInt 0 from rfl, zi_le (by unfold z32; omega) h32]
    by_cases hc : 0 ≤ x
    · rw [if_pos hc, if_pos (hlt.mpr hc)]; rfl
    · rw [if_neg hc, if_neg (fun q => hc (hlt.mp q))]
      show Value.int (0 - Int32.ofInt x) = Value.int (Int32.ofInt (-x))
      rw [show (0 : Int32) = Int32.ofInt 0 from rfl, ← Int32.ofInt_sub, Int.zero_sub]
  rw [e1]
  exact k
theorem z_idivp {x x' : Int} (hd : decode y.2.1 pc = .ok (.idiv, 1)) (hx : 0 ≤ x) (hx' : 0 < x') (kk : zW y d Q b S (pc + 1) L (.inl (x / x') :: st) M) : zW y d Q b S pc L (.inl x' :: .inl x :: st) M := by
  refine z_can fun _ _ hs => z_idivw hd (by omega) ?_
  have h32 : z32 x := zc_hd (zc_tl hs)
  have e1 : zw (x.tdiv x') = x / x' := by
    rw [Int.tdiv_eq_ediv_of_nonneg hx]
    have h1 : 0 ≤ x / x' := Int.ediv_nonneg hx (by omega)
    have h2 : x / x' ≤ x := Int.ediv_le_self x' hx
    exact zw_id (by unfold z32 at *; omega)
  rw [e1]
  exact kk
theorem z_iremp {x x' : Int} (hd : decode y.2.1 pc = .ok (.irem, 1)) (hx : 0 ≤ x) (hx' : 0 < x') (kk : zW y d Q b S (pc + 1) L (.inl (x % x') :: st) M) : zW y d Q b S pc L (.inl x' :: .inl x :: st) M := by
  refine z_can fun _ _ hs => z_iremw hd (by omega) ?_
  have h32 : z32 x' := zc_hd hs
  have e1 : zw (x.tmod x') = x % x' := by
    rw [Int.tmod_eq_emod_of_nonneg hx]
    have h1 : 0 ≤ x % x' := Int.emod_nonneg x (by omega)
    have h2 : x % x' < x' := Int.emod_lt_of_pos x hx'
    exact zw_id (by unfold z32 at *; omega)
  rw [e1]
  exact kk
end
end
section
/-! the comb in numbers; contracts of the small tests of SixWalls and of Comb -/
theorem zri {x y : Int} (h : x = y) : some (Sum.inl x : zV) = some (.inl y) := by rw [h]
def zb (p : Prop) [Decidable p] : Int := if p then 1 else 0
theorem zb1 {p : Prop} [Decidable p] (h : p) : zb p = 1 := if_pos h
theorem zb0 {p : Prop} [Decidable p] (h : ¬ p) : zb p = 0 := if_neg h
theorem zb_eq0 {p : Prop} [Decidable p] : zb p = 0 ↔ ¬ p := by unfold zb; split <;> simp_all
theorem zb_ne0 {p : Prop} [Decidable p] : zb p ≠ 0 ↔ p := by unfold zb; split <;> simp_all
def zlowL : List Int := [0, 0, 1, 1, 1, 2, 2, 2, 3, 3, 4, 4, 4, 5, 5, 5, 6, 6, 6, 7, 8, 8, 9, 9, 9, 10, 10, 10, 11, 11, 12, 13, 14]
def zhighL : List Int := [1, 4, 2, 4, 5, 3, 5, 6, 6, 7, 5, 8, 9, 6, 9, 10, 7, 10, 11, 11, 9, 12, 10, 12, 13, 11, 13, 14, 14, 15, 13, 14, 15]
def zsidL : List Int := [2, 4, 4, 3, 5, 6, 6, 3, 3, 6, 6, 5, 3, 4, 4, 2]
def zwatL : List Int := [0, 1, 0, 0, 0, 0, 0, 2, 3, 4, 0, 0, 2, 5, 6, 7, 0, 0, 5, 8, 9, 0, 0, 0, 1, 3, 10, 11, 12, 0, 4, 6, 10, 13, 14, 15, 7, 8, 13, 16, 17, 18, 9, 16, 19, 0, 0, 0, 11, 20, 21, 0, 0, 0, 12, 14, 20, 22, 23, 24, 15, 17, 22, 25, 26, 27, 18, 19, 25, 28, 29, 0, 21, 23, 30, 0, 0, 0, 24, 26, 30, 31, 0, 0, 27, 28, 31, 32, 0, 0, 29, 32, 0, 0, 0, 0]
def znatL : List Int := [1, 4, 0, 0, 0, 0, 0, 2, 4, 5, 0, 0, 1, 3, 5, 6, 0, 0, 2, 6, 7, 0, 0, 0, 0, 1, 5, 8, 9, 0, 1, 2, 4, 6, 9, 10, 2, 3, 5, 7, 10, 11, 3, 6, 11, 0, 0, 0, 4, 9, 12, 0, 0, 0, 4, 5, 8, 10, 12, 13, 5, 6, 9, 11, 13, 14, 6, 7, 10, 14, 15, 0, 8, 9, 13, 0, 0, 0, 9, 10, 12, 14, 0, 0, 10, 11, 13, 15, 0, 0, 11, 14, 0, 0, 0, 0]
def zlow (w : Int) : Int := zlowL.getD w.toNat 0
def zhigh (w : Int) : Int := zhighL.getD w.toNat 0
def zsid (h : Int) : Int := zsidL.getD h.toNat 0
def zwat (k : Int) : Int := zwatL.getD k.toNat 0
def znat (k : Int) : Int := znatL.getD k.toNat 0
theorem zgetD {l : List Int} {P : Int → Prop} (h : ∀ x ∈ l, P x) (h0 : P 0) (n : Nat) : P (l.getD n 0) := by
  rw [List.getD_eq_getElem?_getD]
  cases e : l[n]? with
  | none => exact h0
  | some x => exact h x (List.mem_of_getElem? e)
theorem zlow_b (w : Int) : 0 ≤ zlow w ∧ zlow w < 16 := zgetD (P := fun x => 0 ≤ x ∧ x < 16) (by decide) (by decide) _
theorem zhigh_b (w : Int) : 0 ≤ zhigh w ∧ zhigh w < 16 := zgetD (P := fun x => 0 ≤ x ∧ x < 16) (by decide) (by decide) _
theorem zsid_b (h : Int) : 0 ≤ zsid h ∧ zsid h ≤ 6 := zgetD (P := fun x => 0 ≤ x ∧ x ≤ 6) (by decide) (by decide) _
theorem zwat_b (k : Int) : 0 ≤ zwat k ∧ zwat k < 33 := zgetD (P := fun x => 0 ≤ x ∧ x < 33) (by decide) (by decide) _
theorem znat_b (k : Int) : 0 ≤ znat k ∧ znat k < 16 := zgetD (P := fun x => 0 ≤ x ∧ x < 16) (by decide) (by decide) _
/-- the comb of the class, as its constructor laid it -/
def zG (M : zMm) : Prop := (∀ w : Int, 0 ≤ w → w < 33 → M 2 w = zlow w ∧ M 3 w = zhigh w) ∧ (∀ h : Int, 0 ≤ h → h < 16 → M 4 h = zsid h) ∧ ∀ k : Int, 0 ≤ k → k < 96 → M 5 k = zwat k ∧ M 6 k = znat k
theorem zG.low {M : zMm} (h : zG M) {w : Int} (h0 : 0 ≤ w) (h1 : w < 33) : M 2 w = zlow w := (h.1 w h0 h1).1
theorem zG.high {M : zMm} (h : zG M) {w : Int} (h0 : 0 ≤ w) (h1 : w < 33) : M 3 w = zhigh w := (h.1 w h0 h1).2
theorem zG.sid {M : zMm} (h : zG M) {w : Int} (h0 : 0 ≤ w) (h1 : w < 16) : M 4 w = zsid w := h.2.1 w h0 h1
theorem zG.wat {M : zMm} (h : zG M) {w : Int} (h0 : 0 ≤ w) (h1 : w < 96) : M 5 w = zwat w := (h.2.2 w h0 h1).1
theorem zG.nat {M : zMm} (h : zG M) {w : Int} (h0 : 0 ≤ w) (h1 : w < 96) : M 6 w = znat w := (h.2.2 w h0 h1).2
/-- what is told of houses and walls, in its bounds -/
def zRg (M : zMm) : Prop := (∀ h : Int, 0 ≤ h → h < 16 → (0 ≤ M 7 h ∧ M 7 h ≤ 1) ∧ (0 ≤ M 8 h ∧ M 8 h ≤ 9) ∧ (0 ≤ M 9 h ∧ M 9 h ≤ 99) ∧ (0 ≤ M 10 h ∧ M 10 h ≤ 9)) ∧ (∀ w : Int, 0 ≤ w → w < 33 → (0 ≤ M 11 w ∧ M 11 w ≤ 9) ∧ (0 ≤ M 12 w ∧ M 12 w ≤ 1) ∧ (0 ≤ M 13 w ∧ M 13 w ≤ 5)) ∧ (0 ≤ M 1 12 ∧ M 1 12 ≤ 9) ∧ (6 ≤ M 1 13 ∧ M 1 13 ≤ 54)
/-- a number built up over 0 .. i -/
def zfold {α : Type} (g : α → Int → α) (a : α) : Nat → α
  | 0 => a
  | n + 1 => g (zfold g a n) n
def zfo {α : Type} (g : α → Int → α) (a : α) (i : Int) : α := zfold g a i.toNat
theorem zfo_0 {α : Type} (g : α → Int → α) (a : α) : zfo g a 0 = a := rfl
theorem zfo_s {α : Type} (g : α → Int → α) (a : α) {i : Int} (h : 0 ≤ i) : zfo g a (i + 1) = g (zfo g a i) i := by
  unfold zfo
  rw [show (i + 1).toNat = i.toNat + 1 by omega]
  show g (zfold g a i.toNat) (i.toNat : Nat) = _
  rw [Int.toNat_of_nonneg h]
theorem zfo_c {α : Type} {g g' : α → Int → α} {a : α} {n : Int} (h : ∀ x i, 0 ≤ i → i < n → g x i = g' x i) : zfo g a n = zfo g' a n := by
  have : ∀ k : Nat, (k : Int) ≤ n → zfold g a k = zfold g' a k := by
    intro k
    induction k with
    | zero => intro _; rfl
    | succ k ih =>
      intro hk
      show g (zfold g a k) k = g' (zfold g' a k) k
      rw [ih (by omega), h _ _ (by omega) (by omega)]
  by_cases hn : 0 ≤ n
  · exact this n.toNat (by omega)
  · unfold zfo
    rw [show n.toNat = 0 by omega]
    rfl
def zsum (f : Int → Int) (n : Int) : Int := zfo (fun a i => a + f i) 0 n
theorem zsum_s (f : Int → Int) {i : Int} (h : 0 ≤ i) : zsum f (i + 1) = zsum f i + f i := zfo_s _ _ h
set_option maxHeartbeats 4000000 in
theorem cX9_within {M : zMm} (v a b : Int) : zW mX9_within 1 (fun rv S' M' => S' = zS0 ∧ M = M' ∧ rv = some (.inl (zb (a ≤ v ∧ v ≤ b)))) (0, 0) zS0 0 (zargs 0 [.inl v, .inl a, .inl b]) [] M := by
  change zW _ _ _ _ _ 0 [(0, .inl v), (1, .inl a), (2, .inl b)] [] M
  refine z_iload_n 0 (zdec DX9_within 0 rfl) rfl rfl ?_
  refine z_iload_n 1 (zdec DX9_within 1 rfl) rfl rfl ?_
  refine z_icmp_lt 14 (zdec DX9_within 2 rfl) rfl (fun h2 => ?_) (fun h2 => ?_)
  ·
    refine z_iconst 0 (zdec DX9_within 8 rfl) (by decide) ?_
    exact z_zret (zdec DX9_within 9 rfl) rfl (by omega) (⟨rfl, rfl, zri (by unfold zb; split <;> omega)⟩)
  ·
    refine z_iload_n 0 (zdec DX9_within 3 rfl) rfl rfl ?_
    refine z_iload_n 2 (zdec DX9_within 4 rfl) rfl rfl ?_
    refine z_icmp_gt 14 (zdec DX9_within 5 rfl) rfl (fun h7 => ?_) (fun h7 => ?_)
    ·
      refine z_iconst 0 (zdec DX9_within 8 rfl) (by decide) ?_
      exact z_zret (zdec DX9_within 9 rfl) rfl (by omega) (⟨rfl, rfl, zri (by unfold zb; split <;> omega)⟩)
    ·
      refine z_iconst 1 (zdec DX9_within 6 rfl) (by decide) ?_
      refine z_goto 15 (zdec DX9_within 7 rfl) rfl ?_
      exact z_zret (zdec DX9_within 9 rfl) rfl (by omega) (⟨rfl, rfl, zri (by unfold zb; split <;> omega)⟩)
set_option maxHeartbeats 4000000 in
theorem cX9_isHouse {M : zMm} (v : Int) : zW mX9_isHouse 2 (fun rv S' M' => S' = zS0 ∧ M = M' ∧ rv = some (.inl (zb (0 ≤ v ∧ v < 16)))) (0, 0) zS0 0 (zargs 0 [.inl v]) [] M := by
  change zW _ _ _ _ _ 0 [(0, .inl v)] [] M
  refine z_iload_n 0 (zdec DX9_isHouse 0 rfl) rfl rfl ?_
  refine z_iconst 0 (zdec DX9_isHouse 1 rfl) (by decide) ?_
  refine z_bipush 15 (zdec DX9_isHouse 2 rfl) (by decide) ?_
  refine z_invs mX9_within [.inl v, .inl 0, .inl 15] (zdec DX9_isHouse 3 rfl) (Or.inl ml_SixWalls_76) okX9_within rfl rfl (Nat.le_of_ble_eq_true rfl) (Nat.le_of_ble_eq_true rfl) (b' := (0, 0)) ⟨Nat.le_refl 0, Nat.le_refl 0⟩ (Nat.le_of_ble_eq_true rfl) (cX9_within v 0 15) (fun rv9 S9 M4 h9 => ?_)
  obtain ⟨rfl, rfl, rfl⟩ := h9
  change zW _ _ _ _ _ 7 [(0, .inl v)] [.inl (zb (0 ≤ v ∧ v ≤ 15))] M
  exact z_zret (zdec DX9_isHouse 4 rfl) rfl (by unfold zb; split <;> omega) (⟨rfl, rfl, zri (by unfold zb; split <;> split <;> omega)⟩)
set_option maxHeartbeats 4000000 in
theorem cX9_isWall {M : zMm} (v : Int) : zW mX9_isWall 2 (fun rv S' M' => S' = zS0 ∧ M = M' ∧ rv = some (.inl (zb (0 ≤ v ∧ v < 33)))) (0, 0) zS0 0 (zargs 0 [.inl v]) [] M := by
  change zW _ _ _ _ _ 0 [(0, .inl v)] [] M
  refine z_iload_n 0 (zdec DX9_isWall 0 rfl) rfl rfl ?_
  refine z_iconst 0 (zdec DX9_isWall 1 rfl) (by decide) ?_
  refine z_bipush 32 (zdec DX9_isWall 2 rfl) (by decide) ?_
  refine z_invs mX9_within [.inl v, .inl 0, .inl 32] (zdec DX9_isWall 3 rfl) (Or.inl ml_SixWalls_76) okX9_within rfl rfl (Nat.le_of_ble_eq_true rfl) (Nat.le_of_ble_eq_true rfl) (b' := (0, 0)) ⟨Nat.le_refl 0, Nat.le_refl 0⟩ (Nat.le_of_ble_eq_true rfl) (cX9_within v 0 32) (fun rv9 S9 M4 h9 => ?_)
  obtain ⟨rfl, rfl, rfl⟩ := h9
  change zW _ _ _ _ _ 7 [(0, .inl v)] [.inl (zb (0 ≤ v ∧ v ≤ 32))] M
  exact z_zret (zdec DX9_isWall 4 rfl) rfl (by unfold zb; split <;> omega) (⟨rfl, rfl, zri (by unfold zb; split <;> split <;> omega)⟩)
set_option maxHeartbeats 4000000 in
theorem cX9_isThought {M : zMm} (v : Int) : zW mX9_isThought 2 (fun rv S' M' => S' = zS0 ∧ M = M' ∧ rv = some (.inl (zb (0 ≤ v ∧ v < 31)))) (0, 0) zS0 0 (zargs 0 [.inl v]) [] M := by
  change zW _ _ _ _ _ 0 [(0, .inl v)] [] M
  refine z_iload_n 0 (zdec DX9_isThought 0 rfl) rfl rfl ?_
  refine z_iconst 0 (zdec DX9_isThought 1 rfl) (by decide) ?_
  refine z_bipush 30 (zdec DX9_isThought 2 rfl) (by decide) ?_
  refine z_invs mX9_within [.inl v, .inl 0, .inl 30] (zdec DX9_isThought 3 rfl) (Or.inl ml_SixWalls_76) okX9_within rfl rfl (Nat.le_of_ble_eq_true rfl) (Nat.le_of_ble_eq_true rfl) (b' := (0, 0)) ⟨Nat.le_refl 0, Nat.le_refl 0⟩ (Nat.le_of_ble_eq_true rfl) (cX9_within v 0 30) (fun rv9 S9 M4 h9 => ?_)
  obtain ⟨rfl, rfl, rfl⟩ := h9
  change zW _ _ _ _ _ 7 [(0, .inl v)] [.inl (zb (0 ≤ v ∧ v ≤ 30))] M
  exact z_zret (zdec DX9_isThought 4 rfl) rfl (by unfold zb; split <;> omega) (⟨rfl, rfl, zri (by unfold zb; split <;> split <;> omega)⟩)
set_option maxHeartbeats 4000000 in
theorem cX9_isPair {M : zMm} (v : Int) : zW mX9_isPair 3 (fun rv S' M' => S' = zS0 ∧ M = M' ∧ rv = some (.inl (zb (0 ≤ v ∧ v / 100 < 16 ∧ v % 100 < 16)))) (0, 0) zS0 0 (zargs 0 [.inl v]) [] M := by
  change zW _ _ _ _ _ 0 [(0, .inl v)] [] M
  refine z_iload_n 0 (zdec DX9_isPair 0 rfl) rfl rfl ?_
  refine z_if_lt 28 (zdec DX9_isPair 1 rfl) rfl (fun h1 => ?_) (fun h1 => ?_)
  ·
    refine z_iconst 0 (zdec DX9_isPair 14 rfl) (by decide) ?_
    exact z_zret (zdec DX9_isPair 15 rfl) rfl (by omega) (⟨rfl, rfl, zri (by (try simp only [zb_ne0, zb_eq0] at *); unfold zb; split <;> omega)⟩)
  ·
    refine z_iload_n 0 (zdec DX9_isPair 2 rfl) rfl rfl ?_
    refine z_bipush 100 (zdec DX9_isPair 3 rfl) (by decide) ?_
    refine z_idivp (zdec DX9_isPair 4 rfl) (by omega) (by omega) ?_
    refine z_invs mX9_isHouse [.inl (v / 100)] (zdec DX9_isPair 5 rfl) (Or.inl ml_SixWalls_80) okX9_isHouse rfl rfl (Nat.le_of_ble_eq_true rfl) (Nat.le_of_ble_eq_true rfl) (b' := (0, 0)) ⟨Nat.le_refl 0, Nat.le_refl 0⟩ (Nat.le_of_ble_eq_true rfl) (cX9_isHouse (v / 100)) (fun rv9 S9 M8 h9 => ?_)
    obtain ⟨rfl, rfl, rfl⟩ := h9
    change zW _ _ _ _ _ 11 [(0, .inl v)] [.inl (zb (0 ≤ (v / 100) ∧ (v / 100) < 16))] M
    refine z_if_eq 28 (zdec DX9_isPair 6 rfl) rfl (fun h11 => ?_) (fun h11 => ?_)
    ·
      refine z_iconst 0 (zdec DX9_isPair 14 rfl) (by decide) ?_
      exact z_zret (zdec DX9_isPair 15 rfl) rfl (by omega) (⟨rfl, rfl, zri (by (try simp only [zb_ne0, zb_eq0] at *); unfold zb; split <;> omega)⟩)
    ·
      refine z_iload_n 0 (zdec DX9_isPair 7 rfl) rfl rfl ?_
      refine z_bipush 100 (zdec DX9_isPair 8 rfl) (by decide) ?_
      refine z_iremp (zdec DX9_isPair 9 rfl) (by omega) (by omega) ?_
      refine z_invs mX9_isHouse [.inl (v % 100)] (zdec DX9_isPair 10 rfl) (Or.inl ml_SixWalls_80) okX9_isHouse rfl rfl (Nat.le_of_ble_eq_true rfl) (Nat.le_of_ble_eq_true rfl) (b' := (0, 0)) ⟨Nat.le_refl 0, Nat.le_refl 0⟩ (Nat.le_of_ble_eq_true rfl) (cX9_isHouse (v % 100)) (fun rv9 S9 M18 h9 => ?_)
      obtain ⟨rfl, rfl, rfl⟩ := h9
      change zW _ _ _ _ _ 21 [(0, .inl v)] [.inl (zb (0 ≤ (v % 100) ∧ (v % 100) < 16))] M
      refine z_if_eq 28 (zdec DX9_isPair 11 rfl) rfl (fun h21 => ?_) (fun h21 => ?_)
      ·
        refine z_iconst 0 (zdec DX9_isPair 14 rfl) (by decide) ?_
        exact z_zret (zdec DX9_isPair 15 rfl) rfl (by omega) (⟨rfl, rfl, zri (by (try simp only [zb_ne0, zb_eq0] at *); unfold zb; split <;> omega)⟩)
      ·
        refine z_iconst 1 (zdec DX9_isPair 12 rfl) (by decide) ?_
        refine z_goto 29 (zdec DX9_isPair 13 rfl) rfl ?_
        exact z_zret (zdec DX9_isPair 15 rfl) rfl (by omega) (⟨rfl, rfl, zri (by (try simp only [zb_ne0, zb_eq0] at *); unfold zb; split <;> omega)⟩)
set_option maxHeartbeats 4000000 in
theorem lp_X9_sum_9_10 {Q : zPost} {M : zMm} (hb : ∀ i : Int, 0 ≤ i → i < 16 → 0 ≤ M 9 i ∧ M 9 i ≤ 99) (hx33 : ∀ (a : Int), (a = zsum (M 9) 16) → zW mX9_sum 1 Q (0, 0) zS0 33 [(1, .inl a)] [] M) : ∀ (n : Nat) (a : Int) (i : Int), (16 - i).toNat < n → (0 ≤ i ∧ i ≤ 16 ∧ 0 ≤ a ∧ a ≤ 99 * i ∧ a = zsum (M 9) i) → zW mX9_sum 1 Q (0, 0) zS0 10 [(0, .inr (.inr 9)), (1, .inl a), (2, .inr (.inr 9)), (3, .inl 16), (4, .inl i)] [] M := by
  intro n
  induction n with
  | zero => intro a i hn; exact absurd hn (Nat.not_lt_zero _)
  | succ n ih =>
    intro a i hn hI
    have hb1 := hb i
    refine z_iload 4 (zdec DX9_sum 9 rfl) rfl ?_
    refine z_iload_n 3 (zdec DX9_sum 10 rfl) rfl rfl ?_
    refine z_icmp_ge 33 (zdec DX9_sum 11 rfl) rfl (fun h13 => ?_) (fun h13 => ?_)
    ·
      refine z_weak (L' := [(1, .inl a)]) (by simp) ?_
      exact hx33 a (by rw [hI.2.2.2.2, show i = 16 by omega])
    ·
      refine z_aload_n 2 (zdec DX9_sum 12 rfl) rfl rfl (by decide) ?_
      refine z_iload 4 (zdec DX9_sum 13 rfl) rfl ?_
      refine z_iald 9 (zdec DX9_sum 14 rfl) rfl shp9 ⟨by omega, by omega⟩ ?_
      refine z_istore (L' := [(0, .inr (.inr 9)), (1, .inl a), (2, .inr (.inr 9)), (3, .inl 16), (4, .inl i), (5, .inl (M 9 i))]) (zdec DX9_sum 15 rfl) rfl (by decide) ?_
      refine z_iload_n 1 (zdec DX9_sum 16 rfl) rfl rfl ?_
      refine z_iload 5 (zdec DX9_sum 17 rfl) rfl ?_
      refine z_iadd (zdec DX9_sum 18 rfl) (by unfold z32; omega) ?_
      refine z_istore_n (L' := [(0, .inr (.inr 9)), (1, .inl (a + (M 9 i))), (2, .inr (.inr 9)), (3, .inl 16), (4, .inl i), (5, .inl (M 9 i))]) (zdec DX9_sum 19 rfl) rfl rfl (by decide) ?_
      refine z_iinc (L' := [(0, .inr (.inr 9)), (1, .inl (a + (M 9 i))), (2, .inr (.inr 9)), (3, .inl 16), (4, .inl (i + 1)), (5, .inl (M 9 i))]) 4 (zdec DX9_sum 20 rfl) rfl (by unfold z32; omega) rfl (by decide) ?_
      refine z_goto 10 (zdec DX9_sum 21 rfl) rfl ?_
      refine z_weak (L' := [(0, .inr (.inr 9)), (1, .inl (a + (M 9 i))), (2, .inr (.inr 9)), (3, .inl 16), (4, .inl (i + 1))]) (by simp) ?_
      exact ih (a + (M 9 i)) (i + 1) (by omega) ⟨by omega, by omega, by omega, by omega, by rw [zsum_s _ (by omega), ← hI.2.2.2.2]⟩
set_option maxHeartbeats 4000000 in
theorem cX9_sum_9 {M : zMm} (hb : ∀ i : Int, 0 ≤ i → i < 16 → 0 ≤ M 9 i ∧ M 9 i ≤ 99) : zW mX9_sum 1 (fun rv S' M' => S' = zS0 ∧ M = M' ∧ rv = some (.inl (zsum (M 9) 16))) (0, 0) zS0 0 (zargs 0 [.inr (.inr 9)]) [] M := by
  change zW _ _ _ _ _ 0 [(0, .inr (.inr 9))] [] M
  refine z_iconst 0 (zdec DX9_sum 0 rfl) (by decide) ?_
  refine z_istore_n (L' := [(0, .inr (.inr 9)), (1, .inl 0)]) (zdec DX9_sum 1 rfl) rfl rfl (by decide) ?_
  refine z_aload_n 0 (zdec DX9_sum 2 rfl) rfl rfl (by decide) ?_
  refine z_astore_n (L' := [(0, .inr (.inr 9)), (1, .inl 0), (2, .inr (.inr 9))]) (zdec DX9_sum 3 rfl) rfl (by decide) rfl (by decide) ?_
  refine z_aload_n 2 (zdec DX9_sum 4 rfl) rfl rfl (by decide) ?_
  refine z_alen 9 (zdec DX9_sum 5 rfl) rfl shp9 (by decide) (by decide) ?_
  refine z_istore_n (L' := [(0, .inr (.inr 9)), (1, .inl 0), (2, .inr (.inr 9)), (3, .inl 16)]) (zdec DX9_sum 6 rfl) rfl rfl (by decide) ?_
  refine z_iconst 0 (zdec DX9_sum 7 rfl) (by decide) ?_
  refine z_istore (L' := [(0, .inr (.inr 9)), (1, .inl 0), (2, .inr (.inr 9)), (3, .inl 16), (4, .inl 0)]) (zdec DX9_sum 8 rfl) rfl (by decide) ?_
  refine lp_X9_sum_9_10 hb (hx33 := fun a hx => ?_) _ 0 0 (Nat.lt_succ_self _) ⟨by omega, by omega, by omega, by omega, rfl⟩
  refine z_iload_n 0 (zdec DX9_sum 22 rfl) rfl rfl ?_
  exact z_iret (zdec DX9_sum 23 rfl) rfl (⟨rfl, rfl, zri hx⟩)
set_option maxHeartbeats 4000000 in
theorem lp_X9_sum_7_10 {Q : zPost} {M : zMm} (hb : ∀ i : Int, 0 ≤ i → i < 16 → 0 ≤ M 7 i ∧ M 7 i ≤ 1) (hx33 : ∀ (a : Int), (a = zsum (M 7) 16) → zW mX9_sum 1 Q (0, 0) zS0 33 [(1, .inl a)] [] M) : ∀ (n : Nat) (a : Int) (i : Int), (16 - i).toNat < n → (0 ≤ i ∧ i ≤ 16 ∧ 0 ≤ a ∧ a ≤ 1 * i ∧ a = zsum (M 7) i) → zW mX9_sum 1 Q (0, 0) zS0 10 [(0, .inr (.inr 7)), (1, .inl a), (2, .inr (.inr 7)), (3, .inl 16), (4, .inl i)] [] M := by
  intro n
  induction n with
  | zero => intro a i hn; exact absurd hn (Nat.not_lt_zero _)
  | succ n ih =>
    intro a i hn hI
    have hb1 := hb i
    refine z_iload 4 (zdec DX9_sum 9 rfl) rfl ?_
    refine z_iload_n 3 (zdec DX9_sum 10 rfl) rfl rfl ?_
    refine z_icmp_ge 33 (zdec DX9_sum 11 rfl) rfl (fun h13 => ?_) (fun h13 => ?_)
    ·
      refine z_weak (L' := [(1, .inl a)]) (by simp) ?_
      exact hx33 a (by rw [hI.2.2.2.2, show i = 16 by omega])
    ·
      refine z_aload_n 2 (zdec DX9_sum 12 rfl) rfl rfl (by decide) ?_
      refine z_iload 4 (zdec DX9_sum 13 rfl) rfl ?_
      refine z_iald 7 (zdec DX9_sum 14 rfl) rfl shp7 ⟨by omega, by omega⟩ ?_
      refine z_istore (L' := [(0, .inr (.inr 7)), (1, .inl a), (2, .inr (.inr 7)), (3, .inl 16), (4, .inl i), (5, .inl (M 7 i))]) (zdec DX9_sum 15 rfl) rfl (by decide) ?_
      refine z_iload_n 1 (zdec DX9_sum 16 rfl) rfl rfl ?_
      refine z_iload 5 (zdec DX9_sum 17 rfl) rfl ?_
      refine z_iadd (zdec DX9_sum 18 rfl) (by unfold z32; omega) ?_
      refine z_istore_n (L' := [(0, .inr (.inr 7)), (1, .inl (a + (M 7 i))), (2, .inr (.inr 7)), (3, .inl 16), (4, .inl i), (5, .inl (M 7 i))]) (zdec DX9_sum 19 rfl) rfl rfl (by decide) ?_
      refine z_iinc (L' := [(0, .inr (.inr 7)), (1, .inl (a + (M 7 i))), (2, .inr (.inr 7)), (3, .inl 16), (4, .inl (i + 1)), (5, .inl (M 7 i))]) 4 (zdec DX9_sum 20 rfl) rfl (by unfold z32; omega) rfl (by decide) ?_
      refine z_goto 10 (zdec DX9_sum 21 rfl) rfl ?_
      refine z_weak (L' := [(0, .inr (.inr 7)), (1, .inl (a + (M 7 i))), (2, .inr (.inr 7)), (3, .inl 16), (4, .inl (i + 1))]) (by simp) ?_
      exact ih (a + (M 7 i)) (i + 1) (by omega) ⟨by omega, by omega, by omega, by omega, by rw [zsum_s _ (by omega), ← hI.2.2.2.2]⟩
set_option maxHeartbeats 4000000 in
theorem cX9_sum_7 {M : zMm} (hb : ∀ i : Int, 0 ≤ i → i < 16 → 0 ≤ M 7 i ∧ M 7 i ≤ 1) : zW mX9_sum 1 (fun rv S' M' => S' = zS0 ∧ M = M' ∧ rv = some (.inl (zsum (M 7) 16))) (0, 0) zS0 0 (zargs 0 [.inr (.inr 7)]) [] M := by
  change zW _ _ _ _ _ 0 [(0, .inr (.inr 7))] [] M
  refine z_iconst 0 (zdec DX9_sum 0 rfl) (by decide) ?_
  refine z_istore_n (L' := [(0, .inr (.inr 7)), (1, .inl 0)]) (zdec DX9_sum 1 rfl) rfl rfl (by decide) ?_
  refine z_aload_n 0 (zdec DX9_sum 2 rfl) rfl rfl (by decide) ?_
  refine z_astore_n (L' := [(0, .inr (.inr 7)), (1, .inl 0), (2, .inr (.inr 7))]) (zdec DX9_sum 3 rfl) rfl (by decide) rfl (by decide) ?_
  refine z_aload_n 2 (zdec DX9_sum 4 rfl) rfl rfl (by decide) ?_
  refine z_alen 7 (zdec DX9_sum 5 rfl) rfl shp7 (by decide) (by decide) ?_
  refine z_istore_n (L' := [(0, .inr (.inr 7)), (1, .inl 0), (2, .inr (.inr 7)), (3, .inl 16)]) (zdec DX9_sum 6 rfl) rfl rfl (by decide) ?_
  refine z_iconst 0 (zdec DX9_sum 7 rfl) (by decide) ?_
  refine z_istore (L' := [(0, .inr (.inr 7)), (1, .inl 0), (2, .inr (.inr 7)), (3, .inl 16), (4, .inl 0)]) (zdec DX9_sum 8 rfl) rfl (by decide) ?_
  refine lp_X9_sum_7_10 hb (hx33 := fun a hx => ?_) _ 0 0 (Nat.lt_succ_self _) ⟨by omega, by omega, by omega, by omega, rfl⟩
  refine z_iload_n 0 (zdec DX9_sum 22 rfl) rfl rfl ?_
  exact z_iret (zdec DX9_sum 23 rfl) rfl (⟨rfl, rfl, zri hx⟩)
set_option maxHeartbeats 4000000 in
theorem lp_X9_sum_12_10 {Q : zPost} {M : zMm} (hb : ∀ i : Int, 0 ≤ i → i < 33 → 0 ≤ M 12 i ∧ M 12 i ≤ 1) (hx33 : ∀ (a : Int), (a = zsum (M 12) 33) → zW mX9_sum 1 Q (0, 0) zS0 33 [(1, .inl a)] [] M) : ∀ (n : Nat) (a : Int) (i : Int), (33 - i).toNat < n → (0 ≤ i ∧ i ≤ 33 ∧ 0 ≤ a ∧ a ≤ 1 * i ∧ a = zsum (M 12) i) → zW mX9_sum 1 Q (0, 0) zS0 10 [(0, .inr (.inr 12)), (1, .inl a), (2, .inr (.inr 12)), (3, .inl 33), (4, .inl i)] [] M := by
  intro n
  induction n with
  | zero => intro a i hn; exact absurd hn (Nat.not_lt_zero _)
  | succ n ih =>
    intro a i hn hI
    have hb1 := hb i
    refine z_iload 4 (zdec DX9_sum 9 rfl) rfl ?_
    refine z_iload_n 3 (zdec DX9_sum 10 rfl) rfl rfl ?_
    refine z_icmp_ge 33 (zdec DX9_sum 11 rfl) rfl (fun h13 => ?_) (fun h13 => ?_)
    ·
      refine z_weak (L' := [(1, .inl a)]) (by simp) ?_
      exact hx33 a (by rw [hI.2.2.2.2, show i = 33 by omega])
    ·
      refine z_aload_n 2 (zdec DX9_sum 12 rfl) rfl rfl (by decide) ?_
      refine z_iload 4 (zdec DX9_sum 13 rfl) rfl ?_
      refine z_iald 12 (zdec DX9_sum 14 rfl) rfl shp12 ⟨by omega, by omega⟩ ?_
      refine z_istore (L' := [(0, .inr (.inr 12)), (1, .inl a), (2, .inr (.inr 12)), (3, .inl 33), (4, .inl i), (5, .inl (M 12 i))]) (zdec DX9_sum 15 rfl) rfl (by decide) ?_
      refine z_iload_n 1 (zdec DX9_sum 16 rfl) rfl rfl ?_
      refine z_iload 5 (zdec DX9_sum 17 rfl) rfl ?_
      refine z_iadd (zdec DX9_sum 18 rfl) (by unfold z32; omega) ?_
      refine z_istore_n (L' := [(0, .inr (.inr 12)), (1, .inl (a + (M 12 i))), (2, .inr (.inr 12)), (3, .inl 33), (4, .inl i), (5, .inl (M 12 i))]) (zdec DX9_sum 19 rfl) rfl rfl (by decide) ?_
      refine z_iinc (L' := [(0, .inr (.inr 12)), (1, .inl (a + (M 12 i))), (2, .inr (.inr 12)), (3, .inl 33), (4, .inl (i + 1)), (5, .inl (M 12 i))]) 4 (zdec DX9_sum 20 rfl) rfl (by unfold z32; omega) rfl (by decide) ?_
      refine z_goto 10 (zdec DX9_sum 21 rfl) rfl ?_
      refine z_weak (L' := [(0, .inr (.inr 12)), (1, .inl (a + (M 12 i))), (2, .inr (.inr 12)), (3, .inl 33), (4, .inl (i + 1))]) (by simp) ?_
      exact ih (a + (M 12 i)) (i + 1) (by omega) ⟨by omega, by omega, by omega, by omega, by rw [zsum_s _ (by omega), ← hI.2.2.2.2]⟩
set_option maxHeartbeats 4000000 in
theorem cX9_sum_12 {M : zMm} (hb : ∀ i : Int, 0 ≤ i → i < 33 → 0 ≤ M 12 i ∧ M 12 i ≤ 1) : zW mX9_sum 1 (fun rv S' M' => S' = zS0 ∧ M = M' ∧ rv = some (.inl (zsum (M 12) 33))) (0, 0) zS0 0 (zargs 0 [.inr (.inr 12)]) [] M := by
  change zW _ _ _ _ _ 0 [(0, .inr (.inr 12))] [] M
  refine z_iconst 0 (zdec DX9_sum 0 rfl) (by decide) ?_
  refine z_istore_n (L' := [(0, .inr (.inr 12)), (1, .inl 0)]) (zdec DX9_sum 1 rfl) rfl rfl (by decide) ?_
  refine z_aload_n 0 (zdec DX9_sum 2 rfl) rfl rfl (by decide) ?_
  refine z_astore_n (L' := [(0, .inr (.inr 12)), (1, .inl 0), (2, .inr (.inr 12))]) (zdec DX9_sum 3 rfl) rfl (by decide) rfl (by decide) ?_
  refine z_aload_n 2 (zdec DX9_sum 4 rfl) rfl rfl (by decide) ?_
  refine z_alen 12 (zdec DX9_sum 5 rfl) rfl shp12 (by decide) (by decide) ?_
  refine z_istore_n (L' := [(0, .inr (.inr 12)), (1, .inl 0), (2, .inr (.inr 12)), (3, .inl 33)]) (zdec DX9_sum 6 rfl) rfl rfl (by decide) ?_
  refine z_iconst 0 (zdec DX9_sum 7 rfl) (by decide) ?_
  refine z_istore (L' := [(0, .inr (.inr 12)), (1, .inl 0), (2, .inr (.inr 12)), (3, .inl 33), (4, .inl 0)]) (zdec DX9_sum 8 rfl) rfl (by decide) ?_
  refine lp_X9_sum_12_10 hb (hx33 := fun a hx => ?_) _ 0 0 (Nat.lt_succ_self _) ⟨by omega, by omega, by omega, by omega, rfl⟩
  refine z_iload_n 0 (zdec DX9_sum 22 rfl) rfl rfl ?_
  exact z_iret (zdec DX9_sum 23 rfl) rfl (⟨rfl, rfl, zri hx⟩)
set_option maxHeartbeats 4000000 in
theorem lp_X9_sum_22_10 {Q : zPost} {M : zMm} (hb : ∀ i : Int, 0 ≤ i → i < 16 → 0 ≤ M 22 i ∧ M 22 i ≤ 99) (hx33 : ∀ (a : Int), (a = zsum (M 22) 16) → zW mX9_sum 1 Q (0, 0) zS0 33 [(1, .inl a)] [] M) : ∀ (n : Nat) (a : Int) (i : Int), (16 - i).toNat < n → (0 ≤ i ∧ i ≤ 16 ∧ 0 ≤ a ∧ a ≤ 99 * i ∧ a = zsum (M 22) i) → zW mX9_sum 1 Q (0, 0) zS0 10 [(0, .inr (.inr 22)), (1, .inl a), (2, .inr (.inr 22)), (3, .inl 16), (4, .inl i)] [] M := by
  intro n
  induction n with
  | zero => intro a i hn; exact absurd hn (Nat.not_lt_zero _)
  | succ n ih =>
    intro a i hn hI
    have hb1 := hb i
    refine z_iload 4 (zdec DX9_sum 9 rfl) rfl ?_
    refine z_iload_n 3 (zdec DX9_sum 10 rfl) rfl rfl ?_
    refine z_icmp_ge 33 (zdec DX9_sum 11 rfl) rfl (fun h13 => ?_) (fun h13 => ?_)
    ·
      refine z_weak (L' := [(1, .inl a)]) (by simp) ?_
      exact hx33 a (by rw [hI.2.2.2.2, show i = 16 by omega])
    ·
      refine z_aload_n 2 (zdec DX9_sum 12 rfl) rfl rfl (by decide) ?_
      refine z_iload 4 (zdec DX9_sum 13 rfl) rfl ?_
      refine z_iald 22 (zdec DX9_sum 14 rfl) rfl shp22 ⟨by omega, by omega⟩ ?_
      refine z_istore (L' := [(0, .inr (.inr 22)), (1, .inl a), (2, .inr (.inr 22)), (3, .inl 16), (4, .inl i), (5, .inl (M 22 i))]) (zdec DX9_sum 15 rfl) rfl (by decide) ?_
      refine z_iload_n 1 (zdec DX9_sum 16 rfl) rfl rfl ?_
      refine z_iload 5 (zdec DX9_sum 17 rfl) rfl ?_
      refine z_iadd (zdec DX9_sum 18 rfl) (by unfold z32; omega) ?_
      refine z_istore_n (L' := [(0, .inr (.inr 22)), (1, .inl (a + (M 22 i))), (2, .inr (.inr 22)), (3, .inl 16), (4, .inl i), (5, .inl (M 22 i))]) (zdec DX9_sum 19 rfl) rfl rfl (by decide) ?_
      refine z_iinc (L' := [(0, .inr (.inr 22)), (1, .inl (a + (M 22 i))), (2, .inr (.inr 22)), (3, .inl 16), (4, .inl (i + 1)), (5, .inl (M 22 i))]) 4 (zdec DX9_sum 20 rfl) rfl (by unfold z32; omega) rfl (by decide) ?_
      refine z_goto 10 (zdec DX9_sum 21 rfl) rfl ?_
      refine z_weak (L' := [(0, .inr (.inr 22)), (1, .inl (a + (M 22 i))), (2, .inr (.inr 22)), (3, .inl 16), (4, .inl (i + 1))]) (by simp) ?_
      exact ih (a + (M 22 i)) (i + 1) (by omega) ⟨by omega, by omega, by omega, by omega, by rw [zsum_s _ (by omega), ← hI.2.2.2.2]⟩
set_option maxHeartbeats 4000000 in
theorem cX9_sum_22 {M : zMm} (hb : ∀ i : Int, 0 ≤ i → i < 16 → 0 ≤ M 22 i ∧ M 22 i ≤ 99) : zW mX9_sum 1 (fun rv S' M' => S' = zS0 ∧ M = M' ∧ rv = some (.inl (zsum (M 22) 16))) (0, 0) zS0 0 (zargs 0 [.inr (.inr 22)]) [] M := by
  change zW _ _ _ _ _ 0 [(0, .inr (.inr 22))] [] M
  refine z_iconst 0 (zdec DX9_sum 0 rfl) (by decide) ?_
  refine z_istore_n (L' := [(0, .inr (.inr 22)), (1, .inl 0)]) (zdec DX9_sum 1 rfl) rfl rfl (by decide) ?_
  refine z_aload_n 0 (zdec DX9_sum 2 rfl) rfl rfl (by decide) ?_
  refine z_astore_n (L' := [(0, .inr (.inr 22)), (1, .inl 0), (2, .inr (.inr 22))]) (zdec DX9_sum 3 rfl) rfl (by decide) rfl (by decide) ?_
  refine z_aload_n 2 (zdec DX9_sum 4 rfl) rfl rfl (by decide) ?_
  refine z_alen 22 (zdec DX9_sum 5 rfl) rfl shp22 (by decide) (by decide) ?_
  refine z_istore_n (L' := [(0, .inr (.inr 22)), (1, .inl 0), (2, .inr (.inr 22)), (3, .inl 16)]) (zdec DX9_sum 6 rfl) rfl rfl (by decide) ?_
  refine z_iconst 0 (zdec DX9_sum 7 rfl) (by decide) ?_
  refine z_istore (L' := [(0, .inr (.inr 22)), (1, .inl 0), (2, .inr (.inr 22)), (3, .inl 16), (4, .inl 0)]) (zdec DX9_sum 8 rfl) rfl (by decide) ?_
  refine lp_X9_sum_22_10 hb (hx33 := fun a hx => ?_) _ 0 0 (Nat.lt_succ_self _) ⟨by omega, by omega, by omega, by omega, rfl⟩
  refine z_iload_n 0 (zdec DX9_sum 22 rfl) rfl rfl ?_
  exact z_iret (zdec DX9_sum 23 rfl) rfl (⟨rfl, rfl, zri hx⟩)
end
section
/-! contracts of Comb: walls of houses, what is told of them -/
/-- the wall of two houses; -1: none -/
def zwb (a b : Int) : Int := match (List.range 33).find? (fun (w : Nat) => (decide (zlow w = a) && decide (zhigh w = b)) || (decide (zlow w = b) && decide (zhigh w = a))) with
  | some w => (w : Int)
  | none => -1
theorem zwb_side : ∀ a : Nat, a < 16 → ∀ s : Nat, s < 6 → (s : Int) < zsid a → zwb a (znat (a * 6 + s : Nat)) = zwat (a * 6 + s : Nat) := by decide +kernel
theorem zwb_none : ∀ a : Nat, a < 16 → ∀ b : Nat, b < 16 → (∀ s : Nat, s < 6 → (s : Int) < zsid a → znat (a * 6 + s : Nat) ≠ b) → zwb a b = -1 := by decide +kernel
theorem zwb_sideI {a s : Int} (ha : 0 ≤ a ∧ a < 16) (hs : 0 ≤ s ∧ s < zsid a) : zwb a (znat (a * 6 + s)) = zwat (a * 6 + s) := by
  obtain ⟨n, rfl⟩ := Int.eq_ofNat_of_zero_le ha.1
  obtain ⟨k, rfl⟩ := Int.eq_ofNat_of_zero_le hs.1
  have h6 := (zsid_b n).2
  have h := zwb_side n (by omega) k (by omega) hs.2
  rw [show ((n * 6 + k : Nat) : Int) = (n : Int) * 6 + k by omega] at h
  exact h
theorem zwb_noneI {a b : Int} (ha : 0 ≤ a ∧ a < 16) (hb : 0 ≤ b ∧ b < 16) (h : ∀ s : Int, 0 ≤ s → s < zsid a → znat (a * 6 + s) ≠ b) : zwb a b = -1 := by
  obtain ⟨n, rfl⟩ := Int.eq_ofNat_of_zero_le ha.1
  obtain ⟨k, rfl⟩ := Int.eq_ofNat_of_zero_le hb.1
  refine zwb_none n (by omega) k (by omega) fun s hs h1 => ?_
  have h2 := h s (by omega) h1
  rw [show ((n * 6 + s : Nat) : Int) = (n : Int) * 6 + s by omega]
  exact h2
def ztold (M : zMm) (n what : Int) : Int := if what = 0 then M 8 n else if what = 1 then M 10 n else if what = 2 then M 11 n else if what = 3 then M 12 n else if what = 4 then M 13 n else if what = 5 then M 1 12 else M 1 13
def ztell (M : zMm) (n what v : Int) : zMm := if what = 0 then zup M 8 n v else if what = 1 then zup M 10 n v else if what = 2 then zup M 11 n v else if what = 3 then zup M 12 n v else if what = 4 then zup M 13 n v else if what = 5 then zup M 1 12 v else zup M 1 13 v
/-- a number and a thing that may be told of it -/
def zknown (n what : Int) : Prop := (what = 0 ∧ 0 ≤ n ∧ n < 16) ∨ (what = 1 ∧ 0 ≤ n ∧ n < 16) ∨ (what = 2 ∧ 0 ≤ n ∧ n < 33) ∨ (what = 3 ∧ 0 ≤ n ∧ n < 33) ∨ (what = 4 ∧ 0 ≤ n ∧ n < 33) ∨ (what = 5 ∧ n = 0) ∨ (what = 6 ∧ n = 0)
def zmay (what v : Int) : Prop := 0 ≤ v ∧ ((what = 0 ∧ v ≤ 9) ∨ (what = 1 ∧ v ≤ 9) ∨ (what = 2 ∧ v ≤ 9) ∨ (what = 3 ∧ v ≤ 1) ∨ (what = 4 ∧ v ≤ 5) ∨ (what = 5 ∧ v ≤ 9) ∨ (what = 6 ∧ 6 ≤ v ∧ v ≤ 54))
def zfit (n what v : Int) : Prop := zknown n what ∧ zmay what v
def zload (row : Int → Int) (h : Int) : Int := zfo (fun a s => a + row (zwat (h * 6 + s))) 0 (zsid h)
set_option maxHeartbeats 4000000 in
theorem lp_X1_wallBetween_2 {M : zMm} (hP : zP M) (hG : zG M) (a b : Int) (ha : 0 ≤ a ∧ a < 16) (hb : 0 ≤ b ∧ b < 16) (hx45 : (zwb a b = -1) → zW mX1_wallBetween 1 (fun rv S' M' => S' = zS0 ∧ M = M' ∧ rv = some (.inl (zwb a b))) (0, 0) zS0 45 [] [] M) : ∀ (n : Nat) (s : Int), (6 - s).toNat < n → (0 ≤ s ∧ s ≤ zsid a ∧ ∀ j : Int, 0 ≤ j → j < s → znat (a * 6 + j) ≠ b) → zW mX1_wallBetween 1 (fun rv S' M' => S' = zS0 ∧ M = M' ∧ rv = some (.inl (zwb a b))) (0, 0) zS0 2 [(0, .inr (.inr 1)), (1, .inl a), (2, .inl b), (3, .inl s)] [] M := by
  intro n
  induction n with
  | zero => intro s hn; exact absurd hn (Nat.not_lt_zero _)
  | succ n ih =>
    intro s hn hI
    have hs6 := zsid_b a
    have hsd := hG.sid ha.1 ha.2
    refine z_iload_n 3 (zdec DX1_wallBetween 2 rfl) rfl rfl ?_
    refine z_aload_n 0 (zdec DX1_wallBetween 3 rfl) rfl rfl (by decide) ?_
    refine z_getr (rw1 := -11) (ki := 2) (r' := 4) 1 1 (zdec DX1_wallBetween 4 rfl) rfl rfl shp1 rfl (by decide) rfl rfl fl_SixWalls_Comb_18 (zPa hP 11 rfl) ?_
    refine z_iload_n 1 (zdec DX1_wallBetween 5 rfl) rfl rfl ?_
    refine z_iald 4 (zdec DX1_wallBetween 6 rfl) rfl shp4 ⟨by omega, by omega⟩ ?_
    refine z_icmp_ge 45 (zdec DX1_wallBetween 7 rfl) rfl (fun h9 => ?_) (fun h9 => ?_)
    ·
      refine z_weak (L' := []) (by simp) ?_
      exact hx45  (zwb_noneI ha hb fun j h0 h1 => hI.2.2 j h0 (by omega))
    ·
      refine z_aload_n 0 (zdec DX1_wallBetween 8 rfl) rfl rfl (by decide) ?_
      refine z_getr (rw1 := -11) (ki := 4) (r' := 6) 1 1 (zdec DX1_wallBetween 9 rfl) rfl rfl shp1 rfl (by decide) rfl rfl fl_SixWalls_Comb_24 (zPa hP 13 rfl) ?_
      refine z_iload_n 1 (zdec DX1_wallBetween 10 rfl) rfl rfl ?_
      refine z_bipush 6 (zdec DX1_wallBetween 11 rfl) (by decide) ?_
      refine z_imul (zdec DX1_wallBetween 12 rfl) (by unfold z32; omega) ?_
      refine z_iload_n 3 (zdec DX1_wallBetween 13 rfl) rfl rfl ?_
      refine z_iadd (zdec DX1_wallBetween 14 rfl) (by unfold z32; omega) ?_
      refine z_iald 6 (zdec DX1_wallBetween 15 rfl) rfl shp6 ⟨by omega, by omega⟩ ?_
      refine z_iload_n 2 (zdec DX1_wallBetween 16 rfl) rfl rfl ?_
      refine z_icmp_ne 39 (zdec DX1_wallBetween 17 rfl) rfl (fun h24 => ?_) (fun h24 => ?_)
      ·
        refine z_iinc (L' := [(0, .inr (.inr 1)), (1, .inl a), (2, .inl b), (3, .inl (s + 1))]) 3 (zdec DX1_wallBetween 27 rfl) rfl (by unfold z32; omega) rfl (by decide) ?_
        refine z_goto 2 (zdec DX1_wallBetween 28 rfl) rfl ?_
        exact ih (s + 1) (by omega) ⟨by omega, by omega, fun j h0 h1 => (by by_cases hj : j = s; (subst hj; rw [← hG.nat (by omega) (by omega)]; exact h24); (exact hI.2.2 j h0 (by omega)))⟩
      ·
        refine z_aload_n 0 (zdec DX1_wallBetween 18 rfl) rfl rfl (by decide) ?_
        refine z_getr (rw1 := -11) (ki := 3) (r' := 5) 1 1 (zdec DX1_wallBetween 19 rfl) rfl rfl shp1 rfl (by decide) rfl rfl fl_SixWalls_Comb_21 (zPa hP 12 rfl) ?_
        refine z_iload_n 1 (zdec DX1_wallBetween 20 rfl) rfl rfl ?_
        refine z_bipush 6 (zdec DX1_wallBetween 21 rfl) (by decide) ?_
        refine z_imul (zdec DX1_wallBetween 22 rfl) (by unfold z32; omega) ?_
        refine z_iload_n 3 (zdec DX1_wallBetween 23 rfl) rfl rfl ?_
        refine z_iadd (zdec DX1_wallBetween 24 rfl) (by unfold z32; omega) ?_
        refine z_iald 5 (zdec DX1_wallBetween 25 rfl) rfl shp5 ⟨by omega, by omega⟩ ?_
        exact z_iret (zdec DX1_wallBetween 26 rfl) rfl (⟨rfl, rfl, zri (by rw [hG.wat (by omega) (by omega)]; have e := hG.nat (w := a * 6 + s) (by omega) (by omega); have e2 : znat (a * 6 + s) = b := (by omega); rw [← zwb_sideI ha ⟨hI.1, by omega⟩, e2])⟩)
set_option maxHeartbeats 4000000 in
theorem cX1_wallBetween {M : zMm} (hP : zP M) (hG : zG M) (a b : Int) (ha : 0 ≤ a ∧ a < 16) (hb : 0 ≤ b ∧ b < 16) : zW mX1_wallBetween 1 (fun rv S' M' => S' = zS0 ∧ M = M' ∧ rv = some (.inl (zwb a b))) (0, 0) zS0 0 (zargs 0 [.inr (.inr 1), .inl a, .inl b]) [] M := by
  change zW _ _ _ _ _ 0 [(0, .inr (.inr 1)), (1, .inl a), (2, .inl b)] [] M
  refine z_iconst 0 (zdec DX1_wallBetween 0 rfl) (by decide) ?_
  refine z_istore_n (L' := [(0, .inr (.inr 1)), (1, .inl a), (2, .inl b), (3, .inl 0)]) (zdec DX1_wallBetween 1 rfl) rfl rfl (by decide) ?_
  refine lp_X1_wallBetween_2 hP hG a b ha hb (hx45 := fun hx => ?_) _ 0 (Nat.lt_succ_self _) ⟨by omega, (zsid_b a).1, fun j h0 h1 => by omega⟩
  refine z_iconst (-1) (zdec DX1_wallBetween 29 rfl) (by decide) ?_
  exact z_iret (zdec DX1_wallBetween 30 rfl) rfl (⟨rfl, rfl, zri hx.symm⟩)
set_option maxHeartbeats 4000000 in
theorem cX1_atEdge {M : zMm} (hP : zP M) (hG : zG M) (h : Int) (hh : 0 ≤ h ∧ h < 16) : zW mX1_atEdge 1 (fun rv S' M' => S' = zS0 ∧ M = M' ∧ rv = some (.inl (zb (zsid h < 6)))) (0, 0) zS0 0 (zargs 0 [.inr (.inr 1), .inl h]) [] M := by
  change zW _ _ _ _ _ 0 [(0, .inr (.inr 1)), (1, .inl h)] [] M
  have hs := hG.sid hh.1 hh.2
  refine z_aload_n 0 (zdec DX1_atEdge 0 rfl) rfl rfl (by decide) ?_
  refine z_getr (rw1 := -11) (ki := 2) (r' := 4) 1 1 (zdec DX1_atEdge 1 rfl) rfl rfl shp1 rfl (by decide) rfl rfl fl_SixWalls_Comb_18 (zPa hP 11 rfl) ?_
  refine z_iload_n 1 (zdec DX1_atEdge 2 rfl) rfl rfl ?_
  refine z_iald 4 (zdec DX1_atEdge 3 rfl) rfl shp4 ⟨by omega, by omega⟩ ?_
  refine z_bipush 6 (zdec DX1_atEdge 4 rfl) (by decide) ?_
  refine z_icmp_ge 15 (zdec DX1_atEdge 5 rfl) rfl (fun h8 => ?_) (fun h8 => ?_)
  ·
    refine z_iconst 0 (zdec DX1_atEdge 8 rfl) (by decide) ?_
    exact z_zret (zdec DX1_atEdge 9 rfl) rfl (by omega) (⟨rfl, rfl, zri (by unfold zb; split <;> omega)⟩)
  ·
    refine z_iconst 1 (zdec DX1_atEdge 6 rfl) (by decide) ?_
    refine z_goto 16 (zdec DX1_atEdge 7 rfl) rfl ?_
    exact z_zret (zdec DX1_atEdge 9 rfl) rfl (by omega) (⟨rfl, rfl, zri (by unfold zb; split <;> omega)⟩)
set_option maxHeartbeats 4000000 in
theorem lp_X1_load_11_5 {Q : zPost} {M : zMm} (hP : zP M) (hG : zG M) (hb : ∀ w : Int, 0 ≤ w → w < 33 → 0 ≤ M 11 w ∧ M 11 w ≤ 9) (h : Int) (hh : 0 ≤ h ∧ h < 16) (hx39 : ∀ (a : Int), (a = zload (M 11) h) → zW mX1_load 1 Q (0, 0) zS0 39 [(3, .inl a)] [] M) : ∀ (n : Nat) (a : Int) (s : Int), (6 - s).toNat < n → (0 ≤ s ∧ s ≤ zsid h ∧ 0 ≤ a ∧ a ≤ 9 * s ∧ a = zfo (fun a s => a + M 11 (zwat (h * 6 + s))) 0 s) → zW mX1_load 1 Q (0, 0) zS0 5 [(0, .inr (.inr 1)), (1, .inl h), (2, .inr (.inr 11)), (3, .inl a), (4, .inl s)] [] M := by
  intro n
  induction n with
  | zero => intro a s hn; exact absurd hn (Nat.not_lt_zero _)
  | succ n ih =>
    intro a s hn hI
    have hs6 := zsid_b h
    have hsd := hG.sid hh.1 hh.2
    have hwb := zwat_b (h * 6 + s)
    have hb1 := hb _ hwb.1 hwb.2
    refine z_iload 4 (zdec DX1_load 4 rfl) rfl ?_
    refine z_aload_n 0 (zdec DX1_load 5 rfl) rfl rfl (by decide) ?_
    refine z_getr (rw1 := -11) (ki := 2) (r' := 4) 1 1 (zdec DX1_load 6 rfl) rfl rfl shp1 rfl (by decide) rfl rfl fl_SixWalls_Comb_18 (zPa hP 11 rfl) ?_
    refine z_iload_n 1 (zdec DX1_load 7 rfl) rfl rfl ?_
    refine z_iald 4 (zdec DX1_load 8 rfl) rfl shp4 ⟨by omega, by omega⟩ ?_
    refine z_icmp_ge 39 (zdec DX1_load 9 rfl) rfl (fun h13 => ?_) (fun h13 => ?_)
    ·
      refine z_weak (L' := [(3, .inl a)]) (by simp) ?_
      exact hx39 a (by have e : s = zsid h := (by omega); rw [hI.2.2.2.2, e]; rfl)
    ·
      refine z_iload_n 3 (zdec DX1_load 10 rfl) rfl rfl ?_
      refine z_aload_n 2 (zdec DX1_load 11 rfl) rfl rfl (by decide) ?_
      refine z_aload_n 0 (zdec DX1_load 12 rfl) rfl rfl (by decide) ?_
      refine z_getr (rw1 := -11) (ki := 3) (r' := 5) 1 1 (zdec DX1_load 13 rfl) rfl rfl shp1 rfl (by decide) rfl rfl fl_SixWalls_Comb_21 (zPa hP 12 rfl) ?_
      refine z_iload_n 1 (zdec DX1_load 14 rfl) rfl rfl ?_
      refine z_bipush 6 (zdec DX1_load 15 rfl) (by decide) ?_
      refine z_imul (zdec DX1_load 16 rfl) (by unfold z32; omega) ?_
      refine z_iload 4 (zdec DX1_load 17 rfl) rfl ?_
      refine z_iadd (zdec DX1_load 18 rfl) (by unfold z32; omega) ?_
      refine z_iald 5 (zdec DX1_load 19 rfl) rfl shp5 ⟨by omega, by omega⟩ ?_
      have ew := hG.wat (w := h * 6 + s) (by omega) (by omega)
      rw [ew]
      refine z_iald 11 (zdec DX1_load 20 rfl) rfl shp11 ⟨by omega, by omega⟩ ?_
      refine z_iadd (zdec DX1_load 21 rfl) (by unfold z32; omega) ?_
      refine z_istore_n (L' := [(0, .inr (.inr 1)), (1, .inl h), (2, .inr (.inr 11)), (3, .inl (a + (M 11 (zwat (h * 6 + s))))), (4, .inl s)]) (zdec DX1_load 22 rfl) rfl rfl (by decide) ?_
      refine z_iinc (L' := [(0, .inr (.inr 1)), (1, .inl h), (2, .inr (.inr 11)), (3, .inl (a + (M 11 (zwat (h * 6 + s))))), (4, .inl (s + 1))]) 4 (zdec DX1_load 23 rfl) rfl (by unfold z32; omega) rfl (by decide) ?_
      refine z_goto 5 (zdec DX1_load 24 rfl) rfl ?_
      exact ih (a + (M 11 (zwat (h * 6 + s)))) (s + 1) (by omega) ⟨by omega, by omega, by omega, by omega, by rw [zfo_s _ _ (by omega), ← hI.2.2.2.2]⟩
set_option maxHeartbeats 4000000 in
theorem cX1_load_11 {M : zMm} (hP : zP M) (hG : zG M) (hb : ∀ w : Int, 0 ≤ w → w < 33 → 0 ≤ M 11 w ∧ M 11 w ≤ 9) (h : Int) (hh : 0 ≤ h ∧ h < 16) : zW mX1_load 1 (fun rv S' M' => S' = zS0 ∧ M = M' ∧ rv = some (.inl (zload (M 11) h))) (0, 0) zS0 0 (zargs 0 [.inr (.inr 1), .inl h, .inr (.inr 11)]) [] M := by
  change zW _ _ _ _ _ 0 [(0, .inr (.inr 1)), (1, .inl h), (2, .inr (.inr 11))] [] M
  refine z_iconst 0 (zdec DX1_load 0 rfl) (by decide) ?_
  refine z_istore_n (L' := [(0, .inr (.inr 1)), (1, .inl h), (2, .inr (.inr 11)), (3, .inl 0)]) (zdec DX1_load 1 rfl) rfl rfl (by decide) ?_
  refine z_iconst 0 (zdec DX1_load 2 rfl) (by decide) ?_
  refine z_istore (L' := [(0, .inr (.inr 1)), (1, .inl h), (2, .inr (.inr 11)), (3, .inl 0), (4, .inl 0)]) (zdec DX1_load 3 rfl) rfl (by decide) ?_
  refine lp_X1_load_11_5 hP hG hb h hh (hx39 := fun a hx => ?_) _ 0 0 (Nat.lt_succ_self _) ⟨by omega, (zsid_b h).1, by omega, by omega, rfl⟩
  refine z_iload_n 0 (zdec DX1_load 25 rfl) rfl rfl ?_
  exact z_iret (zdec DX1_load 26 rfl) rfl (⟨rfl, rfl, zri hx⟩)
set_option maxHeartbeats 4000000 in
theorem lp_X1_load_28_5 {Q : zPost} {M : zMm} (hP : zP M) (hG : zG M) (hb : ∀ w : Int, 0 ≤ w → w < 33 → 0 ≤ M 28 w ∧ M 28 w ≤ 9) (h : Int) (hh : 0 ≤ h ∧ h < 16) (hx39 : ∀ (a : Int), (a = zload (M 28) h) → zW mX1_load 1 Q (0, 0) zS0 39 [(3, .inl a)] [] M) : ∀ (n : Nat) (a : Int) (s : Int), (6 - s).toNat < n → (0 ≤ s ∧ s ≤ zsid h ∧ 0 ≤ a ∧ a ≤ 9 * s ∧ a = zfo (fun a s => a + M 28 (zwat (h * 6 + s))) 0 s) → zW mX1_load 1 Q (0, 0) zS0 5 [(0, .inr (.inr 1)), (1, .inl h), (2, .inr (.inr 28)), (3, .inl a), (4, .inl s)] [] M := by
  intro n
  induction n with
  | zero => intro a s hn; exact absurd hn (Nat.not_lt_zero _)
  | succ n ih =>
    intro a s hn hI
    have hs6 := zsid_b h
    have hsd := hG.sid hh.1 hh.2
    have hwb := zwat_b (h * 6 + s)
    have hb1 := hb _ hwb.1 hwb.2
    refine z_iload 4 (zdec DX1_load 4 rfl) rfl ?_
    refine z_aload_n 0 (zdec DX1_load 5 rfl) rfl rfl (by decide) ?_
    refine z_getr (rw1 := -11) (ki := 2) (r' := 4) 1 1 (zdec DX1_load 6 rfl) rfl rfl shp1 rfl (by decide) rfl rfl fl_SixWalls_Comb_18 (zPa hP 11 rfl) ?_
    refine z_iload_n 1 (zdec DX1_load 7 rfl) rfl rfl ?_
    refine z_iald 4 (zdec DX1_load 8 rfl) rfl shp4 ⟨by omega, by omega⟩ ?_
    refine z_icmp_ge 39 (zdec DX1_load 9 rfl) rfl (fun h13 => ?_) (fun h13 => ?_)
    ·
      refine z_weak (L' := [(3, .inl a)]) (by simp) ?_
      exact hx39 a (by have e : s = zsid h := (by omega); rw [hI.2.2.2.2, e]; rfl)
    ·
      refine z_iload_n 3 (zdec DX1_load 10 rfl) rfl rfl ?_
      refine z_aload_n 2 (zdec DX1_load 11 rfl) rfl rfl (by decide) ?_
      refine z_aload_n 0 (zdec DX1_load 12 rfl) rfl rfl (by decide) ?_
      refine z_getr (rw1 := -11) (ki := 3) (r' := 5) 1 1 (zdec DX1_load 13 rfl) rfl rfl shp1 rfl (by decide) rfl rfl fl_SixWalls_Comb_21 (zPa hP 12 rfl) ?_
      refine z_iload_n 1 (zdec DX1_load 14 rfl) rfl rfl ?_
      refine z_bipush 6 (zdec DX1_load 15 rfl) (by decide) ?_
      refine z_imul (zdec DX1_load 16 rfl) (by unfold z32; omega) ?_
      refine z_iload 4 (zdec DX1_load 17 rfl) rfl ?_
      refine z_iadd (zdec DX1_load 18 rfl) (by unfold z32; omega) ?_
      refine z_iald 5 (zdec DX1_load 19 rfl) rfl shp5 ⟨by omega, by omega⟩ ?_
      have ew := hG.wat (w := h * 6 + s) (by omega) (by omega)
      rw [ew]
      refine z_iald 28 (zdec DX1_load 20 rfl) rfl shp28 ⟨by omega, by omega⟩ ?_
      refine z_iadd (zdec DX1_load 21 rfl) (by unfold z32; omega) ?_
      refine z_istore_n (L' := [(0, .inr (.inr 1)), (1, .inl h), (2, .inr (.inr 28)), (3, .inl (a + (M 28 (zwat (h * 6 + s))))), (4, .inl s)]) (zdec DX1_load 22 rfl) rfl rfl (by decide) ?_
      refine z_iinc (L' := [(0, .inr (.inr 1)), (1, .inl h), (2, .inr (.inr 28)), (3, .inl (a + (M 28 (zwat (h * 6 + s))))), (4, .inl (s + 1))]) 4 (zdec DX1_load 23 rfl) rfl (by unfold z32; omega) rfl (by decide) ?_
      refine z_goto 5 (zdec DX1_load 24 rfl) rfl ?_
      exact ih (a + (M 28 (zwat (h * 6 + s)))) (s + 1) (by omega) ⟨by omega, by omega, by omega, by omega, by rw [zfo_s _ _ (by omega), ← hI.2.2.2.2]⟩
set_option maxHeartbeats 4000000 in
theorem cX1_load_28 {M : zMm} (hP : zP M) (hG : zG M) (hb : ∀ w : Int, 0 ≤ w → w < 33 → 0 ≤ M 28 w ∧ M 28 w ≤ 9) (h : Int) (hh : 0 ≤ h ∧ h < 16) : zW mX1_load 1 (fun rv S' M' => S' = zS0 ∧ M = M' ∧ rv = some (.inl (zload (M 28) h))) (0, 0) zS0 0 (zargs 0 [.inr (.inr 1), .inl h, .inr (.inr 28)]) [] M := by
  change zW _ _ _ _ _ 0 [(0, .inr (.inr 1)), (1, .inl h), (2, .inr (.inr 28))] [] M
  refine z_iconst 0 (zdec DX1_load 0 rfl) (by decide) ?_
  refine z_istore_n (L' := [(0, .inr (.inr 1)), (1, .inl h), (2, .inr (.inr 28)), (3, .inl 0)]) (zdec DX1_load 1 rfl) rfl rfl (by decide) ?_
  refine z_iconst 0 (zdec DX1_load 2 rfl) (by decide) ?_
  refine z_istore (L' := [(0, .inr (.inr 1)), (1, .inl h), (2, .inr (.inr 28)), (3, .inl 0), (4, .inl 0)]) (zdec DX1_load 3 rfl) rfl (by decide) ?_
  refine lp_X1_load_28_5 hP hG hb h hh (hx39 := fun a hx => ?_) _ 0 0 (Nat.lt_succ_self _) ⟨by omega, (zsid_b h).1, by omega, by omega, rfl⟩
  refine z_iload_n 0 (zdec DX1_load 25 rfl) rfl rfl ?_
  exact z_iret (zdec DX1_load 26 rfl) rfl (⟨rfl, rfl, zri hx⟩)
theorem zfit_iff {n what v : Int} : zfit n what v ↔ (zknown n what ∧ zmay what v) := Iff.rfl
set_option maxHeartbeats 4000000 in
theorem cX1_fits {M : zMm} (n what v : Int) : zW mX1_fits 3 (fun rv S' M' => S' = zS0 ∧ M = M' ∧ ∃ r, rv = some (.inl r) ∧ ((r = 1 ∧ zfit n what v) ∨ (r = 0 ∧ ¬ zfit n what v))) (0, 0) zS0 0 (zargs 0 [.inr (.inr 1), .inl n, .inl what, .inl v]) [] M := by
  change zW _ _ _ _ _ 0 [(0, .inr (.inr 1)), (1, .inl n), (2, .inl what), (3, .inl v)] [] M
  refine z_iload_n 2 (zdec DX1_fits 0 rfl) rfl rfl ?_
  refine z_tsw (zdec DX1_fits 1 rfl) (by decide) (fun j off hj he => ?_) (fun hd => ?_)
  · match j, hj, he with
    | 0, hj, he =>
      cases hj
      refine ⟨44, rfl, ?_⟩
      have h1 : what = 0 := by simpa using he
      refine z_iload_n 1 (zdec DX1_fits 2 rfl) rfl rfl ?_
      refine z_invs mX9_isHouse [.inl n] (zdec DX1_fits 3 rfl) (Or.inr mn_SixWalls_Comb_72) okX9_isHouse rfl rfl (Nat.le_of_ble_eq_true rfl) (Nat.le_of_ble_eq_true rfl) (b' := (0, 0)) ⟨Nat.le_refl 0, Nat.le_refl 0⟩ (Nat.le_of_ble_eq_true rfl) (cX9_isHouse n) (fun rv9 S9 M45 h9 => ?_)
      obtain ⟨rfl, rfl, rfl⟩ := h9
      change zW _ _ _ _ _ 48 [(0, .inr (.inr 1)), (1, .inl n), (2, .inl what), (3, .inl v)] [.inl (zb (0 ≤ n ∧ n < 16))] M
      refine z_if_eq 65 (zdec DX1_fits 4 rfl) rfl (fun h48 => ?_) (fun h48 => ?_)
      ·
        refine z_iconst 0 (zdec DX1_fits 12 rfl) (by decide) ?_
        exact z_zret (zdec DX1_fits 13 rfl) rfl (by omega) (⟨rfl, rfl, _, rfl, by (try simp only [zb_ne0, zb_eq0] at *); first | exact Or.inl ⟨by trivial, by unfold zfit zknown zmay; subst h1; simp; omega⟩ | exact Or.inr ⟨by trivial, fun hf => by unfold zfit zknown zmay at hf; subst h1; simp at hf; omega⟩ | exact Or.inr ⟨by trivial, fun hf => by unfold zfit zknown zmay at hf; omega⟩⟩)
      ·
        refine z_iload_n 3 (zdec DX1_fits 5 rfl) rfl rfl ?_
        refine z_iconst 0 (zdec DX1_fits 6 rfl) (by decide) ?_
        refine z_bipush 9 (zdec DX1_fits 7 rfl) (by decide) ?_
        refine z_invs mX9_within [.inl v, .inl 0, .inl 9] (zdec DX1_fits 8 rfl) (Or.inr mn_SixWalls_Comb_76) okX9_within rfl rfl (Nat.le_of_ble_eq_true rfl) (Nat.le_of_ble_eq_true rfl) (b' := (0, 0)) ⟨Nat.le_refl 0, Nat.le_refl 0⟩ (Nat.le_of_ble_eq_true rfl) (cX9_within v 0 9) (fun rv9 S9 M55 h9 => ?_)
        obtain ⟨rfl, rfl, rfl⟩ := h9
        change zW _ _ _ _ _ 58 [(0, .inr (.inr 1)), (1, .inl n), (2, .inl what), (3, .inl v)] [.inl (zb (0 ≤ v ∧ v ≤ 9))] M
        refine z_if_eq 65 (zdec DX1_fits 9 rfl) rfl (fun h58 => ?_) (fun h58 => ?_)
        ·
          refine z_iconst 0 (zdec DX1_fits 12 rfl) (by decide) ?_
          exact z_zret (zdec DX1_fits 13 rfl) rfl (by omega) (⟨rfl, rfl, _, rfl, by (try simp only [zb_ne0, zb_eq0] at *); first | exact Or.inl ⟨by trivial, by unfold zfit zknown zmay; subst h1; simp; omega⟩ | exact Or.inr ⟨by trivial, fun hf => by unfold zfit zknown zmay at hf; subst h1; simp at hf; omega⟩ | exact Or.inr ⟨by trivial, fun hf => by unfold zfit zknown zmay at hf; omega⟩⟩)
        ·
          refine z_iconst 1 (zdec DX1_fits 10 rfl) (by decide) ?_
          refine z_goto 66 (zdec DX1_fits 11 rfl) rfl ?_
          exact z_zret (zdec DX1_fits 13 rfl) rfl (by omega) (⟨rfl, rfl, _, rfl, by (try simp only [zb_ne0, zb_eq0] at *); first | exact Or.inl ⟨by trivial, by unfold zfit zknown zmay; subst h1; simp; omega⟩ | exact Or.inr ⟨by trivial, fun hf => by unfold zfit zknown zmay at hf; subst h1; simp at hf; omega⟩ | exact Or.inr ⟨by trivial, fun hf => by unfold zfit zknown zmay at hf; omega⟩⟩)
    | 1, hj, he =>
      cases hj
      refine ⟨67, rfl, ?_⟩
      have h1 : what = 1 := by simpa using he
      refine z_iload_n 1 (zdec DX1_fits 14 rfl) rfl rfl ?_
      refine z_invs mX9_isHouse [.inl n] (zdec DX1_fits 15 rfl) (Or.inr mn_SixWalls_Comb_72) okX9_isHouse rfl rfl (Nat.le_of_ble_eq_true rfl) (Nat.le_of_ble_eq_true rfl) (b' := (0, 0)) ⟨Nat.le_refl 0, Nat.le_refl 0⟩ (Nat.le_of_ble_eq_true rfl) (cX9_isHouse n) (fun rv9 S9 M68 h9 => ?_)
      obtain ⟨rfl, rfl, rfl⟩ := h9
      change zW _ _ _ _ _ 71 [(0, .inr (.inr 1)), (1, .inl n), (2, .inl what), (3, .inl v)] [.inl (zb (0 ≤ n ∧ n < 16))] M
      refine z_if_eq 88 (zdec DX1_fits 16 rfl) rfl (fun h71 => ?_) (fun h71 => ?_)
      ·
        refine z_iconst 0 (zdec DX1_fits 24 rfl) (by decide) ?_
        exact z_zret (zdec DX1_fits 25 rfl) rfl (by omega) (⟨rfl, rfl, _, rfl, by (try simp only [zb_ne0, zb_eq0] at *); first | exact Or.inl ⟨by trivial, by unfold zfit zknown zmay; subst h1; simp; omega⟩ | exact Or.inr ⟨by trivial, fun hf => by unfold zfit zknown zmay at hf; subst h1; simp at hf; omega⟩ | exact Or.inr ⟨by trivial, fun hf => by unfold zfit zknown zmay at hf; omega⟩⟩)
      ·
        refine z_iload_n 3 (zdec DX1_fits 17 rfl) rfl rfl ?_
        refine z_iconst 0 (zdec DX1_fits 18 rfl) (by decide) ?_
        refine z_bipush 9 (zdec DX1_fits 19 rfl) (by decide) ?_
        refine z_invs mX9_within [.inl v, .inl 0, .inl 9] (zdec DX1_fits 20 rfl) (Or.inr mn_SixWalls_Comb_76) okX9_within rfl rfl (Nat.le_of_ble_eq_true rfl) (Nat.le_of_ble_eq_true rfl) (b' := (0, 0)) ⟨Nat.le_refl 0, Nat.le_refl 0⟩ (Nat.le_of_ble_eq_true rfl) (cX9_within v 0 9) (fun rv9 S9 M78 h9 => ?_)
        obtain ⟨rfl, rfl, rfl⟩ := h9
        change zW _ _ _ _ _ 81 [(0, .inr (.inr 1)), (1, .inl n), (2, .inl what), (3, .inl v)] [.inl (zb (0 ≤ v ∧ v ≤ 9))] M
        refine z_if_eq 88 (zdec DX1_fits 21 rfl) rfl (fun h81 => ?_) (fun h81 => ?_)
        ·
          refine z_iconst 0 (zdec DX1_fits 24 rfl) (by decide) ?_
          exact z_zret (zdec DX1_fits 25 rfl) rfl (by omega) (⟨rfl, rfl, _, rfl, by (try simp only [zb_ne0, zb_eq0] at *); first | exact Or.inl ⟨by trivial, by unfold zfit zknown zmay; subst h1; simp; omega⟩ | exact Or.inr ⟨by trivial, fun hf => by unfold zfit zknown zmay at hf; subst h1; simp at hf; omega⟩ | exact Or.inr ⟨by trivial, fun hf => by unfold zfit zknown zmay at hf; omega⟩⟩)
        ·
          refine z_iconst 1 (zdec DX1_fits 22 rfl) (by decide) ?_
          refine z_goto 89 (zdec DX1_fits 23 rfl) rfl ?_
          exact z_zret (zdec DX1_fits 25 rfl) rfl (by omega) (⟨rfl, rfl, _, rfl, by (try simp only [zb_ne0, zb_eq0] at *); first | exact Or.inl ⟨by trivial, by unfold zfit zknown zmay; subst h1; simp; omega⟩ | exact Or.inr ⟨by trivial, fun hf => by unfold zfit zknown zmay at hf; subst h1; simp at hf; omega⟩ | exact Or.inr ⟨by trivial, fun hf => by unfold zfit zknown zmay at hf; omega⟩⟩)
    | 2, hj, he =>
      cases hj
      refine ⟨90, rfl, ?_⟩
      have h1 : what = 2 := by simpa using he
      refine z_iload_n 1 (zdec DX1_fits 26 rfl) rfl rfl ?_
      refine z_invs mX9_isWall [.inl n] (zdec DX1_fits 27 rfl) (Or.inr mn_SixWalls_Comb_80) okX9_isWall rfl rfl (Nat.le_of_ble_eq_true rfl) (Nat.le_of_ble_eq_true rfl) (b' := (0, 0)) ⟨Nat.le_refl 0, Nat.le_refl 0⟩ (Nat.le_of_ble_eq_true rfl) (cX9_isWall n) (fun rv9 S9 M91 h9 => ?_)
      obtain ⟨rfl, rfl, rfl⟩ := h9
      change zW _ _ _ _ _ 94 [(0, .inr (.inr 1)), (1, .inl n), (2, .inl what), (3, .inl v)] [.inl (zb (0 ≤ n ∧ n < 33))] M
      refine z_if_eq 111 (zdec DX1_fits 28 rfl) rfl (fun h94 => ?_) (fun h94 => ?_)
      ·
        refine z_iconst 0 (zdec DX1_fits 36 rfl) (by decide) ?_
        exact z_zret (zdec DX1_fits 37 rfl) rfl (by omega) (⟨rfl, rfl, _, rfl, by (try simp only [zb_ne0, zb_eq0] at *); first | exact Or.inl ⟨by trivial, by unfold zfit zknown zmay; subst h1; simp; omega⟩ | exact Or.inr ⟨by trivial, fun hf => by unfold zfit zknown zmay at hf; subst h1; simp at hf; omega⟩ | exact Or.inr ⟨by trivial, fun hf => by unfold zfit zknown zmay at hf; omega⟩⟩)
      ·
        refine z_iload_n 3 (zdec DX1_fits 29 rfl) rfl rfl ?_
        refine z_iconst 0 (zdec DX1_fits 30 rfl) (by decide) ?_
        refine z_bipush 9 (zdec DX1_fits 31 rfl) (by decide) ?_
        refine z_invs mX9_within [.inl v, .inl 0, .inl 9] (zdec DX1_fits 32 rfl) (Or.inr mn_SixWalls_Comb_76) okX9_within rfl rfl (Nat.le_of_ble_eq_true rfl) (Nat.le_of_ble_eq_true rfl) (b' := (0, 0)) ⟨Nat.le_refl 0, Nat.le_refl 0⟩ (Nat.le_of_ble_eq_true rfl) (cX9_within v 0 9) (fun rv9 S9 M101 h9 => ?_)
        obtain ⟨rfl, rfl, rfl⟩ := h9
        change zW _ _ _ _ _ 104 [(0, .inr (.inr 1)), (1, .inl n), (2, .inl what), (3, .inl v)] [.inl (zb (0 ≤ v ∧ v ≤ 9))] M
        refine z_if_eq 111 (zdec DX1_fits 33 rfl) rfl (fun h104 => ?_) (fun h104 => ?_)
        ·
          refine z_iconst 0 (zdec DX1_fits 36 rfl) (by decide) ?_
          exact z_zret (zdec DX1_fits 37 rfl) rfl (by omega) (⟨rfl, rfl, _, rfl, by (try simp only [zb_ne0, zb_eq0] at *); first | exact Or.inl ⟨by trivial, by unfold zfit zknown zmay; subst h1; simp; omega⟩ | exact Or.inr ⟨by trivial, fun hf => by unfold zfit zknown zmay at hf; subst h1; simp at hf; omega⟩ | exact Or.inr ⟨by trivial, fun hf => by unfold zfit zknown zmay at hf; omega⟩⟩)
        ·
          refine z_iconst 1 (zdec DX1_fits 34 rfl) (by decide) ?_
          refine z_goto 112 (zdec DX1_fits 35 rfl) rfl ?_
          exact z_zret (zdec DX1_fits 37 rfl) rfl (by omega) (⟨rfl, rfl, _, rfl, by (try simp only [zb_ne0, zb_eq0] at *); first | exact Or.inl ⟨by trivial, by unfold zfit zknown zmay; subst h1; simp; omega⟩ | exact Or.inr ⟨by trivial, fun hf => by unfold zfit zknown zmay at hf; subst h1; simp at hf; omega⟩ | exact Or.inr ⟨by trivial, fun hf => by unfold zfit zknown zmay at hf; omega⟩⟩)
    | 3, hj, he =>
      cases hj
      refine ⟨113, rfl, ?_⟩
      have h1 : what = 3 := by simpa using he
      refine z_iload_n 1 (zdec DX1_fits 38 rfl) rfl rfl ?_
      refine z_invs mX9_isWall [.inl n] (zdec DX1_fits 39 rfl) (Or.inr mn_SixWalls_Comb_80) okX9_isWall rfl rfl (Nat.le_of_ble_eq_true rfl) (Nat.le_of_ble_eq_true rfl) (b' := (0, 0)) ⟨Nat.le_refl 0, Nat.le_refl 0⟩ (Nat.le_of_ble_eq_true rfl) (cX9_isWall n) (fun rv9 S9 M114 h9 => ?_)
      obtain ⟨rfl, rfl, rfl⟩ := h9
      change zW _ _ _ _ _ 117 [(0, .inr (.inr 1)), (1, .inl n), (2, .inl what), (3, .inl v)] [.inl (zb (0 ≤ n ∧ n < 33))] M
      refine z_if_eq 133 (zdec DX1_fits 40 rfl) rfl (fun h117 => ?_) (fun h117 => ?_)
      ·
        refine z_iconst 0 (zdec DX1_fits 48 rfl) (by decide) ?_
        exact z_zret (zdec DX1_fits 49 rfl) rfl (by omega) (⟨rfl, rfl, _, rfl, by (try simp only [zb_ne0, zb_eq0] at *); first | exact Or.inl ⟨by trivial, by unfold zfit zknown zmay; subst h1; simp; omega⟩ | exact Or.inr ⟨by trivial, fun hf => by unfold zfit zknown zmay at hf; subst h1; simp at hf; omega⟩ | exact Or.inr ⟨by trivial, fun hf => by unfold zfit zknown zmay at hf; omega⟩⟩)
      ·
        refine z_iload_n 3 (zdec DX1_fits 41 rfl) rfl rfl ?_
        refine z_iconst 0 (zdec DX1_fits 42 rfl) (by decide) ?_
        refine z_iconst 1 (zdec DX1_fits 43 rfl) (by decide) ?_
        refine z_invs mX9_within [.inl v, .inl 0, .inl 1] (zdec DX1_fits 44 rfl) (Or.inr mn_SixWalls_Comb_76) okX9_within rfl rfl (Nat.le_of_ble_eq_true rfl) (Nat.le_of_ble_eq_true rfl) (b' := (0, 0)) ⟨Nat.le_refl 0, Nat.le_refl 0⟩ (Nat.le_of_ble_eq_true rfl) (cX9_within v 0 1) (fun rv9 S9 M123 h9 => ?_)
        obtain ⟨rfl, rfl, rfl⟩ := h9
        change zW _ _ _ _ _ 126 [(0, .inr (.inr 1)), (1, .inl n), (2, .inl what), (3, .inl v)] [.inl (zb (0 ≤ v ∧ v ≤ 1))] M
        refine z_if_eq 133 (zdec DX1_fits 45 rfl) rfl (fun h126 => ?_) (fun h126 => ?_)
        ·
          refine z_iconst 0 (zdec DX1_fits 48 rfl) (by decide) ?_
          exact z_zret (zdec DX1_fits 49 rfl) rfl (by omega) (⟨rfl, rfl, _, rfl, by (try simp only [zb_ne0, zb_eq0] at *); first | exact Or.inl ⟨by trivial, by unfold zfit zknown zmay; subst h1; simp; omega⟩ | exact Or.inr ⟨by trivial, fun hf => by unfold zfit zknown zmay at hf; subst h1; simp at hf; omega⟩ | exact Or.inr ⟨by trivial, fun hf => by unfold zfit zknown zmay at hf; omega⟩⟩)
        ·
          refine z_iconst 1 (zdec DX1_fits 46 rfl) (by decide) ?_
          refine z_goto 134 (zdec DX1_fits 47 rfl) rfl ?_
          exact z_zret (zdec DX1_fits 49 rfl) rfl (by omega) (⟨rfl, rfl, _, rfl, by (try simp only [zb_ne0, zb_eq0] at *); first | exact Or.inl ⟨by trivial, by unfold zfit zknown zmay; subst h1; simp; omega⟩ | exact Or.inr ⟨by trivial, fun hf => by unfold zfit zknown zmay at hf; subst h1; simp at hf; omega⟩ | exact Or.inr ⟨by trivial, fun hf => by unfold zfit zknown zmay at hf; omega⟩⟩)
    | 4, hj, he =>
      cases hj
      refine ⟨135, rfl, ?_⟩
      have h1 : what = 4 := by simpa using he
      refine z_iload_n 1 (zdec DX1_fits 50 rfl) rfl rfl ?_
      refine z_invs mX9_isWall [.inl n] (zdec DX1_fits 51 rfl) (Or.inr mn_SixWalls_Comb_80) okX9_isWall rfl rfl (Nat.le_of_ble_eq_true rfl) (Nat.le_of_ble_eq_true rfl) (b' := (0, 0)) ⟨Nat.le_refl 0, Nat.le_refl 0⟩ (Nat.le_of_ble_eq_true rfl) (cX9_isWall n) (fun rv9 S9 M136 h9 => ?_)
      obtain ⟨rfl, rfl, rfl⟩ := h9
      change zW _ _ _ _ _ 139 [(0, .inr (.inr 1)), (1, .inl n), (2, .inl what), (3, .inl v)] [.inl (zb (0 ≤ n ∧ n < 33))] M
      refine z_if_eq 155 (zdec DX1_fits 52 rfl) rfl (fun h139 => ?_) (fun h139 => ?_)
      ·
        refine z_iconst 0 (zdec DX1_fits 60 rfl) (by decide) ?_
        exact z_zret (zdec DX1_fits 61 rfl) rfl (by omega) (⟨rfl, rfl, _, rfl, by (try simp only [zb_ne0, zb_eq0] at *); first | exact Or.inl ⟨by trivial, by unfold zfit zknown zmay; subst h1; simp; omega⟩ | exact Or.inr ⟨by trivial, fun hf => by unfold zfit zknown zmay at hf; subst h1; simp at hf; omega⟩ | exact Or.inr ⟨by trivial, fun hf => by unfold zfit zknown zmay at hf; omega⟩⟩)
      ·
        refine z_iload_n 3 (zdec DX1_fits 53 rfl) rfl rfl ?_
        refine z_iconst 0 (zdec DX1_fits 54 rfl) (by decide) ?_
        refine z_iconst 5 (zdec DX1_fits 55 rfl) (by decide) ?_
        refine z_invs mX9_within [.inl v, .inl 0, .inl 5] (zdec DX1_fits 56 rfl) (Or.inr mn_SixWalls_Comb_76) okX9_within rfl rfl (Nat.le_of_ble_eq_true rfl) (Nat.le_of_ble_eq_true rfl) (b' := (0, 0)) ⟨Nat.le_refl 0, Nat.le_refl 0⟩ (Nat.le_of_ble_eq_true rfl) (cX9_within v 0 5) (fun rv9 S9 M145 h9 => ?_)
        obtain ⟨rfl, rfl, rfl⟩ := h9
        change zW _ _ _ _ _ 148 [(0, .inr (.inr 1)), (1, .inl n), (2, .inl what), (3, .inl v)] [.inl (zb (0 ≤ v ∧ v ≤ 5))] M
        refine z_if_eq 155 (zdec DX1_fits 57 rfl) rfl (fun h148 => ?_) (fun h148 => ?_)
        ·
          refine z_iconst 0 (zdec DX1_fits 60 rfl) (by decide) ?_
          exact z_zret (zdec DX1_fits 61 rfl) rfl (by omega) (⟨rfl, rfl, _, rfl, by (try simp only [zb_ne0, zb_eq0] at *); first | exact Or.inl ⟨by trivial, by unfold zfit zknown zmay; subst h1; simp; omega⟩ | exact Or.inr ⟨by trivial, fun hf => by unfold zfit zknown zmay at hf; subst h1; simp at hf; omega⟩ | exact Or.inr ⟨by trivial, fun hf => by unfold zfit zknown zmay at hf; omega⟩⟩)
        ·
          refine z_iconst 1 (zdec DX1_fits 58 rfl) (by decide) ?_
          refine z_goto 156 (zdec DX1_fits 59 rfl) rfl ?_
          exact z_zret (zdec DX1_fits 61 rfl) rfl (by omega) (⟨rfl, rfl, _, rfl, by (try simp only [zb_ne0, zb_eq0] at *); first | exact Or.inl ⟨by trivial, by unfold zfit zknown zmay; subst h1; simp; omega⟩ | exact Or.inr ⟨by trivial, fun hf => by unfold zfit zknown zmay at hf; subst h1; simp at hf; omega⟩ | exact Or.inr ⟨by trivial, fun hf => by unfold zfit zknown zmay at hf; omega⟩⟩)
    | 5, hj, he =>
      cases hj
      refine ⟨157, rfl, ?_⟩
      have h1 : what = 5 := by simpa using he
      refine z_iload_n 1 (zdec DX1_fits 62 rfl) rfl rfl ?_
      refine z_if_ne 175 (zdec DX1_fits 63 rfl) rfl (fun h158 => ?_) (fun h158 => ?_)
      ·
        refine z_iconst 0 (zdec DX1_fits 71 rfl) (by decide) ?_
        exact z_zret (zdec DX1_fits 72 rfl) rfl (by omega) (⟨rfl, rfl, _, rfl, by (try simp only [zb_ne0, zb_eq0] at *); first | exact Or.inl ⟨by trivial, by unfold zfit zknown zmay; subst h1; simp; omega⟩ | exact Or.inr ⟨by trivial, fun hf => by unfold zfit zknown zmay at hf; subst h1; simp at hf; omega⟩ | exact Or.inr ⟨by trivial, fun hf => by unfold zfit zknown zmay at hf; omega⟩⟩)
      ·
        refine z_iload_n 3 (zdec DX1_fits 64 rfl) rfl rfl ?_
        refine z_iconst 0 (zdec DX1_fits 65 rfl) (by decide) ?_
        refine z_bipush 9 (zdec DX1_fits 66 rfl) (by decide) ?_
        refine z_invs mX9_within [.inl v, .inl 0, .inl 9] (zdec DX1_fits 67 rfl) (Or.inr mn_SixWalls_Comb_76) okX9_within rfl rfl (Nat.le_of_ble_eq_true rfl) (Nat.le_of_ble_eq_true rfl) (b' := (0, 0)) ⟨Nat.le_refl 0, Nat.le_refl 0⟩ (Nat.le_of_ble_eq_true rfl) (cX9_within v 0 9) (fun rv9 S9 M165 h9 => ?_)
        obtain ⟨rfl, rfl, rfl⟩ := h9
        change zW _ _ _ _ _ 168 [(0, .inr (.inr 1)), (1, .inl n), (2, .inl what), (3, .inl v)] [.inl (zb (0 ≤ v ∧ v ≤ 9))] M
        refine z_if_eq 175 (zdec DX1_fits 68 rfl) rfl (fun h168 => ?_) (fun h168 => ?_)
        ·
          refine z_iconst 0 (zdec DX1_fits 71 rfl) (by decide) ?_
          exact z_zret (zdec DX1_fits 72 rfl) rfl (by omega) (⟨rfl, rfl, _, rfl, by (try simp only [zb_ne0, zb_eq0] at *); first | exact Or.inl ⟨by trivial, by unfold zfit zknown zmay; subst h1; simp; omega⟩ | exact Or.inr ⟨by trivial, fun hf => by unfold zfit zknown zmay at hf; subst h1; simp at hf; omega⟩ | exact Or.inr ⟨by trivial, fun hf => by unfold zfit zknown zmay at hf; omega⟩⟩)
        ·
          refine z_iconst 1 (zdec DX1_fits 69 rfl) (by decide) ?_
          refine z_goto 176 (zdec DX1_fits 70 rfl) rfl ?_
          exact z_zret (zdec DX1_fits 72 rfl) rfl (by omega) (⟨rfl, rfl, _, rfl, by (try simp only [zb_ne0, zb_eq0] at *); first | exact Or.inl ⟨by trivial, by unfold zfit zknown zmay; subst h1; simp; omega⟩ | exact Or.inr ⟨by trivial, fun hf => by unfold zfit zknown zmay at hf; subst h1; simp at hf; omega⟩ | exact Or.inr ⟨by trivial, fun hf => by unfold zfit zknown zmay at hf; omega⟩⟩)
    | 6, hj, he =>
      cases hj
      refine ⟨177, rfl, ?_⟩
      have h1 : what = 6 := by simpa using he
      refine z_iload_n 1 (zdec DX1_fits 73 rfl) rfl rfl ?_
      refine z_if_ne 196 (zdec DX1_fits 74 rfl) rfl (fun h178 => ?_) (fun h178 => ?_)
      ·
        refine z_iconst 0 (zdec DX1_fits 82 rfl) (by decide) ?_
        exact z_zret (zdec DX1_fits 83 rfl) rfl (by omega) (⟨rfl, rfl, _, rfl, by (try simp only [zb_ne0, zb_eq0] at *); first | exact Or.inl ⟨by trivial, by unfold zfit zknown zmay; subst h1; simp; omega⟩ | exact Or.inr ⟨by trivial, fun hf => by unfold zfit zknown zmay at hf; subst h1; simp at hf; omega⟩ | exact Or.inr ⟨by trivial, fun hf => by unfold zfit zknown zmay at hf; omega⟩⟩)
      ·
        refine z_iload_n 3 (zdec DX1_fits 75 rfl) rfl rfl ?_
        refine z_bipush 6 (zdec DX1_fits 76 rfl) (by decide) ?_
        refine z_bipush 54 (zdec DX1_fits 77 rfl) (by decide) ?_
        refine z_invs mX9_within [.inl v, .inl 6, .inl 54] (zdec DX1_fits 78 rfl) (Or.inr mn_SixWalls_Comb_76) okX9_within rfl rfl (Nat.le_of_ble_eq_true rfl) (Nat.le_of_ble_eq_true rfl) (b' := (0, 0)) ⟨Nat.le_refl 0, Nat.le_refl 0⟩ (Nat.le_of_ble_eq_true rfl) (cX9_within v 6 54) (fun rv9 S9 M186 h9 => ?_)
        obtain ⟨rfl, rfl, rfl⟩ := h9
        change zW _ _ _ _ _ 189 [(0, .inr (.inr 1)), (1, .inl n), (2, .inl what), (3, .inl v)] [.inl (zb (6 ≤ v ∧ v ≤ 54))] M
        refine z_if_eq 196 (zdec DX1_fits 79 rfl) rfl (fun h189 => ?_) (fun h189 => ?_)
        ·
          refine z_iconst 0 (zdec DX1_fits 82 rfl) (by decide) ?_
          exact z_zret (zdec DX1_fits 83 rfl) rfl (by omega) (⟨rfl, rfl, _, rfl, by (try simp only [zb_ne0, zb_eq0] at *); first | exact Or.inl ⟨by trivial, by unfold zfit zknown zmay; subst h1; simp; omega⟩ | exact Or.inr ⟨by trivial, fun hf => by unfold zfit zknown zmay at hf; subst h1; simp at hf; omega⟩ | exact Or.inr ⟨by trivial, fun hf => by unfold zfit zknown zmay at hf; omega⟩⟩)
        ·
          refine z_iconst 1 (zdec DX1_fits 80 rfl) (by decide) ?_
          refine z_goto 197 (zdec DX1_fits 81 rfl) rfl ?_
          exact z_zret (zdec DX1_fits 83 rfl) rfl (by omega) (⟨rfl, rfl, _, rfl, by (try simp only [zb_ne0, zb_eq0] at *); first | exact Or.inl ⟨by trivial, by unfold zfit zknown zmay; subst h1; simp; omega⟩ | exact Or.inr ⟨by trivial, fun hf => by unfold zfit zknown zmay at hf; subst h1; simp at hf; omega⟩ | exact Or.inr ⟨by trivial, fun hf => by unfold zfit zknown zmay at hf; omega⟩⟩)
    | j + 7, hj, he => exact absurd (List.getElem?_eq_some_iff.mp hj).1 (by simp)
  · refine ⟨198, rfl, ?_⟩
    refine z_iconst 0 (zdec DX1_fits 84 rfl) (by decide) ?_
    exact z_zret (zdec DX1_fits 85 rfl) rfl (by omega) (⟨rfl, rfl, _, rfl, by (try simp only [zb_ne0, zb_eq0] at *); first | exact Or.inl ⟨by trivial, by unfold zfit zknown zmay; subst h1; simp; omega⟩ | exact Or.inr ⟨by trivial, fun hf => by unfold zfit zknown zmay at hf; subst h1; simp at hf; omega⟩ | exact Or.inr ⟨by trivial, fun hf => by unfold zfit zknown zmay at hf; omega⟩⟩)
set_option maxHeartbeats 4000000 in
theorem cX1_told {M : zMm} (hP : zP M) (n what : Int) (hk : zknown n what) : zW mX1_told 1 (fun rv S' M' => S' = zS0 ∧ M = M' ∧ rv = some (.inl (ztold M n what))) (0, 0) zS0 0 (zargs 0 [.inr (.inr 1), .inl n, .inl what]) [] M := by
  change zW _ _ _ _ _ 0 [(0, .inr (.inr 1)), (1, .inl n), (2, .inl what)] [] M
  unfold zknown at hk
  refine z_iload_n 2 (zdec DX1_told 0 rfl) rfl rfl ?_
  refine z_tsw (zdec DX1_told 1 rfl) (by decide) (fun j off hj he => ?_) (fun hd => ?_)
  · match j, hj, he with
    | 0, hj, he =>
      cases hj
      refine ⟨40, rfl, ?_⟩
      have h1 : what = 0 := by simpa using he
      refine z_aload_n 0 (zdec DX1_told 2 rfl) rfl rfl (by decide) ?_
      refine z_getr (rw1 := -11) (ki := 6) (r' := 8) 1 1 (zdec DX1_told 3 rfl) rfl rfl shp1 rfl (by decide) rfl rfl fl_SixWalls_Comb_30 (zPa hP 15 rfl) ?_
      refine z_iload_n 1 (zdec DX1_told 4 rfl) rfl rfl ?_
      refine z_iald 8 (zdec DX1_told 5 rfl) rfl shp8 ⟨by omega, by omega⟩ ?_
      exact z_iret (zdec DX1_told 6 rfl) rfl (⟨rfl, rfl, zri (by unfold ztold; (repeat (first | rw [if_pos (by omega)] | rw [if_neg (by omega)])))⟩)
    | 1, hj, he =>
      cases hj
      refine ⟨47, rfl, ?_⟩
      have h1 : what = 1 := by simpa using he
      refine z_aload_n 0 (zdec DX1_told 7 rfl) rfl rfl (by decide) ?_
      refine z_getr (rw1 := -11) (ki := 8) (r' := 10) 1 1 (zdec DX1_told 8 rfl) rfl rfl shp1 rfl (by decide) rfl rfl fl_SixWalls_Comb_36 (zPa hP 17 rfl) ?_
      refine z_iload_n 1 (zdec DX1_told 9 rfl) rfl rfl ?_
      refine z_iald 10 (zdec DX1_told 10 rfl) rfl shp10 ⟨by omega, by omega⟩ ?_
      exact z_iret (zdec DX1_told 11 rfl) rfl (⟨rfl, rfl, zri (by unfold ztold; (repeat (first | rw [if_pos (by omega)] | rw [if_neg (by omega)])))⟩)
    | 2, hj, he =>
      cases hj
      refine ⟨54, rfl, ?_⟩
      have h1 : what = 2 := by simpa using he
      refine z_aload_n 0 (zdec DX1_told 12 rfl) rfl rfl (by decide) ?_
      refine z_getr (rw1 := -11) (ki := 9) (r' := 11) 1 1 (zdec DX1_told 13 rfl) rfl rfl shp1 rfl (by decide) rfl rfl fl_SixWalls_Comb_39 (zPa hP 18 rfl) ?_
      refine z_iload_n 1 (zdec DX1_told 14 rfl) rfl rfl ?_
      refine z_iald 11 (zdec DX1_told 15 rfl) rfl shp11 ⟨by omega, by omega⟩ ?_
      exact z_iret (zdec DX1_told 16 rfl) rfl (⟨rfl, rfl, zri (by unfold ztold; (repeat (first | rw [if_pos (by omega)] | rw [if_neg (by omega)])))⟩)
    | 3, hj, he =>
      cases hj
      refine ⟨61, rfl, ?_⟩
      have h1 : what = 3 := by simpa using he
      refine z_aload_n 0 (zdec DX1_told 17 rfl) rfl rfl (by decide) ?_
      refine z_getr (rw1 := -11) (ki := 10) (r' := 12) 1 1 (zdec DX1_told 18 rfl) rfl rfl shp1 rfl (by decide) rfl rfl fl_SixWalls_Comb_42 (zPa hP 19 rfl) ?_
      refine z_iload_n 1 (zdec DX1_told 19 rfl) rfl rfl ?_
      refine z_iald 12 (zdec DX1_told 20 rfl) rfl shp12 ⟨by omega, by omega⟩ ?_
      exact z_iret (zdec DX1_told 21 rfl) rfl (⟨rfl, rfl, zri (by unfold ztold; (repeat (first | rw [if_pos (by omega)] | rw [if_neg (by omega)])))⟩)
    | 4, hj, he =>
      cases hj
      refine ⟨68, rfl, ?_⟩
      have h1 : what = 4 := by simpa using he
      refine z_aload_n 0 (zdec DX1_told 22 rfl) rfl rfl (by decide) ?_
      refine z_getr (rw1 := -11) (ki := 11) (r' := 13) 1 1 (zdec DX1_told 23 rfl) rfl rfl shp1 rfl (by decide) rfl rfl fl_SixWalls_Comb_45 (zPa hP 20 rfl) ?_
      refine z_iload_n 1 (zdec DX1_told 24 rfl) rfl rfl ?_
      refine z_iald 13 (zdec DX1_told 25 rfl) rfl shp13 ⟨by omega, by omega⟩ ?_
      exact z_iret (zdec DX1_told 26 rfl) rfl (⟨rfl, rfl, zri (by unfold ztold; (repeat (first | rw [if_pos (by omega)] | rw [if_neg (by omega)])))⟩)
    | 5, hj, he =>
      cases hj
      refine ⟨75, rfl, ?_⟩
      have h1 : what = 5 := by simpa using he
      refine z_aload_n 0 (zdec DX1_told 27 rfl) rfl rfl (by decide) ?_
      refine z_geti (ki := 12) 1 1 (zdec DX1_told 28 rfl) rfl shp1 rfl (by decide) rfl rfl fl_SixWalls_Comb_48 ?_
      exact z_iret (zdec DX1_told 29 rfl) rfl (⟨rfl, rfl, zri (by unfold ztold; (repeat (first | rw [if_pos (by omega)] | rw [if_neg (by omega)])))⟩)
    | j + 6, hj, he => exact absurd (List.getElem?_eq_some_iff.mp hj).1 (by simp)
  · refine ⟨80, rfl, ?_⟩
    refine z_aload_n 0 (zdec DX1_told 30 rfl) rfl rfl (by decide) ?_
    refine z_geti (ki := 13) 1 1 (zdec DX1_told 31 rfl) rfl shp1 rfl (by decide) rfl rfl fl_SixWalls_Comb_52 ?_
    exact z_iret (zdec DX1_told 32 rfl) rfl (⟨rfl, rfl, zri (by unfold ztold; (repeat (first | rw [if_pos (by omega)] | rw [if_neg (by omega)])))⟩)
set_option maxHeartbeats 4000000 in
theorem cX1_tell {M : zMm} (hP : zP M) (n what v : Int) (hk : zknown n what) : zW mX1_tell 1 (fun rv S' M' => S' = zS0 ∧ rv = none ∧ M' = ztell M n what v) (0, 0) zS0 0 (zargs 0 [.inr (.inr 1), .inl n, .inl what, .inl v]) [] M := by
  change zW _ _ _ _ _ 0 [(0, .inr (.inr 1)), (1, .inl n), (2, .inl what), (3, .inl v)] [] M
  unfold zknown at hk
  refine z_iload_n 2 (zdec DX1_tell 0 rfl) rfl rfl ?_
  refine z_tsw (zdec DX1_tell 1 rfl) (by decide) (fun j off hj he => ?_) (fun hd => ?_)
  · match j, hj, he with
    | 0, hj, he =>
      cases hj
      refine ⟨40, rfl, ?_⟩
      have h1 : what = 0 := by simpa using he
      refine z_aload_n 0 (zdec DX1_tell 2 rfl) rfl rfl (by decide) ?_
      refine z_getr (rw1 := -11) (ki := 6) (r' := 8) 1 1 (zdec DX1_tell 3 rfl) rfl rfl shp1 rfl (by decide) rfl rfl fl_SixWalls_Comb_30 (zPa hP 15 rfl) ?_
      refine z_iload_n 1 (zdec DX1_tell 4 rfl) rfl rfl ?_
      refine z_iload_n 3 (zdec DX1_tell 5 rfl) rfl rfl ?_
      refine z_iast 8 (zdec DX1_tell 6 rfl) rfl shp8 ⟨by omega, by omega⟩ ?_
      refine z_goto 103 (zdec DX1_tell 7 rfl) rfl ?_
      exact z_vret (zdec DX1_tell 39 rfl) rfl (⟨rfl, rfl, by unfold ztell; (repeat (first | rw [if_pos (by omega)] | rw [if_neg (by omega)]))⟩)
    | 1, hj, he =>
      cases hj
      refine ⟨50, rfl, ?_⟩
      have h1 : what = 1 := by simpa using he
      refine z_aload_n 0 (zdec DX1_tell 8 rfl) rfl rfl (by decide) ?_
      refine z_getr (rw1 := -11) (ki := 8) (r' := 10) 1 1 (zdec DX1_tell 9 rfl) rfl rfl shp1 rfl (by decide) rfl rfl fl_SixWalls_Comb_36 (zPa hP 17 rfl) ?_
      refine z_iload_n 1 (zdec DX1_tell 10 rfl) rfl rfl ?_
      refine z_iload_n 3 (zdec DX1_tell 11 rfl) rfl rfl ?_
      refine z_iast 10 (zdec DX1_tell 12 rfl) rfl shp10 ⟨by omega, by omega⟩ ?_
      refine z_goto 103 (zdec DX1_tell 13 rfl) rfl ?_
      exact z_vret (zdec DX1_tell 39 rfl) rfl (⟨rfl, rfl, by unfold ztell; (repeat (first | rw [if_pos (by omega)] | rw [if_neg (by omega)]))⟩)
    | 2, hj, he =>
      cases hj
      refine ⟨60, rfl, ?_⟩
      have h1 : what = 2 := by simpa using he
      refine z_aload_n 0 (zdec DX1_tell 14 rfl) rfl rfl (by decide) ?_
      refine z_getr (rw1 := -11) (ki := 9) (r' := 11) 1 1 (zdec DX1_tell 15 rfl) rfl rfl shp1 rfl (by decide) rfl rfl fl_SixWalls_Comb_39 (zPa hP 18 rfl) ?_
      refine z_iload_n 1 (zdec DX1_tell 16 rfl) rfl rfl ?_
      refine z_iload_n 3 (zdec DX1_tell 17 rfl) rfl rfl ?_
      refine z_iast 11 (zdec DX1_tell 18 rfl) rfl shp11 ⟨by omega, by omega⟩ ?_
      refine z_goto 103 (zdec DX1_tell 19 rfl) rfl ?_
      exact z_vret (zdec DX1_tell 39 rfl) rfl (⟨rfl, rfl, by unfold ztell; (repeat (first | rw [if_pos (by omega)] | rw [if_neg (by omega)]))⟩)
    | 3, hj, he =>
      cases hj
      refine ⟨70, rfl, ?_⟩
      have h1 : what = 3 := by simpa using he
      refine z_aload_n 0 (zdec DX1_tell 20 rfl) rfl rfl (by decide) ?_
      refine z_getr (rw1 := -11) (ki := 10) (r' := 12) 1 1 (zdec DX1_tell 21 rfl) rfl rfl shp1 rfl (by decide) rfl rfl fl_SixWalls_Comb_42 (zPa hP 19 rfl) ?_
      refine z_iload_n 1 (zdec DX1_tell 22 rfl) rfl rfl ?_
      refine z_iload_n 3 (zdec DX1_tell 23 rfl) rfl rfl ?_
      refine z_iast 12 (zdec DX1_tell 24 rfl) rfl shp12 ⟨by omega, by omega⟩ ?_
      refine z_goto 103 (zdec DX1_tell 25 rfl) rfl ?_
      exact z_vret (zdec DX1_tell 39 rfl) rfl (⟨rfl, rfl, by unfold ztell; (repeat (first | rw [if_pos (by omega)] | rw [if_neg (by omega)]))⟩)
    | 4, hj, he =>
      cases hj
      refine ⟨80, rfl, ?_⟩
      have h1 : what = 4 := by simpa using he
      refine z_aload_n 0 (zdec DX1_tell 26 rfl) rfl rfl (by decide) ?_
      refine z_getr (rw1 := -11) (ki := 11) (r' := 13) 1 1 (zdec DX1_tell 27 rfl) rfl rfl shp1 rfl (by decide) rfl rfl fl_SixWalls_Comb_45 (zPa hP 20 rfl) ?_
      refine z_iload_n 1 (zdec DX1_tell 28 rfl) rfl rfl ?_
      refine z_iload_n 3 (zdec DX1_tell 29 rfl) rfl rfl ?_
      refine z_iast 13 (zdec DX1_tell 30 rfl) rfl shp13 ⟨by omega, by omega⟩ ?_
      refine z_goto 103 (zdec DX1_tell 31 rfl) rfl ?_
      exact z_vret (zdec DX1_tell 39 rfl) rfl (⟨rfl, rfl, by unfold ztell; (repeat (first | rw [if_pos (by omega)] | rw [if_neg (by omega)]))⟩)
    | 5, hj, he =>
      cases hj
      refine ⟨90, rfl, ?_⟩
      have h1 : what = 5 := by simpa using he
      refine z_aload_n 0 (zdec DX1_tell 32 rfl) rfl rfl (by decide) ?_
      refine z_iload_n 3 (zdec DX1_tell 33 rfl) rfl rfl ?_
      refine z_puti (ki := 12) 1 1 (zdec DX1_tell 34 rfl) rfl shp1 rfl (by decide) rfl rfl fl_SixWalls_Comb_48 (Or.inl rfl) ?_
      refine z_goto 103 (zdec DX1_tell 35 rfl) rfl ?_
      exact z_vret (zdec DX1_tell 39 rfl) rfl (⟨rfl, rfl, by unfold ztell; (repeat (first | rw [if_pos (by omega)] | rw [if_neg (by omega)]))⟩)
    | j + 6, hj, he => exact absurd (List.getElem?_eq_some_iff.mp hj).1 (by simp)
  · refine ⟨98, rfl, ?_⟩
    refine z_aload_n 0 (zdec DX1_tell 36 rfl) rfl rfl (by decide) ?_
    refine z_iload_n 3 (zdec DX1_tell 37 rfl) rfl rfl ?_
    refine z_puti (ki := 13) 1 1 (zdec DX1_tell 38 rfl) rfl shp1 rfl (by decide) rfl rfl fl_SixWalls_Comb_52 (Or.inl rfl) ?_
    exact z_vret (zdec DX1_tell 39 rfl) rfl (⟨rfl, rfl, by unfold ztell; (repeat (first | rw [if_pos (by omega)] | rw [if_neg (by omega)]))⟩)
end
section
/-! contracts of History; wall, mend, undo, redo of SixWalls -/
def zrec0 (M : zMm) : zMm := zup (zcpy (zcpy (zcpy (zcpy M 38 1 38 0 39) 39 1 39 0 39) 40 1 40 0 39) 41 1 41 0 39) 37 5 39
def zrec1 (M : zMm) (k n what was now : Int) : zMm := zup (zup (zup (zup (zup (zup M 38 k n) 39 k what) 40 k was) 41 k now) 37 5 (k + 1)) 37 6 (k + 1)
def zrec (M : zMm) (n what was now : Int) : zMm := if M 37 5 < 40 then zrec1 M (M 37 5) n what was now else zrec1 (zrec0 M) 39 n what was now
/-- the history's own bounds -/
def zHi (M : zMm) : Prop := 0 ≤ M 37 5 ∧ M 37 5 ≤ M 37 6 ∧ M 37 6 ≤ 40 ∧ ∀ k : Int, 0 ≤ k → k < M 37 6 → zknown (M 38 k) (M 39 k)
theorem ztell_row {M : zMm} {n what v c : Int} (h : c ≠ 8 ∧ c ≠ 10 ∧ c ≠ 11 ∧ c ≠ 12 ∧ c ≠ 13 ∧ c ≠ 1) : ztell M n what v c = M c := by
  unfold ztell
  repeat (first | rw [zup_row (by omega)] | split)
theorem zP_tell {M : zMm} {n what v : Int} (h : zP M) : zP (ztell M n what v) := zP_of h fun r hr => ztell_row (by omega)
def zundo (M : zMm) : zMm := ztell (zup M 37 5 (M 37 5 - 1)) (M 38 (M 37 5 - 1)) (M 39 (M 37 5 - 1)) (M 40 (M 37 5 - 1))
def zredo (M : zMm) : zMm := zup (ztell M (M 38 (M 37 5)) (M 39 (M 37 5)) (M 41 (M 37 5))) 37 5 (M 37 5 + 1)
set_option maxHeartbeats 4000000 in
theorem cX3_dropOldest_38 {M : zMm} : zW mX3_dropOldest 1 (fun rv S' M' => S' = zS0 ∧ rv = none ∧ M' = zcpy M 38 1 38 0 39) (0, 0) zS0 0 (zargs 0 [.inr (.inr 38)]) [] M := by
  change zW _ _ _ _ _ 0 [(0, .inr (.inr 38))] [] M
  refine z_aload_n 0 (zdec DX3_dropOldest 0 rfl) rfl rfl (by decide) ?_
  refine z_iconst 1 (zdec DX3_dropOldest 1 rfl) (by decide) ?_
  refine z_aload_n 0 (zdec DX3_dropOldest 2 rfl) rfl rfl (by decide) ?_
  refine z_iconst 0 (zdec DX3_dropOldest 3 rfl) (by decide) ?_
  refine z_bipush 39 (zdec DX3_dropOldest 4 rfl) (by decide) ?_
  refine z_copyi 38 38 (zdec DX3_dropOldest 5 rfl) ml_SixWalls_History_39 zcp1 zcp2 zcp3 rfl rfl shp38 shp38 ⟨by omega, by omega, by omega⟩ ⟨by omega, by omega⟩ (by decide) rfl ?_
  exact z_vret (zdec DX3_dropOldest 6 rfl) rfl (⟨rfl, rfl, rfl⟩)
set_option maxHeartbeats 4000000 in
theorem cX3_dropOldest_39 {M : zMm} : zW mX3_dropOldest 1 (fun rv S' M' => S' = zS0 ∧ rv = none ∧ M' = zcpy M 39 1 39 0 39) (0, 0) zS0 0 (zargs 0 [.inr (.inr 39)]) [] M := by
  change zW _ _ _ _ _ 0 [(0, .inr (.inr 39))] [] M
  refine z_aload_n 0 (zdec DX3_dropOldest 0 rfl) rfl rfl (by decide) ?_
  refine z_iconst 1 (zdec DX3_dropOldest 1 rfl) (by decide) ?_
  refine z_aload_n 0 (zdec DX3_dropOldest 2 rfl) rfl rfl (by decide) ?_
  refine z_iconst 0 (zdec DX3_dropOldest 3 rfl) (by decide) ?_
  refine z_bipush 39 (zdec DX3_dropOldest 4 rfl) (by decide) ?_
  refine z_copyi 39 39 (zdec DX3_dropOldest 5 rfl) ml_SixWalls_History_39 zcp1 zcp2 zcp3 rfl rfl shp39 shp39 ⟨by omega, by omega, by omega⟩ ⟨by omega, by omega⟩ (by decide) rfl ?_
  exact z_vret (zdec DX3_dropOldest 6 rfl) rfl (⟨rfl, rfl, rfl⟩)
set_option maxHeartbeats 4000000 in
theorem cX3_dropOldest_40 {M : zMm} : zW mX3_dropOldest 1 (fun rv S' M' => S' = zS0 ∧ rv = none ∧ M' = zcpy M 40 1 40 0 39) (0, 0) zS0 0 (zargs 0 [.inr (.inr 40)]) [] M := by
  change zW _ _ _ _ _ 0 [(0, .inr (.inr 40))] [] M
  refine z_aload_n 0 (zdec DX3_dropOldest 0 rfl) rfl rfl (by decide) ?_
  refine z_iconst 1 (zdec DX3_dropOldest 1 rfl) (by decide) ?_
  refine z_aload_n 0 (zdec DX3_dropOldest 2 rfl) rfl rfl (by decide) ?_
  refine z_iconst 0 (zdec DX3_dropOldest 3 rfl) (by decide) ?_
  refine z_bipush 39 (zdec DX3_dropOldest 4 rfl) (by decide) ?_
  refine z_copyi 40 40 (zdec DX3_dropOldest 5 rfl) ml_SixWalls_History_39 zcp1 zcp2 zcp3 rfl rfl shp40 shp40 ⟨by omega, by omega, by omega⟩ ⟨by omega, by omega⟩ (by decide) rfl ?_
  exact z_vret (zdec DX3_dropOldest 6 rfl) rfl (⟨rfl, rfl, rfl⟩)
set_option maxHeartbeats 4000000 in
theorem cX3_dropOldest_41 {M : zMm} : zW mX3_dropOldest 1 (fun rv S' M' => S' = zS0 ∧ rv = none ∧ M' = zcpy M 41 1 41 0 39) (0, 0) zS0 0 (zargs 0 [.inr (.inr 41)]) [] M := by
  change zW _ _ _ _ _ 0 [(0, .inr (.inr 41))] [] M
  refine z_aload_n 0 (zdec DX3_dropOldest 0 rfl) rfl rfl (by decide) ?_
  refine z_iconst 1 (zdec DX3_dropOldest 1 rfl) (by decide) ?_
  refine z_aload_n 0 (zdec DX3_dropOldest 2 rfl) rfl rfl (by decide) ?_
  refine z_iconst 0 (zdec DX3_dropOldest 3 rfl) (by decide) ?_
  refine z_bipush 39 (zdec DX3_dropOldest 4 rfl) (by decide) ?_
  refine z_copyi 41 41 (zdec DX3_dropOldest 5 rfl) ml_SixWalls_History_39 zcp1 zcp2 zcp3 rfl rfl shp41 shp41 ⟨by omega, by omega, by omega⟩ ⟨by omega, by omega⟩ (by decide) rfl ?_
  exact z_vret (zdec DX3_dropOldest 6 rfl) rfl (⟨rfl, rfl, rfl⟩)
set_option maxHeartbeats 4000000 in
theorem cX3_record {M : zMm} (hP : zP M) (hs : 0 ≤ M 37 5 ∧ M 37 5 ≤ 40) (n what was now : Int) : zW mX3_record 2 (fun rv S' M' => S' = zS0 ∧ rv = none ∧ M' = zrec M n what was now) (0, 0) zS0 0 (zargs 0 [.inr (.inr 37), .inl n, .inl what, .inl was, .inl now]) [] M := by
  change zW _ _ _ _ _ 0 [(0, .inr (.inr 37)), (1, .inl n), (2, .inl what), (3, .inl was), (4, .inl now)] [] M
  refine z_aload_n 0 (zdec DX3_record 0 rfl) rfl rfl (by decide) ?_
  refine z_geti (ki := 5) 37 3 (zdec DX3_record 1 rfl) rfl shp37 rfl (by decide) rfl rfl fl_SixWalls_History_24 ?_
  refine z_bipush 40 (zdec DX3_record 2 rfl) (by decide) ?_
  refine z_icmp_lt 43 (zdec DX3_record 3 rfl) rfl (fun h6 => ?_) (fun h6 => ?_)
  ·
    refine z_aload_n 0 (zdec DX3_record 19 rfl) rfl rfl (by decide) ?_
    refine z_getr (rw1 := -47) (ki := 1) (r' := 38) 37 3 (zdec DX3_record 20 rfl) rfl rfl shp37 rfl (by decide) rfl rfl fl_SixWalls_History_11 (zPa hP 41 rfl) ?_
    refine z_aload_n 0 (zdec DX3_record 21 rfl) rfl rfl (by decide) ?_
    refine z_geti (ki := 5) 37 3 (zdec DX3_record 22 rfl) rfl shp37 rfl (by decide) rfl rfl fl_SixWalls_History_24 ?_
    refine z_iload_n 1 (zdec DX3_record 23 rfl) rfl rfl ?_
    refine z_iast 38 (zdec DX3_record 24 rfl) rfl shp38 ⟨by omega, by omega⟩ ?_
    refine z_aload_n 0 (zdec DX3_record 25 rfl) rfl rfl (by decide) ?_
    refine z_getr (rw1 := -47) (ki := 2) (r' := 39) 37 3 (zdec DX3_record 26 rfl) rfl rfl shp37 rfl (by decide) rfl rfl fl_SixWalls_History_15 (zPa (zP_up hP (by decide)) 42 rfl) ?_
    refine z_aload_n 0 (zdec DX3_record 27 rfl) rfl rfl (by decide) ?_
    refine z_geti (ki := 5) 37 3 (zdec DX3_record 28 rfl) rfl shp37 rfl (by decide) rfl rfl fl_SixWalls_History_24 ?_
    rw [show (zup M 38 (M 37 5) n) 37 5 = M 37 5 from by simp [zup, zcpy]]
    refine z_iload_n 2 (zdec DX3_record 29 rfl) rfl rfl ?_
    refine z_iast 39 (zdec DX3_record 30 rfl) rfl shp39 ⟨by omega, by omega⟩ ?_
    refine z_aload_n 0 (zdec DX3_record 31 rfl) rfl rfl (by decide) ?_
    refine z_getr (rw1 := -47) (ki := 3) (r' := 40) 37 3 (zdec DX3_record 32 rfl) rfl rfl shp37 rfl (by decide) rfl rfl fl_SixWalls_History_18 (zPa (zP_up (zP_up hP (by decide)) (by decide)) 43 rfl) ?_
    refine z_aload_n 0 (zdec DX3_record 33 rfl) rfl rfl (by decide) ?_
    refine z_geti (ki := 5) 37 3 (zdec DX3_record 34 rfl) rfl shp37 rfl (by decide) rfl rfl fl_SixWalls_History_24 ?_
    rw [show (zup (zup M 38 (M 37 5) n) 39 (M 37 5) what) 37 5 = M 37 5 from by simp [zup, zcpy]]
    refine z_iload_n 3 (zdec DX3_record 35 rfl) rfl rfl ?_
    refine z_iast 40 (zdec DX3_record 36 rfl) rfl shp40 ⟨by omega, by omega⟩ ?_
    refine z_aload_n 0 (zdec DX3_record 37 rfl) rfl rfl (by decide) ?_
    refine z_getr (rw1 := -47) (ki := 4) (r' := 41) 37 3 (zdec DX3_record 38 rfl) rfl rfl shp37 rfl (by decide) rfl rfl fl_SixWalls_History_21 (zPa (zP_up (zP_up (zP_up hP (by decide)) (by decide)) (by decide)) 44 rfl) ?_
    refine z_aload_n 0 (zdec DX3_record 39 rfl) rfl rfl (by decide) ?_
    refine z_geti (ki := 5) 37 3 (zdec DX3_record 40 rfl) rfl shp37 rfl (by decide) rfl rfl fl_SixWalls_History_24 ?_
    rw [show (zup (zup (zup M 38 (M 37 5) n) 39 (M 37 5) what) 40 (M 37 5) was) 37 5 = M 37 5 from by simp [zup, zcpy]]
    refine z_iload 4 (zdec DX3_record 41 rfl) rfl ?_
    refine z_iast 41 (zdec DX3_record 42 rfl) rfl shp41 ⟨by omega, by omega⟩ ?_
    refine z_aload_n 0 (zdec DX3_record 43 rfl) rfl rfl (by decide) ?_
    refine z_dup (zdec DX3_record 44 rfl) rfl ?_
    refine z_geti (ki := 5) 37 3 (zdec DX3_record 45 rfl) rfl shp37 rfl (by decide) rfl rfl fl_SixWalls_History_24 ?_
    rw [show (zup (zup (zup (zup M 38 (M 37 5) n) 39 (M 37 5) what) 40 (M 37 5) was) 41 (M 37 5) now) 37 5 = M 37 5 from by simp [zup, zcpy]]
    refine z_iconst 1 (zdec DX3_record 46 rfl) (by decide) ?_
    refine z_iadd (zdec DX3_record 47 rfl) (by unfold z32; omega) ?_
    refine z_puti (ki := 5) 37 3 (zdec DX3_record 48 rfl) rfl shp37 rfl (by decide) rfl rfl fl_SixWalls_History_24 (Or.inl rfl) ?_
    refine z_aload_n 0 (zdec DX3_record 49 rfl) rfl rfl (by decide) ?_
    refine z_aload_n 0 (zdec DX3_record 50 rfl) rfl rfl (by decide) ?_
    refine z_geti (ki := 5) 37 3 (zdec DX3_record 51 rfl) rfl shp37 rfl (by decide) rfl rfl fl_SixWalls_History_24 ?_
    rw [show (zup (zup (zup (zup (zup M 38 (M 37 5) n) 39 (M 37 5) what) 40 (M 37 5) was) 41 (M 37 5) now) 37 5 ((M 37 5) + 1)) 37 5 = (M 37 5) + 1 from by simp [zup, zcpy]]
    refine z_puti (ki := 6) 37 3 (zdec DX3_record 52 rfl) rfl shp37 rfl (by decide) rfl rfl fl_SixWalls_History_28 (Or.inl rfl) ?_
    exact z_vret (zdec DX3_record 53 rfl) rfl (⟨rfl, rfl, by unfold zrec; rw [if_pos h6]; rfl⟩)
  ·
    refine z_aload_n 0 (zdec DX3_record 4 rfl) rfl rfl (by decide) ?_
    refine z_getr (rw1 := -47) (ki := 1) (r' := 38) 37 3 (zdec DX3_record 5 rfl) rfl rfl shp37 rfl (by decide) rfl rfl fl_SixWalls_History_11 (zPa hP 41 rfl) ?_
    refine z_invs mX3_dropOldest [.inr (.inr 38)] (zdec DX3_record 6 rfl) (Or.inl ml_SixWalls_History_35) okX3_dropOldest rfl rfl (Nat.le_of_ble_eq_true rfl) (Nat.le_of_ble_eq_true rfl) (b' := (0, 0)) ⟨Nat.le_refl 0, Nat.le_refl 0⟩ (Nat.le_of_ble_eq_true rfl) cX3_dropOldest_38 (fun rv9 S9 M13 h9 => ?_)
    obtain ⟨rfl, rfl, rfl⟩ := h9
    change zW _ _ _ _ _ 16 [(0, .inr (.inr 37)), (1, .inl n), (2, .inl what), (3, .inl was), (4, .inl now)] [] (zcpy M 38 1 38 0 39)
    refine z_aload_n 0 (zdec DX3_record 7 rfl) rfl rfl (by decide) ?_
    refine z_getr (rw1 := -47) (ki := 2) (r' := 39) 37 3 (zdec DX3_record 8 rfl) rfl rfl shp37 rfl (by decide) rfl rfl fl_SixWalls_History_15 (zPa (zP_cpy hP (by decide)) 42 rfl) ?_
    refine z_invs mX3_dropOldest [.inr (.inr 39)] (zdec DX3_record 9 rfl) (Or.inl ml_SixWalls_History_35) okX3_dropOldest rfl rfl (Nat.le_of_ble_eq_true rfl) (Nat.le_of_ble_eq_true rfl) (b' := (0, 0)) ⟨Nat.le_refl 0, Nat.le_refl 0⟩ (Nat.le_of_ble_eq_true rfl) cX3_dropOldest_39 (fun rv9 S9 M20 h9 => ?_)
    obtain ⟨rfl, rfl, rfl⟩ := h9
    change zW _ _ _ _ _ 23 [(0, .inr (.inr 37)), (1, .inl n), (2, .inl what), (3, .inl was), (4, .inl now)] [] (zcpy (zcpy M 38 1 38 0 39) 39 1 39 0 39)
    refine z_aload_n 0 (zdec DX3_record 10 rfl) rfl rfl (by decide) ?_
    refine z_getr (rw1 := -47) (ki := 3) (r' := 40) 37 3 (zdec DX3_record 11 rfl) rfl rfl shp37 rfl (by decide) rfl rfl fl_SixWalls_History_18 (zPa (zP_cpy (zP_cpy hP (by decide)) (by decide)) 43 rfl) ?_
    refine z_invs mX3_dropOldest [.inr (.inr 40)] (zdec DX3_record 12 rfl) (Or.inl ml_SixWalls_History_35) okX3_dropOldest rfl rfl (Nat.le_of_ble_eq_true rfl) (Nat.le_of_ble_eq_true rfl) (b' := (0, 0)) ⟨Nat.le_refl 0, Nat.le_refl 0⟩ (Nat.le_of_ble_eq_true rfl) cX3_dropOldest_40 (fun rv9 S9 M27 h9 => ?_)
    obtain ⟨rfl, rfl, rfl⟩ := h9
    change zW _ _ _ _ _ 30 [(0, .inr (.inr 37)), (1, .inl n), (2, .inl what), (3, .inl was), (4, .inl now)] [] (zcpy (zcpy (zcpy M 38 1 38 0 39) 39 1 39 0 39) 40 1 40 0 39)
    refine z_aload_n 0 (zdec DX3_record 13 rfl) rfl rfl (by decide) ?_
    refine z_getr (rw1 := -47) (ki := 4) (r' := 41) 37 3 (zdec DX3_record 14 rfl) rfl rfl shp37 rfl (by decide) rfl rfl fl_SixWalls_History_21 (zPa (zP_cpy (zP_cpy (zP_cpy hP (by decide)) (by decide)) (by decide)) 44 rfl) ?_
    refine z_invs mX3_dropOldest [.inr (.inr 41)] (zdec DX3_record 15 rfl) (Or.inl ml_SixWalls_History_35) okX3_dropOldest rfl rfl (Nat.le_of_ble_eq_true rfl) (Nat.le_of_ble_eq_true rfl) (b' := (0, 0)) ⟨Nat.le_refl 0, Nat.le_refl 0⟩ (Nat.le_of_ble_eq_true rfl) cX3_dropOldest_41 (fun rv9 S9 M34 h9 => ?_)
    obtain ⟨rfl, rfl, rfl⟩ := h9
    change zW _ _ _ _ _ 37 [(0, .inr (.inr 37)), (1, .inl n), (2, .inl what), (3, .inl was), (4, .inl now)] [] (zcpy (zcpy (zcpy (zcpy M 38 1 38 0 39) 39 1 39 0 39) 40 1 40 0 39) 41 1 41 0 39)
    refine z_aload_n 0 (zdec DX3_record 16 rfl) rfl rfl (by decide) ?_
    refine z_bipush 39 (zdec DX3_record 17 rfl) (by decide) ?_
    refine z_puti (ki := 5) 37 3 (zdec DX3_record 18 rfl) rfl shp37 rfl (by decide) rfl rfl fl_SixWalls_History_24 (Or.inl rfl) ?_
    refine z_aload_n 0 (zdec DX3_record 19 rfl) rfl rfl (by decide) ?_
    refine z_getr (rw1 := -47) (ki := 1) (r' := 38) 37 3 (zdec DX3_record 20 rfl) rfl rfl shp37 rfl (by decide) rfl rfl fl_SixWalls_History_11 (zPa (zP_up (zP_cpy (zP_cpy (zP_cpy (zP_cpy hP (by decide)) (by decide)) (by decide)) (by decide)) (by decide)) 41 rfl) ?_
    refine z_aload_n 0 (zdec DX3_record 21 rfl) rfl rfl (by decide) ?_
    refine z_geti (ki := 5) 37 3 (zdec DX3_record 22 rfl) rfl shp37 rfl (by decide) rfl rfl fl_SixWalls_History_24 ?_
    rw [show (zup (zcpy (zcpy (zcpy (zcpy M 38 1 38 0 39) 39 1 39 0 39) 40 1 40 0 39) 41 1 41 0 39) 37 5 39) 37 5 = 39 from by simp [zup, zcpy]]
    refine z_iload_n 1 (zdec DX3_record 23 rfl) rfl rfl ?_
    refine z_iast 38 (zdec DX3_record 24 rfl) rfl shp38 ⟨by omega, by omega⟩ ?_
    refine z_aload_n 0 (zdec DX3_record 25 rfl) rfl rfl (by decide) ?_
    refine z_getr (rw1 := -47) (ki := 2) (r' := 39) 37 3 (zdec DX3_record 26 rfl) rfl rfl shp37 rfl (by decide) rfl rfl fl_SixWalls_History_15 (zPa (zP_up (zP_up (zP_cpy (zP_cpy (zP_cpy (zP_cpy hP (by decide)) (by decide)) (by decide)) (by decide)) (by decide)) (by decide)) 42 rfl) ?_
    refine z_aload_n 0 (zdec DX3_record 27 rfl) rfl rfl (by decide) ?_
    refine z_geti (ki := 5) 37 3 (zdec DX3_record 28 rfl) rfl shp37 rfl (by decide) rfl rfl fl_SixWalls_History_24 ?_
    rw [show (zup (zup (zcpy (zcpy (zcpy (zcpy M 38 1 38 0 39) 39 1 39 0 39) 40 1 40 0 39) 41 1 41 0 39) 37 5 39) 38 39 n) 37 5 = 39 from by simp [zup, zcpy]]
    refine z_iload_n 2 (zdec DX3_record 29 rfl) rfl rfl ?_
    refine z_iast 39 (zdec DX3_record 30 rfl) rfl shp39 ⟨by omega, by omega⟩ ?_
    refine z_aload_n 0 (zdec DX3_record 31 rfl) rfl rfl (by decide) ?_
    refine z_getr (rw1 := -47) (ki := 3) (r' := 40) 37 3 (zdec DX3_record 32 rfl) rfl rfl shp37 rfl (by decide) rfl rfl fl_SixWalls_History_18 (zPa (zP_up (zP_up (zP_up (zP_cpy (zP_cpy (zP_cpy (zP_cpy hP (by decide)) (by decide)) (by decide)) (by decide)) (by decide)) (by decide)) (by decide)) 43 rfl) ?_
    refine z_aload_n 0 (zdec DX3_record 33 rfl) rfl rfl (by decide) ?_
    refine z_geti (ki := 5) 37 3 (zdec DX3_record 34 rfl) rfl shp37 rfl (by decide) rfl rfl fl_SixWalls_History_24 ?_
    rw [show (zup (zup (zup (zcpy (zcpy (zcpy (zcpy M 38 1 38 0 39) 39 1 39 0 39) 40 1 40 0 39) 41 1 41 0 39) 37 5 39) 38 39 n) 39 39 what) 37 5 = 39 from by simp [zup, zcpy]]
    refine z_iload_n 3 (zdec DX3_record 35 rfl) rfl rfl ?_
    refine z_iast 40 (zdec DX3_record 36 rfl) rfl shp40 ⟨by omega, by omega⟩ ?_
    refine z_aload_n 0 (zdec DX3_record 37 rfl) rfl rfl (by decide) ?_
    refine z_getr (rw1 := -47) (ki := 4) (r' := 41) 37 3 (zdec DX3_record 38 rfl) rfl rfl shp37 rfl (by decide) rfl rfl fl_SixWalls_History_21 (zPa (zP_up (zP_up (zP_up (zP_up (zP_cpy (zP_cpy (zP_cpy (zP_cpy hP (by decide)) (by decide)) (by decide)) (by decide)) (by decide)) (by decide)) (by decide)) (by decide)) 44 rfl) ?_
    refine z_aload_n 0 (zdec DX3_record 39 rfl) rfl rfl (by decide) ?_
    refine z_geti (ki := 5) 37 3 (zdec DX3_record 40 rfl) rfl shp37 rfl (by decide) rfl rfl fl_SixWalls_History_24 ?_
    rw [show (zup (zup (zup (zup (zcpy (zcpy (zcpy (zcpy M 38 1 38 0 39) 39 1 39 0 39) 40 1 40 0 39) 41 1 41 0 39) 37 5 39) 38 39 n) 39 39 what) 40 39 was) 37 5 = 39 from by simp [zup, zcpy]]
    refine z_iload 4 (zdec DX3_record 41 rfl) rfl ?_
    refine z_iast 41 (zdec DX3_record 42 rfl) rfl shp41 ⟨by omega, by omega⟩ ?_
    refine z_aload_n 0 (zdec DX3_record 43 rfl) rfl rfl (by decide) ?_
    refine z_dup (zdec DX3_record 44 rfl) rfl ?_
    refine z_geti (ki := 5) 37 3 (zdec DX3_record 45 rfl) rfl shp37 rfl (by decide) rfl rfl fl_SixWalls_History_24 ?_
    rw [show (zup (zup (zup (zup (zup (zcpy (zcpy (zcpy (zcpy M 38 1 38 0 39) 39 1 39 0 39) 40 1 40 0 39) 41 1 41 0 39) 37 5 39) 38 39 n) 39 39 what) 40 39 was) 41 39 now) 37 5 = 39 from by simp [zup, zcpy]]
    refine z_iconst 1 (zdec DX3_record 46 rfl) (by decide) ?_
    refine z_iadd (zdec DX3_record 47 rfl) (by unfold z32; omega) ?_
    refine z_puti (ki := 5) 37 3 (zdec DX3_record 48 rfl) rfl shp37 rfl (by decide) rfl rfl fl_SixWalls_History_24 (Or.inl rfl) ?_
    refine z_aload_n 0 (zdec DX3_record 49 rfl) rfl rfl (by decide) ?_
    refine z_aload_n 0 (zdec DX3_record 50 rfl) rfl rfl (by decide) ?_
    refine z_geti (ki := 5) 37 3 (zdec DX3_record 51 rfl) rfl shp37 rfl (by decide) rfl rfl fl_SixWalls_History_24 ?_
    rw [show (zup (zup (zup (zup (zup (zup (zcpy (zcpy (zcpy (zcpy M 38 1 38 0 39) 39 1 39 0 39) 40 1 40 0 39) 41 1 41 0 39) 37 5 39) 38 39 n) 39 39 what) 40 39 was) 41 39 now) 37 5 (39 + 1)) 37 5 = 39 + 1 from by simp [zup, zcpy]]
    refine z_puti (ki := 6) 37 3 (zdec DX3_record 52 rfl) rfl shp37 rfl (by decide) rfl rfl fl_SixWalls_History_28 (Or.inl rfl) ?_
    exact z_vret (zdec DX3_record 53 rfl) rfl (⟨rfl, rfl, by unfold zrec; rw [if_neg h6]; rfl⟩)
set_option maxHeartbeats 4000000 in
theorem cX3_undoable {M : zMm} : zW mX3_undoable 1 (fun rv S' M' => S' = zS0 ∧ M = M' ∧ rv = some (.inl (M 37 5))) (0, 0) zS0 0 (zargs 0 [.inr (.inr 37)]) [] M := by
  change zW _ _ _ _ _ 0 [(0, .inr (.inr 37))] [] M
  refine z_aload_n 0 (zdec DX3_undoable 0 rfl) rfl rfl (by decide) ?_
  refine z_geti (ki := 5) 37 3 (zdec DX3_undoable 1 rfl) rfl shp37 rfl (by decide) rfl rfl fl_SixWalls_History_24 ?_
  exact z_iret (zdec DX3_undoable 2 rfl) rfl (⟨rfl, rfl, rfl⟩)
set_option maxHeartbeats 4000000 in
theorem cX3_takeBack {M : zMm} (hP : zP M) (hH : zHi M) : zW mX3_takeBack 2 (fun rv S' M' => S' = zS0 ∧ ((M 37 5 = 0 ∧ rv = some (.inl (-5)) ∧ M = M') ∨ (M 37 5 ≠ 0 ∧ rv = some (.inl (M 37 5 - 1)) ∧ M' = zundo M))) (0, 0) zS0 0 (zargs 0 [.inr (.inr 37)]) [] M := by
  change zW _ _ _ _ _ 0 [(0, .inr (.inr 37))] [] M
  obtain ⟨hH1, hH2, hH3, hH4⟩ := hH
  refine z_aload_n 0 (zdec DX3_takeBack 0 rfl) rfl rfl (by decide) ?_
  refine z_geti (ki := 5) 37 3 (zdec DX3_takeBack 1 rfl) rfl shp37 rfl (by decide) rfl rfl fl_SixWalls_History_24 ?_
  refine z_if_ne 10 (zdec DX3_takeBack 2 rfl) rfl (fun h4 => ?_) (fun h4 => ?_)
  ·
    refine z_aload_n 0 (zdec DX3_takeBack 5 rfl) rfl rfl (by decide) ?_
    refine z_dup (zdec DX3_takeBack 6 rfl) rfl ?_
    refine z_geti (ki := 5) 37 3 (zdec DX3_takeBack 7 rfl) rfl shp37 rfl (by decide) rfl rfl fl_SixWalls_History_24 ?_
    refine z_iconst 1 (zdec DX3_takeBack 8 rfl) (by decide) ?_
    refine z_isub (zdec DX3_takeBack 9 rfl) (by unfold z32; omega) ?_
    refine z_puti (ki := 5) 37 3 (zdec DX3_takeBack 10 rfl) rfl shp37 rfl (by decide) rfl rfl fl_SixWalls_History_24 (Or.inl rfl) ?_
    refine z_aload_n 0 (zdec DX3_takeBack 11 rfl) rfl rfl (by decide) ?_
    refine z_getr (rw1 := -47) (ki := 0) (r' := 1) 37 3 (zdec DX3_takeBack 12 rfl) rfl rfl shp37 rfl (by decide) rfl rfl fl_SixWalls_History_31 (zPa (zP_up hP (by decide)) 40 rfl) ?_
    refine z_aload_n 0 (zdec DX3_takeBack 13 rfl) rfl rfl (by decide) ?_
    refine z_getr (rw1 := -47) (ki := 1) (r' := 38) 37 3 (zdec DX3_takeBack 14 rfl) rfl rfl shp37 rfl (by decide) rfl rfl fl_SixWalls_History_11 (zPa (zP_up hP (by decide)) 41 rfl) ?_
    refine z_aload_n 0 (zdec DX3_takeBack 15 rfl) rfl rfl (by decide) ?_
    refine z_geti (ki := 5) 37 3 (zdec DX3_takeBack 16 rfl) rfl shp37 rfl (by decide) rfl rfl fl_SixWalls_History_24 ?_
    rw [show (zup M 37 5 ((M 37 5) - 1)) 37 5 = (M 37 5) - 1 from by simp [zup, zcpy]]
    refine z_iald 38 (zdec DX3_takeBack 17 rfl) rfl shp38 ⟨by omega, by omega⟩ ?_
    rw [show (zup M 37 5 ((M 37 5) - 1)) 38 ((M 37 5) - 1) = M 38 ((M 37 5) - 1) from by simp [zup, zcpy]]
    refine z_aload_n 0 (zdec DX3_takeBack 18 rfl) rfl rfl (by decide) ?_
    refine z_getr (rw1 := -47) (ki := 2) (r' := 39) 37 3 (zdec DX3_takeBack 19 rfl) rfl rfl shp37 rfl (by decide) rfl rfl fl_SixWalls_History_15 (zPa (zP_up hP (by decide)) 42 rfl) ?_
    refine z_aload_n 0 (zdec DX3_takeBack 20 rfl) rfl rfl (by decide) ?_
    refine z_geti (ki := 5) 37 3 (zdec DX3_takeBack 21 rfl) rfl shp37 rfl (by decide) rfl rfl fl_SixWalls_History_24 ?_
    rw [show (zup M 37 5 ((M 37 5) - 1)) 37 5 = (M 37 5) - 1 from by simp [zup, zcpy]]
    refine z_iald 39 (zdec DX3_takeBack 22 rfl) rfl shp39 ⟨by omega, by omega⟩ ?_
    rw [show (zup M 37 5 ((M 37 5) - 1)) 39 ((M 37 5) - 1) = M 39 ((M 37 5) - 1) from by simp [zup, zcpy]]
    refine z_aload_n 0 (zdec DX3_takeBack 23 rfl) rfl rfl (by decide) ?_
    refine z_getr (rw1 := -47) (ki := 3) (r' := 40) 37 3 (zdec DX3_takeBack 24 rfl) rfl rfl shp37 rfl (by decide) rfl rfl fl_SixWalls_History_18 (zPa (zP_up hP (by decide)) 43 rfl) ?_
    refine z_aload_n 0 (zdec DX3_takeBack 25 rfl) rfl rfl (by decide) ?_
    refine z_geti (ki := 5) 37 3 (zdec DX3_takeBack 26 rfl) rfl shp37 rfl (by decide) rfl rfl fl_SixWalls_History_24 ?_
    rw [show (zup M 37 5 ((M 37 5) - 1)) 37 5 = (M 37 5) - 1 from by simp [zup, zcpy]]
    refine z_iald 40 (zdec DX3_takeBack 27 rfl) rfl shp40 ⟨by omega, by omega⟩ ?_
    rw [show (zup M 37 5 ((M 37 5) - 1)) 40 ((M 37 5) - 1) = M 40 ((M 37 5) - 1) from by simp [zup, zcpy]]
    refine z_inv mX1_tell 1 1 [.inl (M 38 ((M 37 5) - 1)), .inl (M 39 ((M 37 5) - 1)), .inl (M 40 ((M 37 5) - 1))] (zdec DX3_takeBack 28 rfl) ml_SixWalls_History_45 okX1_tell rfl shp1 rfl rfl rfl rfl (Nat.le_of_ble_eq_true rfl) (Nat.le_of_ble_eq_true rfl) (b' := (0, 0)) ⟨Nat.le_refl 0, Nat.le_refl 0⟩ (Nat.le_of_ble_eq_true rfl) (cX1_tell (zP_up hP (by decide)) (M 38 ((M 37 5) - 1)) (M 39 ((M 37 5) - 1)) (M 40 ((M 37 5) - 1)) (hH4 _ (by omega) (by omega))) (fun rv9 S9 M51 h9 => ?_)
    obtain ⟨rfl, rfl, e51⟩ := h9
    have hPM51 : zP M51 := by rw [e51]; exact zP_tell (zP_up hP (by decide))
    change zW _ _ _ _ _ 54 [(0, .inr (.inr 37))] [] M51
    refine z_aload_n 0 (zdec DX3_takeBack 29 rfl) rfl rfl (by decide) ?_
    refine z_geti (ki := 5) 37 3 (zdec DX3_takeBack 30 rfl) rfl shp37 rfl (by decide) rfl rfl fl_SixWalls_History_24 ?_
    rw [show M51 37 5 = M 37 5 - 1 from by rw [e51, ztell_row (by decide)]; exact zup_self _ _ _ _]
    exact z_iret (zdec DX3_takeBack 31 rfl) rfl (⟨rfl, Or.inr ⟨h4, rfl, e51⟩⟩)
  ·
    refine z_bipush (-5) (zdec DX3_takeBack 3 rfl) (by decide) ?_
    exact z_iret (zdec DX3_takeBack 4 rfl) rfl (⟨rfl, Or.inl ⟨by omega, rfl, rfl⟩⟩)
set_option maxHeartbeats 4000000 in
theorem cX3_doAgain {M : zMm} (hP : zP M) (hH : zHi M) : zW mX3_doAgain 2 (fun rv S' M' => S' = zS0 ∧ ((M 37 5 = M 37 6 ∧ rv = some (.inl (-5)) ∧ M = M') ∨ (M 37 5 < M 37 6 ∧ rv = some (.inl (M 37 6 - (M 37 5 + 1))) ∧ M' = zredo M))) (0, 0) zS0 0 (zargs 0 [.inr (.inr 37)]) [] M := by
  change zW _ _ _ _ _ 0 [(0, .inr (.inr 37))] [] M
  obtain ⟨hH1, hH2, hH3, hH4⟩ := hH
  refine z_aload_n 0 (zdec DX3_doAgain 0 rfl) rfl rfl (by decide) ?_
  refine z_geti (ki := 5) 37 3 (zdec DX3_doAgain 1 rfl) rfl shp37 rfl (by decide) rfl rfl fl_SixWalls_History_24 ?_
  refine z_aload_n 0 (zdec DX3_doAgain 2 rfl) rfl rfl (by decide) ?_
  refine z_geti (ki := 6) 37 3 (zdec DX3_doAgain 3 rfl) rfl shp37 rfl (by decide) rfl rfl fl_SixWalls_History_28 ?_
  refine z_icmp_lt 14 (zdec DX3_doAgain 4 rfl) rfl (fun h8 => ?_) (fun h8 => ?_)
  ·
    refine z_aload_n 0 (zdec DX3_doAgain 7 rfl) rfl rfl (by decide) ?_
    refine z_getr (rw1 := -47) (ki := 0) (r' := 1) 37 3 (zdec DX3_doAgain 8 rfl) rfl rfl shp37 rfl (by decide) rfl rfl fl_SixWalls_History_31 (zPa hP 40 rfl) ?_
    refine z_aload_n 0 (zdec DX3_doAgain 9 rfl) rfl rfl (by decide) ?_
    refine z_getr (rw1 := -47) (ki := 1) (r' := 38) 37 3 (zdec DX3_doAgain 10 rfl) rfl rfl shp37 rfl (by decide) rfl rfl fl_SixWalls_History_11 (zPa hP 41 rfl) ?_
    refine z_aload_n 0 (zdec DX3_doAgain 11 rfl) rfl rfl (by decide) ?_
    refine z_geti (ki := 5) 37 3 (zdec DX3_doAgain 12 rfl) rfl shp37 rfl (by decide) rfl rfl fl_SixWalls_History_24 ?_
    refine z_iald 38 (zdec DX3_doAgain 13 rfl) rfl shp38 ⟨by omega, by omega⟩ ?_
    refine z_aload_n 0 (zdec DX3_doAgain 14 rfl) rfl rfl (by decide) ?_
    refine z_getr (rw1 := -47) (ki := 2) (r' := 39) 37 3 (zdec DX3_doAgain 15 rfl) rfl rfl shp37 rfl (by decide) rfl rfl fl_SixWalls_History_15 (zPa hP 42 rfl) ?_
    refine z_aload_n 0 (zdec DX3_doAgain 16 rfl) rfl rfl (by decide) ?_
    refine z_geti (ki := 5) 37 3 (zdec DX3_doAgain 17 rfl) rfl shp37 rfl (by decide) rfl rfl fl_SixWalls_History_24 ?_
    refine z_iald 39 (zdec DX3_doAgain 18 rfl) rfl shp39 ⟨by omega, by omega⟩ ?_
    refine z_aload_n 0 (zdec DX3_doAgain 19 rfl) rfl rfl (by decide) ?_
    refine z_getr (rw1 := -47) (ki := 4) (r' := 41) 37 3 (zdec DX3_doAgain 20 rfl) rfl rfl shp37 rfl (by decide) rfl rfl fl_SixWalls_History_21 (zPa hP 44 rfl) ?_
    refine z_aload_n 0 (zdec DX3_doAgain 21 rfl) rfl rfl (by decide) ?_
    refine z_geti (ki := 5) 37 3 (zdec DX3_doAgain 22 rfl) rfl shp37 rfl (by decide) rfl rfl fl_SixWalls_History_24 ?_
    refine z_iald 41 (zdec DX3_doAgain 23 rfl) rfl shp41 ⟨by omega, by omega⟩ ?_
    refine z_inv mX1_tell 1 1 [.inl (M 38 (M 37 5)), .inl (M 39 (M 37 5)), .inl (M 41 (M 37 5))] (zdec DX3_doAgain 24 rfl) ml_SixWalls_History_45 okX1_tell rfl shp1 rfl rfl rfl rfl (Nat.le_of_ble_eq_true rfl) (Nat.le_of_ble_eq_true rfl) (b' := (0, 0)) ⟨Nat.le_refl 0, Nat.le_refl 0⟩ (Nat.le_of_ble_eq_true rfl) (cX1_tell hP (M 38 (M 37 5)) (M 39 (M 37 5)) (M 41 (M 37 5)) (hH4 _ (by omega) (by omega))) (fun rv9 S9 M45 h9 => ?_)
    obtain ⟨rfl, rfl, e45⟩ := h9
    have hPM45 : zP M45 := by rw [e45]; exact zP_tell hP
    have r45 : M45 37 = M 37 := by rw [e45, ztell_row (by decide)]
    change zW _ _ _ _ _ 48 [(0, .inr (.inr 37))] [] M45
    refine z_aload_n 0 (zdec DX3_doAgain 25 rfl) rfl rfl (by decide) ?_
    refine z_dup (zdec DX3_doAgain 26 rfl) rfl ?_
    refine z_geti (ki := 5) 37 3 (zdec DX3_doAgain 27 rfl) rfl shp37 rfl (by decide) rfl rfl fl_SixWalls_History_24 ?_
    rw [r45]
    refine z_iconst 1 (zdec DX3_doAgain 28 rfl) (by decide) ?_
    refine z_iadd (zdec DX3_doAgain 29 rfl) (by unfold z32; omega) ?_
    refine z_puti (ki := 5) 37 3 (zdec DX3_doAgain 30 rfl) rfl shp37 rfl (by decide) rfl rfl fl_SixWalls_History_24 (Or.inl rfl) ?_
    refine z_aload_n 0 (zdec DX3_doAgain 31 rfl) rfl rfl (by decide) ?_
    refine z_geti (ki := 6) 37 3 (zdec DX3_doAgain 32 rfl) rfl shp37 rfl (by decide) rfl rfl fl_SixWalls_History_28 ?_
    rw [show (zup M45 37 5 ((M 37 5) + 1)) 37 6 = M45 37 6 from by simp [zup, zcpy]]
    rw [r45]
    refine z_aload_n 0 (zdec DX3_doAgain 33 rfl) rfl rfl (by decide) ?_
    refine z_geti (ki := 5) 37 3 (zdec DX3_doAgain 34 rfl) rfl shp37 rfl (by decide) rfl rfl fl_SixWalls_History_24 ?_
    rw [show (zup M45 37 5 ((M 37 5) + 1)) 37 5 = (M 37 5) + 1 from by simp [zup, zcpy]]
    refine z_isub (zdec DX3_doAgain 35 rfl) (by unfold z32; omega) ?_
    exact z_iret (zdec DX3_doAgain 36 rfl) rfl (⟨rfl, Or.inr ⟨h8, rfl, by unfold zredo; rw [e45]⟩⟩)
  ·
    refine z_bipush (-5) (zdec DX3_doAgain 5 rfl) (by decide) ?_
    exact z_iret (zdec DX3_doAgain 6 rfl) rfl (⟨rfl, Or.inl ⟨by omega, rfl, rfl⟩⟩)
set_option maxHeartbeats 4000000 in
theorem cX9_undo {M : zMm} (hP : zP M) (hH : zHi M) : zW mX9_undo 3 (fun rv S' M' => S' = zS0 ∧ ((M 37 5 = 0 ∧ rv = some (.inl (-5)) ∧ M = M') ∨ (M 37 5 ≠ 0 ∧ rv = some (.inl (M 37 5 - 1)) ∧ M' = zundo M))) (0, 0) zS0 0 (zargs 0 [.inr (.inr 0)]) [] M := by
  change zW _ _ _ _ _ 0 [(0, .inr (.inr 0))] [] M
  refine z_aload_n 0 (zdec DX9_undo 0 rfl) rfl rfl (by decide) ?_
  refine z_getr (rw1 := -10) (ki := 6) (r' := 37) 0 9 (zdec DX9_undo 1 rfl) rfl rfl shp0 rfl (by decide) rfl rfl fl_SixWalls_58 (zPa hP 6 rfl) ?_
  refine z_inv mX3_takeBack 37 3 [] (zdec DX9_undo 2 rfl) ml_SixWalls_291 okX3_takeBack rfl shp37 rfl rfl rfl rfl (Nat.le_of_ble_eq_true rfl) (Nat.le_of_ble_eq_true rfl) (b' := (0, 0)) ⟨Nat.le_refl 0, Nat.le_refl 0⟩ (Nat.le_of_ble_eq_true rfl) (cX3_takeBack hP hH) (fun rv9 S9 M7 h9 => ?_)
  obtain ⟨rfl, h7⟩ := h9
  obtain ⟨r7, rfl⟩ : ∃ r, rv9 = some (.inl r) := by rcases h7 with h | h <;> exact ⟨_, h.2.1⟩
  change zW _ _ _ _ _ 7 [(0, .inr (.inr 0))] [.inl r7] M7
  exact z_iret (zdec DX9_undo 3 rfl) rfl (⟨rfl, h7⟩)
set_option maxHeartbeats 4000000 in
theorem cX9_redo {M : zMm} (hP : zP M) (hH : zHi M) : zW mX9_redo 3 (fun rv S' M' => S' = zS0 ∧ ((M 37 5 = M 37 6 ∧ rv = some (.inl (-5)) ∧ M = M') ∨ (M 37 5 < M 37 6 ∧ rv = some (.inl (M 37 6 - (M 37 5 + 1))) ∧ M' = zredo M))) (0, 0) zS0 0 (zargs 0 [.inr (.inr 0)]) [] M := by
  change zW _ _ _ _ _ 0 [(0, .inr (.inr 0))] [] M
  refine z_aload_n 0 (zdec DX9_redo 0 rfl) rfl rfl (by decide) ?_
  refine z_getr (rw1 := -10) (ki := 6) (r' := 37) 0 9 (zdec DX9_redo 1 rfl) rfl rfl shp0 rfl (by decide) rfl rfl fl_SixWalls_58 (zPa hP 6 rfl) ?_
  refine z_inv mX3_doAgain 37 3 [] (zdec DX9_redo 2 rfl) ml_SixWalls_294 okX3_doAgain rfl shp37 rfl rfl rfl rfl (Nat.le_of_ble_eq_true rfl) (Nat.le_of_ble_eq_true rfl) (b' := (0, 0)) ⟨Nat.le_refl 0, Nat.le_refl 0⟩ (Nat.le_of_ble_eq_true rfl) (cX3_doAgain hP hH) (fun rv9 S9 M7 h9 => ?_)
  obtain ⟨rfl, h7⟩ := h9
  obtain ⟨r7, rfl⟩ : ∃ r, rv9 = some (.inl r) := by rcases h7 with h | h <;> exact ⟨_, h.2.1⟩
  change zW _ _ _ _ _ 7 [(0, .inr (.inr 0))] [.inl r7] M7
  exact z_iret (zdec DX9_redo 3 rfl) rfl (⟨rfl, h7⟩)
set_option maxHeartbeats 4000000 in
theorem cX9_wall {M : zMm} (hP : zP M) (hG : zG M) (v : Int) : zW mX9_wall 4 (fun rv S' M' => S' = zS0 ∧ M = M' ∧ rv = some (.inl (if (0 ≤ v ∧ v / 100 < 16 ∧ v % 100 < 16) ∧ v / 100 ≠ v % 100 then (if zwb (v / 100) (v % 100) < 0 then -2 else zwb (v / 100) (v % 100)) else -1))) (0, 0) zS0 0 (zargs 0 [.inr (.inr 0), .inl v]) [] M := by
  change zW _ _ _ _ _ 0 [(0, .inr (.inr 0)), (1, .inl v)] [] M
  refine z_iload_n 1 (zdec DX9_wall 0 rfl) rfl rfl ?_
  refine z_invs mX9_isPair [.inl v] (zdec DX9_wall 1 rfl) (Or.inl ml_SixWalls_84) okX9_isPair rfl rfl (Nat.le_of_ble_eq_true rfl) (Nat.le_of_ble_eq_true rfl) (b' := (0, 0)) ⟨Nat.le_refl 0, Nat.le_refl 0⟩ (Nat.le_of_ble_eq_true rfl) (cX9_isPair v) (fun rv9 S9 M1 h9 => ?_)
  obtain ⟨rfl, rfl, rfl⟩ := h9
  change zW _ _ _ _ _ 4 [(0, .inr (.inr 0)), (1, .inl v)] [.inl (zb (0 ≤ v ∧ v / 100 < 16 ∧ v % 100 < 16))] M
  refine z_if_eq 18 (zdec DX9_wall 2 rfl) rfl (fun h4 => ?_) (fun h4 => ?_)
  ·
    refine z_iconst (-1) (zdec DX9_wall 10 rfl) (by decide) ?_
    exact z_iret (zdec DX9_wall 11 rfl) rfl (⟨rfl, rfl, zri (by (try rw [zb_eq0] at h4); (repeat (first | rw [if_pos (by omega)] | rw [if_neg (by omega)])))⟩)
  ·
    rw [zb_eq0, Classical.not_not] at h4
    refine z_iload_n 1 (zdec DX9_wall 3 rfl) rfl rfl ?_
    refine z_bipush 100 (zdec DX9_wall 4 rfl) (by decide) ?_
    refine z_idivp (zdec DX9_wall 5 rfl) (by omega) (by omega) ?_
    refine z_iload_n 1 (zdec DX9_wall 6 rfl) rfl rfl ?_
    refine z_bipush 100 (zdec DX9_wall 7 rfl) (by decide) ?_
    refine z_iremp (zdec DX9_wall 8 rfl) (by omega) (by omega) ?_
    refine z_icmp_ne 20 (zdec DX9_wall 9 rfl) rfl (fun h15 => ?_) (fun h15 => ?_)
    ·
      refine z_aload_n 0 (zdec DX9_wall 12 rfl) rfl rfl (by decide) ?_
      refine z_getr (rw1 := -10) (ki := 0) (r' := 1) 0 9 (zdec DX9_wall 13 rfl) rfl rfl shp0 rfl (by decide) rfl rfl fl_SixWalls_10 (zPa hP 0 rfl) ?_
      refine z_iload_n 1 (zdec DX9_wall 14 rfl) rfl rfl ?_
      refine z_bipush 100 (zdec DX9_wall 15 rfl) (by decide) ?_
      refine z_idivp (zdec DX9_wall 16 rfl) (by omega) (by omega) ?_
      refine z_iload_n 1 (zdec DX9_wall 17 rfl) rfl rfl ?_
      refine z_bipush 100 (zdec DX9_wall 18 rfl) (by decide) ?_
      refine z_iremp (zdec DX9_wall 19 rfl) (by omega) (by omega) ?_
      refine z_inv mX1_wallBetween 1 1 [.inl (v / 100), .inl (v % 100)] (zdec DX9_wall 20 rfl) ml_SixWalls_87 okX1_wallBetween rfl shp1 rfl rfl rfl rfl (Nat.le_of_ble_eq_true rfl) (Nat.le_of_ble_eq_true rfl) (b' := (0, 0)) ⟨Nat.le_refl 0, Nat.le_refl 0⟩ (Nat.le_of_ble_eq_true rfl) (cX1_wallBetween hP hG (v / 100) (v % 100) ⟨by omega, by omega⟩ ⟨by omega, by omega⟩) (fun rv9 S9 M32 h9 => ?_)
      obtain ⟨rfl, rfl, rfl⟩ := h9
      change zW _ _ _ _ _ 35 [(0, .inr (.inr 0)), (1, .inl v)] [.inl (zwb (v / 100) (v % 100))] M
      refine z_istore_n (L' := [(0, .inr (.inr 0)), (1, .inl v), (2, .inl (zwb (v / 100) (v % 100)))]) (zdec DX9_wall 21 rfl) rfl rfl (by decide) ?_
      refine z_iload_n 2 (zdec DX9_wall 22 rfl) rfl rfl ?_
      refine z_if_ge 45 (zdec DX9_wall 23 rfl) rfl (fun h37 => ?_) (fun h37 => ?_)
      ·
        refine z_iload_n 2 (zdec DX9_wall 26 rfl) rfl rfl ?_
        exact z_iret (zdec DX9_wall 27 rfl) rfl (⟨rfl, rfl, zri (by (try rw [zb_eq0] at h4); (repeat (first | rw [if_pos (by omega)] | rw [if_neg (by omega)])))⟩)
      ·
        refine z_bipush (-2) (zdec DX9_wall 24 rfl) (by decide) ?_
        refine z_goto 46 (zdec DX9_wall 25 rfl) rfl ?_
        exact z_iret (zdec DX9_wall 27 rfl) rfl (⟨rfl, rfl, zri (by (try rw [zb_eq0] at h4); (repeat (first | rw [if_pos (by omega)] | rw [if_neg (by omega)])))⟩)
    ·
      refine z_iconst (-1) (zdec DX9_wall 10 rfl) (by decide) ?_
      exact z_iret (zdec DX9_wall 11 rfl) rfl (⟨rfl, rfl, zri (by (try rw [zb_eq0] at h4); (repeat (first | rw [if_pos (by omega)] | rw [if_neg (by omega)])))⟩)
set_option maxHeartbeats 4000000 in
theorem cX9_mend {M : zMm} (hP : zP M) (hs : 0 ≤ M 37 5 ∧ M 37 5 ≤ 40) (n what v : Int) : zW mX9_mend 4 (fun rv S' M' => S' = zS0 ∧ ((¬ zfit n what v ∧ rv = some (.inl (-1)) ∧ M = M') ∨ (zfit n what v ∧ rv = some (.inl (ztold M n what)) ∧ M' = if ztold M n what = v then M else zrec (ztell M n what v) n what (ztold M n what) v))) (0, 0) zS0 0 (zargs 0 [.inr (.inr 0), .inl n, .inl what, .inl v]) [] M := by
  change zW _ _ _ _ _ 0 [(0, .inr (.inr 0)), (1, .inl n), (2, .inl what), (3, .inl v)] [] M
  refine z_aload_n 0 (zdec DX9_mend 0 rfl) rfl rfl (by decide) ?_
  refine z_getr (rw1 := -10) (ki := 0) (r' := 1) 0 9 (zdec DX9_mend 1 rfl) rfl rfl shp0 rfl (by decide) rfl rfl fl_SixWalls_10 (zPa hP 0 rfl) ?_
  refine z_iload_n 1 (zdec DX9_mend 2 rfl) rfl rfl ?_
  refine z_iload_n 2 (zdec DX9_mend 3 rfl) rfl rfl ?_
  refine z_iload_n 3 (zdec DX9_mend 4 rfl) rfl rfl ?_
  refine z_inv mX1_fits 1 1 [.inl n, .inl what, .inl v] (zdec DX9_mend 5 rfl) ml_SixWalls_91 okX1_fits rfl shp1 rfl rfl rfl rfl (Nat.le_of_ble_eq_true rfl) (Nat.le_of_ble_eq_true rfl) (b' := (0, 0)) ⟨Nat.le_refl 0, Nat.le_refl 0⟩ (Nat.le_of_ble_eq_true rfl) (cX1_fits n what v) (fun rv9 S9 M7 h9 => ?_)
  obtain ⟨rfl, rfl, r7, rfl, hf⟩ := h9
  change zW _ _ _ _ _ 10 [(0, .inr (.inr 0)), (1, .inl n), (2, .inl what), (3, .inl v)] [.inl r7] M
  refine z_if_ne 15 (zdec DX9_mend 6 rfl) rfl (fun h10 => ?_) (fun h10 => ?_)
  ·
    obtain ⟨-, hf⟩ : r7 = 1 ∧ zfit n what v := hf.resolve_right (fun h => h10 h.1)
    have hk : zknown n what := hf.1
    refine z_aload_n 0 (zdec DX9_mend 9 rfl) rfl rfl (by decide) ?_
    refine z_getr (rw1 := -10) (ki := 0) (r' := 1) 0 9 (zdec DX9_mend 10 rfl) rfl rfl shp0 rfl (by decide) rfl rfl fl_SixWalls_10 (zPa hP 0 rfl) ?_
    refine z_iload_n 1 (zdec DX9_mend 11 rfl) rfl rfl ?_
    refine z_iload_n 2 (zdec DX9_mend 12 rfl) rfl rfl ?_
    refine z_inv mX1_told 1 1 [.inl n, .inl what] (zdec DX9_mend 13 rfl) ml_SixWalls_94 okX1_told rfl shp1 rfl rfl rfl rfl (Nat.le_of_ble_eq_true rfl) (Nat.le_of_ble_eq_true rfl) (b' := (0, 0)) ⟨Nat.le_refl 0, Nat.le_refl 0⟩ (Nat.le_of_ble_eq_true rfl) (cX1_told hP n what hk) (fun rv9 S9 M21 h9 => ?_)
    obtain ⟨rfl, rfl, rfl⟩ := h9
    change zW _ _ _ _ _ 24 [(0, .inr (.inr 0)), (1, .inl n), (2, .inl what), (3, .inl v)] [.inl (ztold M n what)] M
    refine z_istore (L' := [(0, .inr (.inr 0)), (1, .inl n), (2, .inl what), (3, .inl v), (4, .inl (ztold M n what))]) (zdec DX9_mend 14 rfl) rfl (by decide) ?_
    refine z_iload 4 (zdec DX9_mend 15 rfl) rfl ?_
    refine z_iload_n 3 (zdec DX9_mend 16 rfl) rfl rfl ?_
    refine z_icmp_eq 54 (zdec DX9_mend 17 rfl) rfl (fun h29 => ?_) (fun h29 => ?_)
    ·
      refine z_iload 4 (zdec DX9_mend 31 rfl) rfl ?_
      exact z_iret (zdec DX9_mend 32 rfl) rfl (⟨rfl, Or.inr ⟨hf, rfl, by rw [if_pos h29]⟩⟩)
    ·
      refine z_aload_n 0 (zdec DX9_mend 18 rfl) rfl rfl (by decide) ?_
      refine z_getr (rw1 := -10) (ki := 0) (r' := 1) 0 9 (zdec DX9_mend 19 rfl) rfl rfl shp0 rfl (by decide) rfl rfl fl_SixWalls_10 (zPa hP 0 rfl) ?_
      refine z_iload_n 1 (zdec DX9_mend 20 rfl) rfl rfl ?_
      refine z_iload_n 2 (zdec DX9_mend 21 rfl) rfl rfl ?_
      refine z_iload_n 3 (zdec DX9_mend 22 rfl) rfl rfl ?_
      refine z_inv mX1_tell 1 1 [.inl n, .inl what, .inl v] (zdec DX9_mend 23 rfl) ml_SixWalls_97 okX1_tell rfl shp1 rfl rfl rfl rfl (Nat.le_of_ble_eq_true rfl) (Nat.le_of_ble_eq_true rfl) (b' := (0, 0)) ⟨Nat.le_refl 0, Nat.le_refl 0⟩ (Nat.le_of_ble_eq_true rfl) (cX1_tell hP n what v hk) (fun rv9 S9 M39 h9 => ?_)
      obtain ⟨rfl, rfl, e39⟩ := h9
      have hPM39 : zP M39 := by rw [e39]; exact zP_tell hP
      have r39 : M39 37 = M 37 := by rw [e39, ztell_row (by decide)]
      change zW _ _ _ _ _ 42 [(0, .inr (.inr 0)), (1, .inl n), (2, .inl what), (3, .inl v), (4, .inl (ztold M n what))] [] M39
      refine z_aload_n 0 (zdec DX9_mend 24 rfl) rfl rfl (by decide) ?_
      refine z_getr (rw1 := -10) (ki := 6) (r' := 37) 0 9 (zdec DX9_mend 25 rfl) rfl rfl shp0 rfl (by decide) rfl rfl fl_SixWalls_58 (zPa hPM39 6 rfl) ?_
      refine z_iload_n 1 (zdec DX9_mend 26 rfl) rfl rfl ?_
      refine z_iload_n 2 (zdec DX9_mend 27 rfl) rfl rfl ?_
      refine z_iload 4 (zdec DX9_mend 28 rfl) rfl ?_
      refine z_iload_n 3 (zdec DX9_mend 29 rfl) rfl rfl ?_
      refine z_inv mX3_record 37 3 [.inl n, .inl what, .inl (ztold M n what), .inl v] (zdec DX9_mend 30 rfl) ml_SixWalls_101 okX3_record rfl shp37 rfl rfl rfl rfl (Nat.le_of_ble_eq_true rfl) (Nat.le_of_ble_eq_true rfl) (b' := (0, 0)) ⟨Nat.le_refl 0, Nat.le_refl 0⟩ (Nat.le_of_ble_eq_true rfl) (cX3_record hPM39 (by rw [r39]; exact hs) n what (ztold M n what) v) (fun rv9 S9 M51 h9 => ?_)
      obtain ⟨rfl, rfl, e51⟩ := h9
      change zW _ _ _ _ _ 54 [(0, .inr (.inr 0)), (1, .inl n), (2, .inl what), (3, .inl v), (4, .inl (ztold M n what))] [] M51
      refine z_iload 4 (zdec DX9_mend 31 rfl) rfl ?_
      exact z_iret (zdec DX9_mend 32 rfl) rfl (⟨rfl, Or.inr ⟨hf, rfl, by rw [if_neg h29, e51, e39]⟩⟩)
  ·
    refine z_iconst (-1) (zdec DX9_mend 7 rfl) (by decide) ?_
    exact z_iret (zdec DX9_mend 8 rfl) rfl (⟨rfl, Or.inl ⟨(hf.resolve_left (fun h => h10 (by omega))).2, rfl, rfl⟩⟩)
end
section
/-! contracts of Shelves; keep, row, put, element, shift of SixWalls -/
theorem shpRow {s : Int} (h : 0 ≤ s ∧ s < 6) : zS0[(50 + s).toNat]? = some (2, 60) := by
  rcases (show s = 0 ∨ s = 1 ∨ s = 2 ∨ s = 3 ∨ s = 4 ∨ s = 5 by omega) with rfl | rfl | rfl | rfl | rfl | rfl <;> rfl
theorem zP_rows {M : zMm} (hP : zP M) {s : Int} (h : 0 ≤ s ∧ s < 6) : M (-59) s = 50 + s := by
  rcases (show s = 0 ∨ s = 1 ∨ s = 2 ∨ s = 3 ∨ s = 4 ∨ s = 5 by omega) with rfl | rfl | rfl | rfl | rfl | rfl
  · exact zPa hP 51 rfl
  · exact zPa hP 52 rfl
  · exact zPa hP 53 rfl
  · exact zPa hP 54 rfl
  · exact zPa hP 55 rfl
  · exact zPa hP 56 rfl
def zfill (M : zMm) (c n v : Int) : zMm := fun c' k => if c' = c ∧ 0 ≤ k ∧ k < n then v else M c' k
theorem zfill_0 {M : zMm} {c v : Int} : zfill M c 0 v = M := by
  funext c' k
  unfold zfill
  rw [if_neg (by omega)]
theorem zfill_s {M : zMm} {c i v : Int} (h : 0 ≤ i) : zup (zfill M c i v) c i v = zfill M c (i + 1) v := by
  funext c' k
  unfold zup zfill
  by_cases h1 : c' = c ∧ k = i
  · rw [if_pos h1, if_pos (by omega)]
  · rw [if_neg h1]
    by_cases h2 : c' = c ∧ 0 ≤ k ∧ k < i
    · rw [if_pos h2, if_pos (by omega)]
    · rw [if_neg h2, if_neg (by omega)]
theorem zfill_row {M : zMm} {c n v c' : Int} (h : c' ≠ c) : zfill M c n v c' = M c' := by
  funext k
  unfold zfill
  rw [if_neg (by omega)]
theorem zP_fill {M : zMm} {c n v : Int} (h : zP M) (hc : 0 ≤ c) : zP (zfill M c n v) := zP_of h fun r hr => zfill_row (by omega)
def znarrow (sort v : Int) : Int := if sort = 0 then zi2b (zw v) else if sort = 1 then zi2s (zw v) else if sort = 2 then zw v else if sort = 3 then v else if v = 0 then 0 else 1
/-- why there is no row on a shelf; 0: there is one -/
def zrow1 (M : zMm) (s : Int) : Int := if ¬ (0 ≤ s ∧ s < 6) then -1 else if M 46 s = -1 then -11 else if M 46 s = 5 then -12 else 0
def zrefuse (M : zMm) (s i : Int) : Int := if zrow1 M s ≠ 0 then zrow1 M s else if 0 ≤ i ∧ i < M 48 s then 0 else -13
def zref2 (M : zMm) (s t : Int) : Int := if zrow1 M s = -1 ∨ zrow1 M t = -1 then -1 else if zrow1 M s = -11 ∨ zrow1 M t = -11 then -11 else if zrow1 M s ≠ 0 ∨ zrow1 M t ≠ 0 ∨ M 46 s ≠ M 46 t then -12 else 0
abbrev zstretch (M : zMm) (s i n : Int) : Prop := 0 ≤ i ∧ 0 ≤ n ∧ n ≤ M 48 s ∧ i ≤ M 48 s - n
theorem zrow1_in {M : zMm} {s : Int} (h : zrow1 M s = 0) : 0 ≤ s ∧ s < 6 := by
  unfold zrow1 at h
  split at h
  · omega
  · omega
/-- the shelves in their bounds -/
def zSv (M : zMm) : Prop := ∀ s : Int, 0 ≤ s → s < 6 → (-1 ≤ M 46 s ∧ M 46 s ≤ 5) ∧ (0 ≤ M 48 s ∧ M 48 s ≤ 60)
set_option maxHeartbeats 4000000 in
theorem cX6_isShelf {M : zMm} (s : Int) : zW mX6_isShelf 1 (fun rv S' M' => S' = zS0 ∧ M = M' ∧ rv = some (.inl (zb (0 ≤ s ∧ s < 6)))) (0, 0) zS0 0 (zargs 0 [.inr (.inr 45), .inl s]) [] M := by
  change zW _ _ _ _ _ 0 [(0, .inr (.inr 45)), (1, .inl s)] [] M
  refine z_iload_n 1 (zdec DX6_isShelf 0 rfl) rfl rfl ?_
  refine z_if_lt 14 (zdec DX6_isShelf 1 rfl) rfl (fun h1 => ?_) (fun h1 => ?_)
  ·
    refine z_iconst 0 (zdec DX6_isShelf 7 rfl) (by decide) ?_
    exact z_zret (zdec DX6_isShelf 8 rfl) rfl (by omega) (⟨rfl, rfl, zri (by unfold zb; split <;> omega)⟩)
  ·
    refine z_iload_n 1 (zdec DX6_isShelf 2 rfl) rfl rfl ?_
    refine z_bipush 6 (zdec DX6_isShelf 3 rfl) (by decide) ?_
    refine z_icmp_ge 14 (zdec DX6_isShelf 4 rfl) rfl (fun h7 => ?_) (fun h7 => ?_)
    ·
      refine z_iconst 0 (zdec DX6_isShelf 7 rfl) (by decide) ?_
      exact z_zret (zdec DX6_isShelf 8 rfl) rfl (by omega) (⟨rfl, rfl, zri (by unfold zb; split <;> omega)⟩)
    ·
      refine z_iconst 1 (zdec DX6_isShelf 5 rfl) (by decide) ?_
      refine z_goto 15 (zdec DX6_isShelf 6 rfl) rfl ?_
      exact z_zret (zdec DX6_isShelf 8 rfl) rfl (by omega) (⟨rfl, rfl, zri (by unfold zb; split <;> omega)⟩)
set_option maxHeartbeats 4000000 in
theorem cX6_isSort {M : zMm} (s : Int) : zW mX6_isSort 1 (fun rv S' M' => S' = zS0 ∧ M = M' ∧ rv = some (.inl (zb (0 ≤ s ∧ s ≤ 4)))) (0, 0) zS0 0 (zargs 0 [.inr (.inr 45), .inl s]) [] M := by
  change zW _ _ _ _ _ 0 [(0, .inr (.inr 45)), (1, .inl s)] [] M
  refine z_iload_n 1 (zdec DX6_isSort 0 rfl) rfl rfl ?_
  refine z_if_lt 13 (zdec DX6_isSort 1 rfl) rfl (fun h1 => ?_) (fun h1 => ?_)
  ·
    refine z_iconst 0 (zdec DX6_isSort 7 rfl) (by decide) ?_
    exact z_zret (zdec DX6_isSort 8 rfl) rfl (by omega) (⟨rfl, rfl, zri (by unfold zb; split <;> omega)⟩)
  ·
    refine z_iload_n 1 (zdec DX6_isSort 2 rfl) rfl rfl ?_
    refine z_iconst 4 (zdec DX6_isSort 3 rfl) (by decide) ?_
    refine z_icmp_gt 13 (zdec DX6_isSort 4 rfl) rfl (fun h6 => ?_) (fun h6 => ?_)
    ·
      refine z_iconst 0 (zdec DX6_isSort 7 rfl) (by decide) ?_
      exact z_zret (zdec DX6_isSort 8 rfl) rfl (by omega) (⟨rfl, rfl, zri (by unfold zb; split <;> omega)⟩)
    ·
      refine z_iconst 1 (zdec DX6_isSort 5 rfl) (by decide) ?_
      refine z_goto 14 (zdec DX6_isSort 6 rfl) rfl ?_
      exact z_zret (zdec DX6_isSort 8 rfl) rfl (by omega) (⟨rfl, rfl, zri (by unfold zb; split <;> omega)⟩)
set_option maxHeartbeats 4000000 in
theorem cX6_isBare {M : zMm} (hP : zP M) (s : Int) (hs : 0 ≤ s ∧ s < 6) : zW mX6_isBare 1 (fun rv S' M' => S' = zS0 ∧ M = M' ∧ rv = some (.inl (zb (M 46 s = -1)))) (0, 0) zS0 0 (zargs 0 [.inr (.inr 45), .inl s]) [] M := by
  change zW _ _ _ _ _ 0 [(0, .inr (.inr 45)), (1, .inl s)] [] M
  refine z_aload_n 0 (zdec DX6_isBare 0 rfl) rfl rfl (by decide) ?_
  refine z_getr (rw1 := -55) (ki := 0) (r' := 46) 45 6 (zdec DX6_isBare 1 rfl) rfl rfl shp45 rfl (by decide) rfl rfl fl_SixWalls_Shelves_11 (zPa hP 47 rfl) ?_
  refine z_iload_n 1 (zdec DX6_isBare 2 rfl) rfl rfl ?_
  refine z_iald 46 (zdec DX6_isBare 3 rfl) rfl shp46 ⟨by omega, by omega⟩ ?_
  refine z_iconst (-1) (zdec DX6_isBare 4 rfl) (by decide) ?_
  refine z_icmp_ne 14 (zdec DX6_isBare 5 rfl) rfl (fun h7 => ?_) (fun h7 => ?_)
  ·
    refine z_iconst 0 (zdec DX6_isBare 8 rfl) (by decide) ?_
    exact z_zret (zdec DX6_isBare 9 rfl) rfl (by omega) (⟨rfl, rfl, zri (by unfold zb; split <;> omega)⟩)
  ·
    refine z_iconst 1 (zdec DX6_isBare 6 rfl) (by decide) ?_
    refine z_goto 15 (zdec DX6_isBare 7 rfl) rfl ?_
    exact z_zret (zdec DX6_isBare 9 rfl) rfl (by omega) (⟨rfl, rfl, zri (by unfold zb; split <;> omega)⟩)
set_option maxHeartbeats 4000000 in
theorem cX6_mayBeBytes {M : zMm} (hP : zP M) (s : Int) (hs : 0 ≤ s ∧ s < 6) : zW mX6_mayBeBytes 1 (fun rv S' M' => S' = zS0 ∧ M = M' ∧ rv = some (.inl (zb (M 46 s = -1 ∨ M 46 s = 0)))) (0, 0) zS0 0 (zargs 0 [.inr (.inr 45), .inl s]) [] M := by
  change zW _ _ _ _ _ 0 [(0, .inr (.inr 45)), (1, .inl s)] [] M
  refine z_aload_n 0 (zdec DX6_mayBeBytes 0 rfl) rfl rfl (by decide) ?_
  refine z_getr (rw1 := -55) (ki := 0) (r' := 46) 45 6 (zdec DX6_mayBeBytes 1 rfl) rfl rfl shp45 rfl (by decide) rfl rfl fl_SixWalls_Shelves_11 (zPa hP 47 rfl) ?_
  refine z_iload_n 1 (zdec DX6_mayBeBytes 2 rfl) rfl rfl ?_
  refine z_iald 46 (zdec DX6_mayBeBytes 3 rfl) rfl shp46 ⟨by omega, by omega⟩ ?_
  refine z_iconst (-1) (zdec DX6_mayBeBytes 4 rfl) (by decide) ?_
  refine z_icmp_eq 19 (zdec DX6_mayBeBytes 5 rfl) rfl (fun h7 => ?_) (fun h7 => ?_)
  ·
    refine z_iconst 1 (zdec DX6_mayBeBytes 11 rfl) (by decide) ?_
    refine z_goto 24 (zdec DX6_mayBeBytes 12 rfl) rfl ?_
    exact z_zret (zdec DX6_mayBeBytes 14 rfl) rfl (by omega) (⟨rfl, rfl, zri (by unfold zb; split <;> omega)⟩)
  ·
    refine z_aload_n 0 (zdec DX6_mayBeBytes 6 rfl) rfl rfl (by decide) ?_
    refine z_getr (rw1 := -55) (ki := 0) (r' := 46) 45 6 (zdec DX6_mayBeBytes 7 rfl) rfl rfl shp45 rfl (by decide) rfl rfl fl_SixWalls_Shelves_11 (zPa hP 47 rfl) ?_
    refine z_iload_n 1 (zdec DX6_mayBeBytes 8 rfl) rfl rfl ?_
    refine z_iald 46 (zdec DX6_mayBeBytes 9 rfl) rfl shp46 ⟨by omega, by omega⟩ ?_
    refine z_if_ne 23 (zdec DX6_mayBeBytes 10 rfl) rfl (fun h16 => ?_) (fun h16 => ?_)
    ·
      refine z_iconst 0 (zdec DX6_mayBeBytes 13 rfl) (by decide) ?_
      exact z_zret (zdec DX6_mayBeBytes 14 rfl) rfl (by omega) (⟨rfl, rfl, zri (by unfold zb; split <;> omega)⟩)
    ·
      refine z_iconst 1 (zdec DX6_mayBeBytes 11 rfl) (by decide) ?_
      refine z_goto 24 (zdec DX6_mayBeBytes 12 rfl) rfl ?_
      exact z_zret (zdec DX6_mayBeBytes 14 rfl) rfl (by omega) (⟨rfl, rfl, zri (by unfold zb; split <;> omega)⟩)
set_option maxHeartbeats 4000000 in
theorem cX6_cellOn {M : zMm} (hP : zP M) (s : Int) (hs : 0 ≤ s ∧ s < 6) : zW mX6_cellOn 1 (fun rv S' M' => S' = zS0 ∧ M = M' ∧ rv = some (.inl (if M 46 s = 5 then M 47 s else -1))) (0, 0) zS0 0 (zargs 0 [.inr (.inr 45), .inl s]) [] M := by
  change zW _ _ _ _ _ 0 [(0, .inr (.inr 45)), (1, .inl s)] [] M
  refine z_aload_n 0 (zdec DX6_cellOn 0 rfl) rfl rfl (by decide) ?_
  refine z_getr (rw1 := -55) (ki := 0) (r' := 46) 45 6 (zdec DX6_cellOn 1 rfl) rfl rfl shp45 rfl (by decide) rfl rfl fl_SixWalls_Shelves_11 (zPa hP 47 rfl) ?_
  refine z_iload_n 1 (zdec DX6_cellOn 2 rfl) rfl rfl ?_
  refine z_iald 46 (zdec DX6_cellOn 3 rfl) rfl shp46 ⟨by omega, by omega⟩ ?_
  refine z_iconst 5 (zdec DX6_cellOn 4 rfl) (by decide) ?_
  refine z_icmp_ne 19 (zdec DX6_cellOn 5 rfl) rfl (fun h7 => ?_) (fun h7 => ?_)
  ·
    refine z_iconst (-1) (zdec DX6_cellOn 11 rfl) (by decide) ?_
    exact z_iret (zdec DX6_cellOn 12 rfl) rfl (⟨rfl, rfl, zri (by split <;> omega)⟩)
  ·
    refine z_aload_n 0 (zdec DX6_cellOn 6 rfl) rfl rfl (by decide) ?_
    refine z_getr (rw1 := -55) (ki := 1) (r' := 47) 45 6 (zdec DX6_cellOn 7 rfl) rfl rfl shp45 rfl (by decide) rfl rfl fl_SixWalls_Shelves_15 (zPa hP 48 rfl) ?_
    refine z_iload_n 1 (zdec DX6_cellOn 8 rfl) rfl rfl ?_
    refine z_iald 47 (zdec DX6_cellOn 9 rfl) rfl shp47 ⟨by omega, by omega⟩ ?_
    refine z_goto 20 (zdec DX6_cellOn 10 rfl) rfl ?_
    exact z_iret (zdec DX6_cellOn 12 rfl) rfl (⟨rfl, rfl, zri (by split <;> omega)⟩)
set_option maxHeartbeats 4000000 in
theorem cX6_hold {M : zMm} (hP : zP M) (s v : Int) (hs : 0 ≤ s ∧ s < 6) : zW mX6_hold 1 (fun rv S' M' => S' = zS0 ∧ rv = none ∧ M' = zup (zup (zup M 46 s (if v < 0 then -1 else 5)) 47 s v) 48 s 0) (0, 0) zS0 0 (zargs 0 [.inr (.inr 45), .inl s, .inl v]) [] M := by
  change zW _ _ _ _ _ 0 [(0, .inr (.inr 45)), (1, .inl s), (2, .inl v)] [] M
  refine z_aload_n 0 (zdec DX6_hold 0 rfl) rfl rfl (by decide) ?_
  refine z_getr (rw1 := -55) (ki := 0) (r' := 46) 45 6 (zdec DX6_hold 1 rfl) rfl rfl shp45 rfl (by decide) rfl rfl fl_SixWalls_Shelves_11 (zPa hP 47 rfl) ?_
  refine z_iload_n 1 (zdec DX6_hold 2 rfl) rfl rfl ?_
  refine z_iload_n 2 (zdec DX6_hold 3 rfl) rfl rfl ?_
  refine z_if_ge 13 (zdec DX6_hold 4 rfl) rfl (fun h6 => ?_) (fun h6 => ?_)
  ·
    refine z_iconst 5 (zdec DX6_hold 7 rfl) (by decide) ?_
    refine z_iast 46 (zdec DX6_hold 8 rfl) rfl shp46 ⟨by omega, by omega⟩ ?_
    refine z_aload_n 0 (zdec DX6_hold 9 rfl) rfl rfl (by decide) ?_
    refine z_getr (rw1 := -55) (ki := 1) (r' := 47) 45 6 (zdec DX6_hold 10 rfl) rfl rfl shp45 rfl (by decide) rfl rfl fl_SixWalls_Shelves_15 (zPa (zP_up hP (by decide)) 48 rfl) ?_
    refine z_iload_n 1 (zdec DX6_hold 11 rfl) rfl rfl ?_
    refine z_iload_n 2 (zdec DX6_hold 12 rfl) rfl rfl ?_
    refine z_iast 47 (zdec DX6_hold 13 rfl) rfl shp47 ⟨by omega, by omega⟩ ?_
    refine z_aload_n 0 (zdec DX6_hold 14 rfl) rfl rfl (by decide) ?_
    refine z_getr (rw1 := -55) (ki := 2) (r' := 48) 45 6 (zdec DX6_hold 15 rfl) rfl rfl shp45 rfl (by decide) rfl rfl fl_SixWalls_Shelves_18 (zPa (zP_up (zP_up hP (by decide)) (by decide)) 49 rfl) ?_
    refine z_iload_n 1 (zdec DX6_hold 16 rfl) rfl rfl ?_
    refine z_iconst 0 (zdec DX6_hold 17 rfl) (by decide) ?_
    refine z_iast 48 (zdec DX6_hold 18 rfl) rfl shp48 ⟨by omega, by omega⟩ ?_
    exact z_vret (zdec DX6_hold 19 rfl) rfl (⟨rfl, rfl, by rw [if_neg (by omega)]⟩)
  ·
    refine z_iconst (-1) (zdec DX6_hold 5 rfl) (by decide) ?_
    refine z_goto 14 (zdec DX6_hold 6 rfl) rfl ?_
    refine z_iast 46 (zdec DX6_hold 8 rfl) rfl shp46 ⟨by omega, by omega⟩ ?_
    refine z_aload_n 0 (zdec DX6_hold 9 rfl) rfl rfl (by decide) ?_
    refine z_getr (rw1 := -55) (ki := 1) (r' := 47) 45 6 (zdec DX6_hold 10 rfl) rfl rfl shp45 rfl (by decide) rfl rfl fl_SixWalls_Shelves_15 (zPa (zP_up hP (by decide)) 48 rfl) ?_
    refine z_iload_n 1 (zdec DX6_hold 11 rfl) rfl rfl ?_
    refine z_iload_n 2 (zdec DX6_hold 12 rfl) rfl rfl ?_
    refine z_iast 47 (zdec DX6_hold 13 rfl) rfl shp47 ⟨by omega, by omega⟩ ?_
    refine z_aload_n 0 (zdec DX6_hold 14 rfl) rfl rfl (by decide) ?_
    refine z_getr (rw1 := -55) (ki := 2) (r' := 48) 45 6 (zdec DX6_hold 15 rfl) rfl rfl shp45 rfl (by decide) rfl rfl fl_SixWalls_Shelves_18 (zPa (zP_up (zP_up hP (by decide)) (by decide)) 49 rfl) ?_
    refine z_iload_n 1 (zdec DX6_hold 16 rfl) rfl rfl ?_
    refine z_iconst 0 (zdec DX6_hold 17 rfl) (by decide) ?_
    refine z_iast 48 (zdec DX6_hold 18 rfl) rfl shp48 ⟨by omega, by omega⟩ ?_
    exact z_vret (zdec DX6_hold 19 rfl) rfl (⟨rfl, rfl, by rw [if_pos (by omega)]⟩)
set_option maxHeartbeats 4000000 in
theorem lp_X6_lay_17 {Q : zPost} {M : zMm} (hP : zP M) (s : Int) (hs : 0 ≤ s ∧ s < 6) (hx40 : ∀ (M2 : zMm), (M2 = zfill M (50 + s) 60 0) → zW mX6_lay 1 Q (0, 0) zS0 40 [] [] M2) : ∀ (n : Nat) (i : Int) (M2 : zMm), (60 - i).toNat < n → (0 ≤ i ∧ i ≤ 60 ∧ M2 = zfill M (50 + s) i 0) → zW mX6_lay 1 Q (0, 0) zS0 17 [(0, .inr (.inr 45)), (1, .inl s), (4, .inl i)] [] M2 := by
  intro n
  induction n with
  | zero => intro i M2 hn; exact absurd hn (Nat.not_lt_zero _)
  | succ n ih =>
    intro i M2 hn hI
    refine z_iload 2 (zdec DX6_lay 12 rfl) rfl ?_
    refine z_bipush 60 (zdec DX6_lay 13 rfl) (by decide) ?_
    refine z_icmp_ge 40 (zdec DX6_lay 14 rfl) rfl (fun h21 => ?_) (fun h21 => ?_)
    ·
      refine z_weak (L' := []) (by simp) ?_
      exact hx40 M2 (by rw [hI.2.2, show i = 60 by omega])
    ·
      refine z_aload_n 0 (zdec DX6_lay 15 rfl) rfl rfl (by decide) ?_
      refine z_getr (rw1 := -55) (ki := 3) (r' := 49) 45 6 (zdec DX6_lay 16 rfl) rfl rfl shp45 rfl (by decide) rfl rfl fl_SixWalls_Shelves_23 (zPa (hI.2.2 ▸ zP_fill hP (by omega)) 50 rfl) ?_
      refine z_iload_n 1 (zdec DX6_lay 17 rfl) rfl rfl ?_
      refine z_aald (rw1 := -59) (r' := (50 + s)) 49 (zdec DX6_lay 18 rfl) rfl rfl shp49 ⟨by omega, by omega⟩ (zP_rows (hI.2.2 ▸ zP_fill hP (by omega)) hs) (by omega) ?_
      refine z_iload 2 (zdec DX6_lay 19 rfl) rfl ?_
      refine z_lconst 0 (zdec DX6_lay 20 rfl) rfl ?_
      refine z_last (50 + s).toNat (zdec DX6_lay 21 rfl) (by omega) (shpRow hs) ⟨by omega, by omega⟩ ?_
      refine z_iinc (L' := [(0, .inr (.inr 45)), (1, .inl s), (4, .inl (i + 1))]) 2 (zdec DX6_lay 22 rfl) rfl (by unfold z32; omega) rfl (by decide) ?_
      refine z_goto 17 (zdec DX6_lay 23 rfl) rfl ?_
      exact ih (i + 1) (zup M2 (50 + s) i 0) (by omega) ⟨by omega, by omega, by rw [hI.2.2]; exact zfill_s hI.1⟩
set_option maxHeartbeats 4000000 in
theorem cX6_lay {M : zMm} (hP : zP M) (s sort n : Int) (hs : 0 ≤ s ∧ s < 6) : zW mX6_lay 1 (fun rv S' M' => S' = zS0 ∧ rv = none ∧ M' = zfill (zup (zup M 46 s sort) 48 s n) (50 + s) 60 0) (0, 0) zS0 0 (zargs 0 [.inr (.inr 45), .inl s, .inl sort, .inl n]) [] M := by
  change zW _ _ _ _ _ 0 [(0, .inr (.inr 45)), (1, .inl s), (2, .inl sort), (3, .inl n)] [] M
  refine z_aload_n 0 (zdec DX6_lay 0 rfl) rfl rfl (by decide) ?_
  refine z_getr (rw1 := -55) (ki := 0) (r' := 46) 45 6 (zdec DX6_lay 1 rfl) rfl rfl shp45 rfl (by decide) rfl rfl fl_SixWalls_Shelves_11 (zPa hP 47 rfl) ?_
  refine z_iload_n 1 (zdec DX6_lay 2 rfl) rfl rfl ?_
  refine z_iload_n 2 (zdec DX6_lay 3 rfl) rfl rfl ?_
  refine z_iast 46 (zdec DX6_lay 4 rfl) rfl shp46 ⟨by omega, by omega⟩ ?_
  refine z_aload_n 0 (zdec DX6_lay 5 rfl) rfl rfl (by decide) ?_
  refine z_getr (rw1 := -55) (ki := 2) (r' := 48) 45 6 (zdec DX6_lay 6 rfl) rfl rfl shp45 rfl (by decide) rfl rfl fl_SixWalls_Shelves_18 (zPa (zP_up hP (by decide)) 49 rfl) ?_
  refine z_iload_n 1 (zdec DX6_lay 7 rfl) rfl rfl ?_
  refine z_iload_n 3 (zdec DX6_lay 8 rfl) rfl rfl ?_
  refine z_iast 48 (zdec DX6_lay 9 rfl) rfl shp48 ⟨by omega, by omega⟩ ?_
  refine z_iconst 0 (zdec DX6_lay 10 rfl) (by decide) ?_
  refine z_istore (L' := [(0, .inr (.inr 45)), (1, .inl s), (2, .inl sort), (3, .inl n), (4, .inl 0)]) (zdec DX6_lay 11 rfl) rfl (by decide) ?_
  refine z_weak (L' := [(0, .inr (.inr 45)), (1, .inl s), (4, .inl 0)]) (by simp) ?_
  refine lp_X6_lay_17 (zP_up (zP_up hP (by decide)) (by decide)) s hs (hx40 := fun M2 hx => ?_) _ 0 (zup (zup M 46 s sort) 48 s n) (Nat.lt_succ_self _) ⟨by omega, by omega, zfill_0.symm⟩
  exact z_vret (zdec DX6_lay 24 rfl) rfl (⟨rfl, rfl, hx⟩)
set_option maxHeartbeats 4000000 in
theorem cX6_hasPlace {M : zMm} (hP : zP M) (s i : Int) (hs : 0 ≤ s ∧ s < 6) : zW mX6_hasPlace 1 (fun rv S' M' => S' = zS0 ∧ M = M' ∧ rv = some (.inl (zb (0 ≤ i ∧ i < M 48 s)))) (0, 0) zS0 0 (zargs 0 [.inr (.inr 45), .inl s, .inl i]) [] M := by
  change zW _ _ _ _ _ 0 [(0, .inr (.inr 45)), (1, .inl s), (2, .inl i)] [] M
  refine z_iload_n 2 (zdec DX6_hasPlace 0 rfl) rfl rfl ?_
  refine z_if_lt 18 (zdec DX6_hasPlace 1 rfl) rfl (fun h1 => ?_) (fun h1 => ?_)
  ·
    refine z_iconst 0 (zdec DX6_hasPlace 10 rfl) (by decide) ?_
    exact z_zret (zdec DX6_hasPlace 11 rfl) rfl (by omega) (⟨rfl, rfl, zri (by unfold zb; split <;> omega)⟩)
  ·
    refine z_iload_n 2 (zdec DX6_hasPlace 2 rfl) rfl rfl ?_
    refine z_aload_n 0 (zdec DX6_hasPlace 3 rfl) rfl rfl (by decide) ?_
    refine z_getr (rw1 := -55) (ki := 2) (r' := 48) 45 6 (zdec DX6_hasPlace 4 rfl) rfl rfl shp45 rfl (by decide) rfl rfl fl_SixWalls_Shelves_18 (zPa hP 49 rfl) ?_
    refine z_iload_n 1 (zdec DX6_hasPlace 5 rfl) rfl rfl ?_
    refine z_iald 48 (zdec DX6_hasPlace 6 rfl) rfl shp48 ⟨by omega, by omega⟩ ?_
    refine z_icmp_ge 18 (zdec DX6_hasPlace 7 rfl) rfl (fun h11 => ?_) (fun h11 => ?_)
    ·
      refine z_iconst 0 (zdec DX6_hasPlace 10 rfl) (by decide) ?_
      exact z_zret (zdec DX6_hasPlace 11 rfl) rfl (by omega) (⟨rfl, rfl, zri (by unfold zb; split <;> omega)⟩)
    ·
      refine z_iconst 1 (zdec DX6_hasPlace 8 rfl) (by decide) ?_
      refine z_goto 19 (zdec DX6_hasPlace 9 rfl) rfl ?_
      exact z_zret (zdec DX6_hasPlace 11 rfl) rfl (by omega) (⟨rfl, rfl, zri (by unfold zb; split <;> omega)⟩)
set_option maxHeartbeats 4000000 in
theorem cX6_hasStretch {M : zMm} (hP : zP M) (hv : zSv M) (s i n : Int) (hs : 0 ≤ s ∧ s < 6) : zW mX6_hasStretch 1 (fun rv S' M' => S' = zS0 ∧ M = M' ∧ rv = some (.inl (zb (0 ≤ i ∧ 0 ≤ n ∧ n ≤ M 48 s ∧ i ≤ M 48 s - n)))) (0, 0) zS0 0 (zargs 0 [.inr (.inr 45), .inl s, .inl i, .inl n]) [] M := by
  change zW _ _ _ _ _ 0 [(0, .inr (.inr 45)), (1, .inl s), (2, .inl i), (3, .inl n)] [] M
  have hv1 := (hv s hs.1 hs.2).2
  refine z_iload_n 2 (zdec DX6_hasStretch 0 rfl) rfl rfl ?_
  refine z_if_lt 34 (zdec DX6_hasStretch 1 rfl) rfl (fun h1 => ?_) (fun h1 => ?_)
  ·
    refine z_iconst 0 (zdec DX6_hasStretch 20 rfl) (by decide) ?_
    exact z_zret (zdec DX6_hasStretch 21 rfl) rfl (by omega) (⟨rfl, rfl, zri (by unfold zb; split <;> omega)⟩)
  ·
    refine z_iload_n 3 (zdec DX6_hasStretch 2 rfl) rfl rfl ?_
    refine z_if_lt 34 (zdec DX6_hasStretch 3 rfl) rfl (fun h5 => ?_) (fun h5 => ?_)
    ·
      refine z_iconst 0 (zdec DX6_hasStretch 20 rfl) (by decide) ?_
      exact z_zret (zdec DX6_hasStretch 21 rfl) rfl (by omega) (⟨rfl, rfl, zri (by unfold zb; split <;> omega)⟩)
    ·
      refine z_iload_n 3 (zdec DX6_hasStretch 4 rfl) rfl rfl ?_
      refine z_aload_n 0 (zdec DX6_hasStretch 5 rfl) rfl rfl (by decide) ?_
      refine z_getr (rw1 := -55) (ki := 2) (r' := 48) 45 6 (zdec DX6_hasStretch 6 rfl) rfl rfl shp45 rfl (by decide) rfl rfl fl_SixWalls_Shelves_18 (zPa hP 49 rfl) ?_
      refine z_iload_n 1 (zdec DX6_hasStretch 7 rfl) rfl rfl ?_
      refine z_iald 48 (zdec DX6_hasStretch 8 rfl) rfl shp48 ⟨by omega, by omega⟩ ?_
      refine z_icmp_gt 34 (zdec DX6_hasStretch 9 rfl) rfl (fun h15 => ?_) (fun h15 => ?_)
      ·
        refine z_iconst 0 (zdec DX6_hasStretch 20 rfl) (by decide) ?_
        exact z_zret (zdec DX6_hasStretch 21 rfl) rfl (by omega) (⟨rfl, rfl, zri (by unfold zb; split <;> omega)⟩)
      ·
        refine z_iload_n 2 (zdec DX6_hasStretch 10 rfl) rfl rfl ?_
        refine z_aload_n 0 (zdec DX6_hasStretch 11 rfl) rfl rfl (by decide) ?_
        refine z_getr (rw1 := -55) (ki := 2) (r' := 48) 45 6 (zdec DX6_hasStretch 12 rfl) rfl rfl shp45 rfl (by decide) rfl rfl fl_SixWalls_Shelves_18 (zPa hP 49 rfl) ?_
        refine z_iload_n 1 (zdec DX6_hasStretch 13 rfl) rfl rfl ?_
        refine z_iald 48 (zdec DX6_hasStretch 14 rfl) rfl shp48 ⟨by omega, by omega⟩ ?_
        refine z_iload_n 3 (zdec DX6_hasStretch 15 rfl) rfl rfl ?_
        refine z_isub (zdec DX6_hasStretch 16 rfl) (by unfold z32; omega) ?_
        refine z_icmp_gt 34 (zdec DX6_hasStretch 17 rfl) rfl (fun h27 => ?_) (fun h27 => ?_)
        ·
          refine z_iconst 0 (zdec DX6_hasStretch 20 rfl) (by decide) ?_
          exact z_zret (zdec DX6_hasStretch 21 rfl) rfl (by omega) (⟨rfl, rfl, zri (by unfold zb; split <;> omega)⟩)
        ·
          refine z_iconst 1 (zdec DX6_hasStretch 18 rfl) (by decide) ?_
          refine z_goto 35 (zdec DX6_hasStretch 19 rfl) rfl ?_
          exact z_zret (zdec DX6_hasStretch 21 rfl) rfl (by omega) (⟨rfl, rfl, zri (by unfold zb; split <;> omega)⟩)
set_option maxHeartbeats 4000000 in
theorem cX6_refusalOfRow {M : zMm} (hP : zP M) (s : Int) : zW mX6_refusalOfRow 2 (fun rv S' M' => S' = zS0 ∧ M = M' ∧ rv = some (.inl (zrow1 M s))) (0, 0) zS0 0 (zargs 0 [.inr (.inr 45), .inl s]) [] M := by
  change zW _ _ _ _ _ 0 [(0, .inr (.inr 45)), (1, .inl s)] [] M
  refine z_aload_n 0 (zdec DX6_refusalOfRow 0 rfl) rfl rfl (by decide) ?_
  refine z_iload_n 1 (zdec DX6_refusalOfRow 1 rfl) rfl rfl ?_
  refine z_inv mX6_isShelf 45 6 [.inl s] (zdec DX6_refusalOfRow 2 rfl) ml_SixWalls_Shelves_26 okX6_isShelf rfl shp45 rfl rfl rfl rfl (Nat.le_of_ble_eq_true rfl) (Nat.le_of_ble_eq_true rfl) (b' := (0, 0)) ⟨Nat.le_refl 0, Nat.le_refl 0⟩ (Nat.le_of_ble_eq_true rfl) (cX6_isShelf s) (fun rv9 S9 M2 h9 => ?_)
  obtain ⟨rfl, rfl, rfl⟩ := h9
  change zW _ _ _ _ _ 5 [(0, .inr (.inr 45)), (1, .inl s)] [.inl (zb (0 ≤ s ∧ s < 6))] M
  refine z_if_ne 10 (zdec DX6_refusalOfRow 3 rfl) rfl (fun h5 => ?_) (fun h5 => ?_)
  ·
    rw [zb_ne0] at h5
    refine z_aload_n 0 (zdec DX6_refusalOfRow 6 rfl) rfl rfl (by decide) ?_
    refine z_getr (rw1 := -55) (ki := 0) (r' := 46) 45 6 (zdec DX6_refusalOfRow 7 rfl) rfl rfl shp45 rfl (by decide) rfl rfl fl_SixWalls_Shelves_11 (zPa hP 47 rfl) ?_
    refine z_iload_n 1 (zdec DX6_refusalOfRow 8 rfl) rfl rfl ?_
    refine z_iald 46 (zdec DX6_refusalOfRow 9 rfl) rfl shp46 ⟨by omega, by omega⟩ ?_
    refine z_iconst (-1) (zdec DX6_refusalOfRow 10 rfl) (by decide) ?_
    refine z_icmp_ne 23 (zdec DX6_refusalOfRow 11 rfl) rfl (fun h17 => ?_) (fun h17 => ?_)
    ·
      refine z_aload_n 0 (zdec DX6_refusalOfRow 14 rfl) rfl rfl (by decide) ?_
      refine z_getr (rw1 := -55) (ki := 0) (r' := 46) 45 6 (zdec DX6_refusalOfRow 15 rfl) rfl rfl shp45 rfl (by decide) rfl rfl fl_SixWalls_Shelves_11 (zPa hP 47 rfl) ?_
      refine z_iload_n 1 (zdec DX6_refusalOfRow 16 rfl) rfl rfl ?_
      refine z_iald 46 (zdec DX6_refusalOfRow 17 rfl) rfl shp46 ⟨by omega, by omega⟩ ?_
      refine z_iconst 5 (zdec DX6_refusalOfRow 18 rfl) (by decide) ?_
      refine z_icmp_ne 38 (zdec DX6_refusalOfRow 19 rfl) rfl (fun h30 => ?_) (fun h30 => ?_)
      ·
        refine z_iconst 0 (zdec DX6_refusalOfRow 22 rfl) (by decide) ?_
        exact z_iret (zdec DX6_refusalOfRow 23 rfl) rfl (⟨rfl, rfl, zri (by unfold zrow1; (repeat (first | rw [if_pos (by omega)] | rw [if_neg (by omega)])))⟩)
      ·
        refine z_bipush (-12) (zdec DX6_refusalOfRow 20 rfl) (by decide) ?_
        refine z_goto 39 (zdec DX6_refusalOfRow 21 rfl) rfl ?_
        exact z_iret (zdec DX6_refusalOfRow 23 rfl) rfl (⟨rfl, rfl, zri (by unfold zrow1; (repeat (first | rw [if_pos (by omega)] | rw [if_neg (by omega)])))⟩)
    ·
      refine z_bipush (-11) (zdec DX6_refusalOfRow 12 rfl) (by decide) ?_
      exact z_iret (zdec DX6_refusalOfRow 13 rfl) rfl (⟨rfl, rfl, zri (by unfold zrow1; (repeat (first | rw [if_pos (by omega)] | rw [if_neg (by omega)])))⟩)
  ·
    rw [Classical.not_not, zb_eq0] at h5
    refine z_iconst (-1) (zdec DX6_refusalOfRow 4 rfl) (by decide) ?_
    exact z_iret (zdec DX6_refusalOfRow 5 rfl) rfl (⟨rfl, rfl, zri (by unfold zrow1; (repeat (first | rw [if_pos (by omega)] | rw [if_neg (by omega)])))⟩)
set_option maxHeartbeats 4000000 in
theorem cX6_refusal {M : zMm} (hP : zP M) (s i : Int) : zW mX6_refusal 3 (fun rv S' M' => S' = zS0 ∧ M = M' ∧ rv = some (.inl (zrefuse M s i))) (0, 0) zS0 0 (zargs 0 [.inr (.inr 45), .inl s, .inl i]) [] M := by
  change zW _ _ _ _ _ 0 [(0, .inr (.inr 45)), (1, .inl s), (2, .inl i)] [] M
  refine z_aload_n 0 (zdec DX6_refusal 0 rfl) rfl rfl (by decide) ?_
  refine z_iload_n 1 (zdec DX6_refusal 1 rfl) rfl rfl ?_
  refine z_inv mX6_refusalOfRow 45 6 [.inl s] (zdec DX6_refusal 2 rfl) ml_SixWalls_Shelves_30 okX6_refusalOfRow rfl shp45 rfl rfl rfl rfl (Nat.le_of_ble_eq_true rfl) (Nat.le_of_ble_eq_true rfl) (b' := (0, 0)) ⟨Nat.le_refl 0, Nat.le_refl 0⟩ (Nat.le_of_ble_eq_true rfl) (cX6_refusalOfRow hP s) (fun rv9 S9 M2 h9 => ?_)
  obtain ⟨rfl, rfl, rfl⟩ := h9
  change zW _ _ _ _ _ 5 [(0, .inr (.inr 45)), (1, .inl s), (2, .inl i)] [.inl (zrow1 M s)] M
  refine z_istore_n (L' := [(0, .inr (.inr 45)), (1, .inl s), (2, .inl i), (3, .inl (zrow1 M s))]) (zdec DX6_refusal 3 rfl) rfl rfl (by decide) ?_
  refine z_iload_n 3 (zdec DX6_refusal 4 rfl) rfl rfl ?_
  refine z_if_eq 12 (zdec DX6_refusal 5 rfl) rfl (fun h7 => ?_) (fun h7 => ?_)
  ·
    refine z_aload_n 0 (zdec DX6_refusal 8 rfl) rfl rfl (by decide) ?_
    refine z_iload_n 1 (zdec DX6_refusal 9 rfl) rfl rfl ?_
    refine z_iload_n 2 (zdec DX6_refusal 10 rfl) rfl rfl ?_
    refine z_inv mX6_hasPlace 45 6 [.inl s, .inl i] (zdec DX6_refusal 11 rfl) ml_SixWalls_Shelves_34 okX6_hasPlace rfl shp45 rfl rfl rfl rfl (Nat.le_of_ble_eq_true rfl) (Nat.le_of_ble_eq_true rfl) (b' := (0, 0)) ⟨Nat.le_refl 0, Nat.le_refl 0⟩ (Nat.le_of_ble_eq_true rfl) (cX6_hasPlace hP s i (zrow1_in h7)) (fun rv9 S9 M15 h9 => ?_)
    obtain ⟨rfl, rfl, rfl⟩ := h9
    change zW _ _ _ _ _ 18 [(0, .inr (.inr 45)), (1, .inl s), (2, .inl i), (3, .inl (zrow1 M s))] [.inl (zb (0 ≤ i ∧ i < M 48 s))] M
    refine z_if_eq 25 (zdec DX6_refusal 12 rfl) rfl (fun h18 => ?_) (fun h18 => ?_)
    ·
      refine z_bipush (-13) (zdec DX6_refusal 15 rfl) (by decide) ?_
      exact z_iret (zdec DX6_refusal 16 rfl) rfl (⟨rfl, rfl, zri (by (try rw [zb_eq0] at h18); unfold zrefuse; (repeat (first | rw [if_pos (by omega)] | rw [if_neg (by omega)])))⟩)
    ·
      refine z_iconst 0 (zdec DX6_refusal 13 rfl) (by decide) ?_
      refine z_goto 27 (zdec DX6_refusal 14 rfl) rfl ?_
      exact z_iret (zdec DX6_refusal 16 rfl) rfl (⟨rfl, rfl, zri (by (try rw [zb_eq0] at h18); unfold zrefuse; (repeat (first | rw [if_pos (by omega)] | rw [if_neg (by omega)])))⟩)
  ·
    refine z_iload_n 3 (zdec DX6_refusal 6 rfl) rfl rfl ?_
    exact z_iret (zdec DX6_refusal 7 rfl) rfl (⟨rfl, rfl, zri (by (try rw [zb_eq0] at h18); unfold zrefuse; (repeat (first | rw [if_pos (by omega)] | rw [if_neg (by omega)])))⟩)
set_option maxHeartbeats 4000000 in
theorem cX6_refusalOfTwo {M : zMm} (hP : zP M) (s t : Int) : zW mX6_refusalOfTwo 3 (fun rv S' M' => S' = zS0 ∧ M = M' ∧ rv = some (.inl (zref2 M s t))) (0, 0) zS0 0 (zargs 0 [.inr (.inr 45), .inl s, .inl t]) [] M := by
  change zW _ _ _ _ _ 0 [(0, .inr (.inr 45)), (1, .inl s), (2, .inl t)] [] M
  refine z_aload_n 0 (zdec DX6_refusalOfTwo 0 rfl) rfl rfl (by decide) ?_
  refine z_iload_n 1 (zdec DX6_refusalOfTwo 1 rfl) rfl rfl ?_
  refine z_inv mX6_refusalOfRow 45 6 [.inl s] (zdec DX6_refusalOfTwo 2 rfl) ml_SixWalls_Shelves_30 okX6_refusalOfRow rfl shp45 rfl rfl rfl rfl (Nat.le_of_ble_eq_true rfl) (Nat.le_of_ble_eq_true rfl) (b' := (0, 0)) ⟨Nat.le_refl 0, Nat.le_refl 0⟩ (Nat.le_of_ble_eq_true rfl) (cX6_refusalOfRow hP s) (fun rv9 S9 M2 h9 => ?_)
  obtain ⟨rfl, rfl, rfl⟩ := h9
  change zW _ _ _ _ _ 5 [(0, .inr (.inr 45)), (1, .inl s), (2, .inl t)] [.inl (zrow1 M s)] M
  refine z_istore_n (L' := [(0, .inr (.inr 45)), (1, .inl s), (2, .inl t), (3, .inl (zrow1 M s))]) (zdec DX6_refusalOfTwo 3 rfl) rfl rfl (by decide) ?_
  refine z_aload_n 0 (zdec DX6_refusalOfTwo 4 rfl) rfl rfl (by decide) ?_
  refine z_iload_n 2 (zdec DX6_refusalOfTwo 5 rfl) rfl rfl ?_
  refine z_inv mX6_refusalOfRow 45 6 [.inl t] (zdec DX6_refusalOfTwo 6 rfl) ml_SixWalls_Shelves_30 okX6_refusalOfRow rfl shp45 rfl rfl rfl rfl (Nat.le_of_ble_eq_true rfl) (Nat.le_of_ble_eq_true rfl) (b' := (0, 0)) ⟨Nat.le_refl 0, Nat.le_refl 0⟩ (Nat.le_of_ble_eq_true rfl) (cX6_refusalOfRow hP t) (fun rv9 S9 M8 h9 => ?_)
  obtain ⟨rfl, rfl, rfl⟩ := h9
  change zW _ _ _ _ _ 11 [(0, .inr (.inr 45)), (1, .inl s), (2, .inl t), (3, .inl (zrow1 M s))] [.inl (zrow1 M t)] M
  refine z_istore (L' := [(0, .inr (.inr 45)), (1, .inl s), (2, .inl t), (3, .inl (zrow1 M s)), (4, .inl (zrow1 M t))]) (zdec DX6_refusalOfTwo 7 rfl) rfl (by decide) ?_
  refine z_iload_n 3 (zdec DX6_refusalOfTwo 8 rfl) rfl rfl ?_
  refine z_iconst (-1) (zdec DX6_refusalOfTwo 9 rfl) (by decide) ?_
  refine z_icmp_eq 24 (zdec DX6_refusalOfTwo 10 rfl) rfl (fun h15 => ?_) (fun h15 => ?_)
  ·
    refine z_iconst (-1) (zdec DX6_refusalOfTwo 14 rfl) (by decide) ?_
    exact z_iret (zdec DX6_refusalOfTwo 15 rfl) rfl (⟨rfl, rfl, zri (by unfold zref2; (repeat (first | rw [if_pos (by omega)] | rw [if_neg (by omega)])))⟩)
  ·
    refine z_iload 4 (zdec DX6_refusalOfTwo 11 rfl) rfl ?_
    refine z_iconst (-1) (zdec DX6_refusalOfTwo 12 rfl) (by decide) ?_
    refine z_icmp_ne 26 (zdec DX6_refusalOfTwo 13 rfl) rfl (fun h21 => ?_) (fun h21 => ?_)
    ·
      refine z_iload_n 3 (zdec DX6_refusalOfTwo 16 rfl) rfl rfl ?_
      refine z_bipush (-11) (zdec DX6_refusalOfTwo 17 rfl) (by decide) ?_
      refine z_icmp_eq 39 (zdec DX6_refusalOfTwo 18 rfl) rfl (fun h29 => ?_) (fun h29 => ?_)
      ·
        refine z_bipush (-11) (zdec DX6_refusalOfTwo 22 rfl) (by decide) ?_
        exact z_iret (zdec DX6_refusalOfTwo 23 rfl) rfl (⟨rfl, rfl, zri (by unfold zref2; (repeat (first | rw [if_pos (by omega)] | rw [if_neg (by omega)])))⟩)
      ·
        refine z_iload 4 (zdec DX6_refusalOfTwo 19 rfl) rfl ?_
        refine z_bipush (-11) (zdec DX6_refusalOfTwo 20 rfl) (by decide) ?_
        refine z_icmp_ne 42 (zdec DX6_refusalOfTwo 21 rfl) rfl (fun h36 => ?_) (fun h36 => ?_)
        ·
          refine z_iload_n 3 (zdec DX6_refusalOfTwo 24 rfl) rfl rfl ?_
          refine z_if_ne 66 (zdec DX6_refusalOfTwo 25 rfl) rfl (fun h43 => ?_) (fun h43 => ?_)
          ·
            refine z_bipush (-12) (zdec DX6_refusalOfTwo 37 rfl) (by decide) ?_
            exact z_iret (zdec DX6_refusalOfTwo 38 rfl) rfl (⟨rfl, rfl, zri (by unfold zref2; (repeat (first | rw [if_pos (by omega)] | rw [if_neg (by omega)])))⟩)
          ·
            refine z_iload 4 (zdec DX6_refusalOfTwo 26 rfl) rfl ?_
            refine z_if_ne 66 (zdec DX6_refusalOfTwo 27 rfl) rfl (fun h48 => ?_) (fun h48 => ?_)
            ·
              refine z_bipush (-12) (zdec DX6_refusalOfTwo 37 rfl) (by decide) ?_
              exact z_iret (zdec DX6_refusalOfTwo 38 rfl) rfl (⟨rfl, rfl, zri (by unfold zref2; (repeat (first | rw [if_pos (by omega)] | rw [if_neg (by omega)])))⟩)
            ·
              have hs := zrow1_in (M := M) (s := s) (by omega)
              have ht := zrow1_in (M := M) (s := t) (by omega)
              refine z_aload_n 0 (zdec DX6_refusalOfTwo 28 rfl) rfl rfl (by decide) ?_
              refine z_getr (rw1 := -55) (ki := 0) (r' := 46) 45 6 (zdec DX6_refusalOfTwo 29 rfl) rfl rfl shp45 rfl (by decide) rfl rfl fl_SixWalls_Shelves_11 (zPa hP 47 rfl) ?_
              refine z_iload_n 1 (zdec DX6_refusalOfTwo 30 rfl) rfl rfl ?_
              refine z_iald 46 (zdec DX6_refusalOfTwo 31 rfl) rfl shp46 ⟨by omega, by omega⟩ ?_
              refine z_aload_n 0 (zdec DX6_refusalOfTwo 32 rfl) rfl rfl (by decide) ?_
              refine z_getr (rw1 := -55) (ki := 0) (r' := 46) 45 6 (zdec DX6_refusalOfTwo 33 rfl) rfl rfl shp45 rfl (by decide) rfl rfl fl_SixWalls_Shelves_11 (zPa hP 47 rfl) ?_
              refine z_iload_n 2 (zdec DX6_refusalOfTwo 34 rfl) rfl rfl ?_
              refine z_iald 46 (zdec DX6_refusalOfTwo 35 rfl) rfl shp46 ⟨by omega, by omega⟩ ?_
              refine z_icmp_eq 69 (zdec DX6_refusalOfTwo 36 rfl) rfl (fun h63 => ?_) (fun h63 => ?_)
              ·
                refine z_iconst 0 (zdec DX6_refusalOfTwo 39 rfl) (by decide) ?_
                exact z_iret (zdec DX6_refusalOfTwo 40 rfl) rfl (⟨rfl, rfl, zri (by unfold zref2; (repeat (first | rw [if_pos (by omega)] | rw [if_neg (by omega)])))⟩)
              ·
                refine z_bipush (-12) (zdec DX6_refusalOfTwo 37 rfl) (by decide) ?_
                exact z_iret (zdec DX6_refusalOfTwo 38 rfl) rfl (⟨rfl, rfl, zri (by unfold zref2; (repeat (first | rw [if_pos (by omega)] | rw [if_neg (by omega)])))⟩)
        ·
          refine z_bipush (-11) (zdec DX6_refusalOfTwo 22 rfl) (by decide) ?_
          exact z_iret (zdec DX6_refusalOfTwo 23 rfl) rfl (⟨rfl, rfl, zri (by unfold zref2; (repeat (first | rw [if_pos (by omega)] | rw [if_neg (by omega)])))⟩)
    ·
      refine z_iconst (-1) (zdec DX6_refusalOfTwo 14 rfl) (by decide) ?_
      exact z_iret (zdec DX6_refusalOfTwo 15 rfl) rfl (⟨rfl, rfl, zri (by unfold zref2; (repeat (first | rw [if_pos (by omega)] | rw [if_neg (by omega)])))⟩)
set_option maxHeartbeats 4000000 in
theorem cX6_at {M : zMm} (hP : zP M) (s i : Int) (hs : 0 ≤ s ∧ s < 6) (hi : 0 ≤ i ∧ i < 60) : zW mX6_at 1 (fun rv S' M' => S' = zS0 ∧ M = M' ∧ rv = some (.inr (.inl (M (50 + s) i)))) (0, 0) zS0 0 (zargs 0 [.inr (.inr 45), .inl s, .inl i]) [] M := by
  change zW _ _ _ _ _ 0 [(0, .inr (.inr 45)), (1, .inl s), (2, .inl i)] [] M
  refine z_aload_n 0 (zdec DX6_at 0 rfl) rfl rfl (by decide) ?_
  refine z_getr (rw1 := -55) (ki := 3) (r' := 49) 45 6 (zdec DX6_at 1 rfl) rfl rfl shp45 rfl (by decide) rfl rfl fl_SixWalls_Shelves_23 (zPa hP 50 rfl) ?_
  refine z_iload_n 1 (zdec DX6_at 2 rfl) rfl rfl ?_
  refine z_aald (rw1 := -59) (r' := (50 + s)) 49 (zdec DX6_at 3 rfl) rfl rfl shp49 ⟨by omega, by omega⟩ (zP_rows hP hs) (by omega) ?_
  refine z_iload_n 2 (zdec DX6_at 4 rfl) rfl rfl ?_
  refine z_lald (50 + s).toNat (zdec DX6_at 5 rfl) (by omega) (shpRow hs) ⟨by omega, by omega⟩ ?_
  exact z_lret (zdec DX6_at 6 rfl) rfl (⟨rfl, rfl, rfl⟩)
set_option maxHeartbeats 4000000 in
theorem cX6_narrowed {M : zMm} (sort v : Int) : zW mX6_narrowed 1 (fun rv S' M' => S' = zS0 ∧ M = M' ∧ rv = some (.inr (.inl (znarrow sort v)))) (0, 0) zS0 0 (zargs 0 [.inl sort, .inr (.inl v)]) [] M := by
  change zW _ _ _ _ _ 0 [(0, .inl sort), (1, .inr (.inl v))] [] M
  refine z_iload_n 0 (zdec DX6_narrowed 0 rfl) rfl rfl ?_
  refine z_tsw (zdec DX6_narrowed 1 rfl) (by decide) (fun j off hj he => ?_) (fun hd => ?_)
  · match j, hj, he with
    | 0, hj, he =>
      cases hj
      refine ⟨32, rfl, ?_⟩
      have h1 : sort = 0 := by simpa using he
      refine z_lload_n 1 (zdec DX6_narrowed 2 rfl) rfl rfl ?_
      refine z_l2i (zdec DX6_narrowed 3 rfl) ?_
      refine z_i2b (zdec DX6_narrowed 4 rfl) ?_
      refine z_i2l (zdec DX6_narrowed 5 rfl) ?_
      exact z_lret (zdec DX6_narrowed 6 rfl) rfl (⟨rfl, rfl, by rw [h1]; rfl⟩)
    | 1, hj, he =>
      cases hj
      refine ⟨37, rfl, ?_⟩
      have h1 : sort = 1 := by simpa using he
      refine z_lload_n 1 (zdec DX6_narrowed 7 rfl) rfl rfl ?_
      refine z_l2i (zdec DX6_narrowed 8 rfl) ?_
      refine z_i2s (zdec DX6_narrowed 9 rfl) ?_
      refine z_i2l (zdec DX6_narrowed 10 rfl) ?_
      exact z_lret (zdec DX6_narrowed 11 rfl) rfl (⟨rfl, rfl, by rw [h1]; rfl⟩)
    | 2, hj, he =>
      cases hj
      refine ⟨42, rfl, ?_⟩
      have h1 : sort = 2 := by simpa using he
      refine z_lload_n 1 (zdec DX6_narrowed 12 rfl) rfl rfl ?_
      refine z_l2i (zdec DX6_narrowed 13 rfl) ?_
      refine z_i2l (zdec DX6_narrowed 14 rfl) ?_
      exact z_lret (zdec DX6_narrowed 15 rfl) rfl (⟨rfl, rfl, by rw [h1]; rfl⟩)
    | 3, hj, he =>
      cases hj
      refine ⟨46, rfl, ?_⟩
      have h1 : sort = 3 := by simpa using he
      refine z_lload_n 1 (zdec DX6_narrowed 16 rfl) rfl rfl ?_
      exact z_lret (zdec DX6_narrowed 17 rfl) rfl (⟨rfl, rfl, by rw [h1]; rfl⟩)
    | j + 4, hj, he => exact absurd (List.getElem?_eq_some_iff.mp hj).1 (by simp)
  · refine ⟨48, rfl, ?_⟩
    refine z_lload_n 1 (zdec DX6_narrowed 18 rfl) rfl rfl ?_
    refine z_lconst 0 (zdec DX6_narrowed 19 rfl) rfl ?_
    refine z_lcmp (zdec DX6_narrowed 20 rfl) ?_
    refine z_if_eq 58 (zdec DX6_narrowed 21 rfl) rfl (fun h51 => ?_) (fun h51 => ?_)
    ·
      refine z_lconst 0 (zdec DX6_narrowed 24 rfl) rfl ?_
      exact z_lret (zdec DX6_narrowed 25 rfl) rfl (⟨rfl, rfl, by have hv : v = 0 := (by unfold zcmp at h51; (repeat split at h51) <;> omega); unfold znarrow; (repeat (first | rw [if_pos (by omega)] | rw [if_neg (by omega)]))⟩)
    ·
      refine z_lconst 1 (zdec DX6_narrowed 22 rfl) rfl ?_
      refine z_goto 59 (zdec DX6_narrowed 23 rfl) rfl ?_
      exact z_lret (zdec DX6_narrowed 25 rfl) rfl (⟨rfl, rfl, by have hv : v ≠ 0 := (fun e => h51 (by rw [e]; rfl)); unfold znarrow; (repeat (first | rw [if_pos (by omega)] | rw [if_neg (by omega)]))⟩)
set_option maxHeartbeats 4000000 in
theorem cX6_set {M : zMm} (hP : zP M) (s i v : Int) (hs : 0 ≤ s ∧ s < 6) (hi : 0 ≤ i ∧ i < 60) : zW mX6_set 2 (fun rv S' M' => S' = zS0 ∧ rv = none ∧ M' = zup M (50 + s) i (znarrow (M 46 s) v)) (0, 0) zS0 0 (zargs 0 [.inr (.inr 45), .inl s, .inl i, .inr (.inl v)]) [] M := by
  change zW _ _ _ _ _ 0 [(0, .inr (.inr 45)), (1, .inl s), (2, .inl i), (3, .inr (.inl v))] [] M
  refine z_aload_n 0 (zdec DX6_set 0 rfl) rfl rfl (by decide) ?_
  refine z_getr (rw1 := -55) (ki := 3) (r' := 49) 45 6 (zdec DX6_set 1 rfl) rfl rfl shp45 rfl (by decide) rfl rfl fl_SixWalls_Shelves_23 (zPa hP 50 rfl) ?_
  refine z_iload_n 1 (zdec DX6_set 2 rfl) rfl rfl ?_
  refine z_aald (rw1 := -59) (r' := (50 + s)) 49 (zdec DX6_set 3 rfl) rfl rfl shp49 ⟨by omega, by omega⟩ (zP_rows hP hs) (by omega) ?_
  refine z_iload_n 2 (zdec DX6_set 4 rfl) rfl rfl ?_
  refine z_aload_n 0 (zdec DX6_set 5 rfl) rfl rfl (by decide) ?_
  refine z_getr (rw1 := -55) (ki := 0) (r' := 46) 45 6 (zdec DX6_set 6 rfl) rfl rfl shp45 rfl (by decide) rfl rfl fl_SixWalls_Shelves_11 (zPa hP 47 rfl) ?_
  refine z_iload_n 1 (zdec DX6_set 7 rfl) rfl rfl ?_
  refine z_iald 46 (zdec DX6_set 8 rfl) rfl shp46 ⟨by omega, by omega⟩ ?_
  refine z_lload_n 3 (zdec DX6_set 9 rfl) rfl rfl ?_
  refine z_invs mX6_narrowed [.inl (M 46 s), .inr (.inl v)] (zdec DX6_set 10 rfl) (Or.inl ml_SixWalls_Shelves_38) okX6_narrowed rfl rfl (Nat.le_of_ble_eq_true rfl) (Nat.le_of_ble_eq_true rfl) (b' := (0, 0)) ⟨Nat.le_refl 0, Nat.le_refl 0⟩ (Nat.le_of_ble_eq_true rfl) (cX6_narrowed (M 46 s) v) (fun rv9 S9 M14 h9 => ?_)
  obtain ⟨rfl, rfl, rfl⟩ := h9
  change zW _ _ _ _ _ 17 [(0, .inr (.inr 45)), (1, .inl s), (2, .inl i), (3, .inr (.inl v))] [.inr (.inl (znarrow (M 46 s) v)), .inl i, .inr (.inr (50 + s))] M
  refine z_last (50 + s).toNat (zdec DX6_set 11 rfl) (by omega) (shpRow hs) ⟨by omega, by omega⟩ ?_
  exact z_vret (zdec DX6_set 12 rfl) rfl (⟨rfl, rfl, rfl⟩)
set_option maxHeartbeats 4000000 in
theorem cX6_move {M : zMm} (hP : zP M) (s i t j n : Int) (hs : 0 ≤ s ∧ s < 6) (ht : 0 ≤ t ∧ t < 6) (hn : 0 ≤ i ∧ 0 ≤ n ∧ i + n ≤ 60 ∧ 0 ≤ j ∧ j + n ≤ 60) : zW mX6_move 2 (fun rv S' M' => S' = zS0 ∧ rv = none ∧ M' = zcpy M (50 + s) i (50 + t) j n) (0, 0) zS0 0 (zargs 0 [.inr (.inr 45), .inl s, .inl i, .inl t, .inl j, .inl n]) [] M := by
  change zW _ _ _ _ _ 0 [(0, .inr (.inr 45)), (1, .inl s), (2, .inl i), (3, .inl t), (4, .inl j), (5, .inl n)] [] M
  refine z_aload_n 0 (zdec DX6_move 0 rfl) rfl rfl (by decide) ?_
  refine z_getr (rw1 := -55) (ki := 3) (r' := 49) 45 6 (zdec DX6_move 1 rfl) rfl rfl shp45 rfl (by decide) rfl rfl fl_SixWalls_Shelves_23 (zPa hP 50 rfl) ?_
  refine z_iload_n 1 (zdec DX6_move 2 rfl) rfl rfl ?_
  refine z_aald (rw1 := -59) (r' := (50 + s)) 49 (zdec DX6_move 3 rfl) rfl rfl shp49 ⟨by omega, by omega⟩ (zP_rows hP hs) (by omega) ?_
  refine z_iload_n 2 (zdec DX6_move 4 rfl) rfl rfl ?_
  refine z_aload_n 0 (zdec DX6_move 5 rfl) rfl rfl (by decide) ?_
  refine z_getr (rw1 := -55) (ki := 3) (r' := 49) 45 6 (zdec DX6_move 6 rfl) rfl rfl shp45 rfl (by decide) rfl rfl fl_SixWalls_Shelves_23 (zPa hP 50 rfl) ?_
  refine z_iload_n 3 (zdec DX6_move 7 rfl) rfl rfl ?_
  refine z_aald (rw1 := -59) (r' := (50 + t)) 49 (zdec DX6_move 8 rfl) rfl rfl shp49 ⟨by omega, by omega⟩ (zP_rows hP ht) (by omega) ?_
  refine z_iload 4 (zdec DX6_move 9 rfl) rfl ?_
  refine z_iload 5 (zdec DX6_move 10 rfl) rfl ?_
  refine z_copyl (50 + s).toNat (50 + t).toNat (zdec DX6_move 11 rfl) ml_SixWalls_Shelves_42 zcp1 zcp2 zcp3 (by omega) (by omega) (shpRow hs) (shpRow ht) ⟨by omega, by omega, by omega⟩ ⟨by omega, by omega⟩ (by decide) rfl ?_
  exact z_vret (zdec DX6_move 12 rfl) rfl (⟨rfl, rfl, rfl⟩)
theorem zrefuse_in {M : zMm} {s i : Int} (h : zrefuse M s i = 0) : (0 ≤ s ∧ s < 6) ∧ 0 ≤ i ∧ i < M 48 s := by
  unfold zrefuse at h
  split at h
  · omega
  · rename_i h1
    refine ⟨zrow1_in (M := M) (by omega), ?_⟩
    split at h
    · assumption
    · omega
theorem zref2_in {M : zMm} {s t : Int} (h : zref2 M s t = 0) : (0 ≤ s ∧ s < 6) ∧ (0 ≤ t ∧ t < 6) := by
  unfold zref2 at h
  split at h
  · omega
  · split at h
    · omega
    · split at h
      · omega
      · exact ⟨zrow1_in (M := M) (by omega), zrow1_in (M := M) (by omega)⟩
set_option maxHeartbeats 4000000 in
theorem cX9_put {M : zMm} (hP : zP M) (hv : zSv M) (s i v : Int) : zW mX9_put 4 (fun rv S' M' => S' = zS0 ∧ ((zrefuse M s i ≠ 0 ∧ rv = some (.inl (zrefuse M s i)) ∧ M = M') ∨ (zrefuse M s i = 0 ∧ rv = some (.inl 1) ∧ M' = zup M (50 + s) i (znarrow (M 46 s) v)))) (0, 0) zS0 0 (zargs 0 [.inr (.inr 0), .inl s, .inl i, .inr (.inl v)]) [] M := by
  change zW _ _ _ _ _ 0 [(0, .inr (.inr 0)), (1, .inl s), (2, .inl i), (3, .inr (.inl v))] [] M
  refine z_aload_n 0 (zdec DX9_put 0 rfl) rfl rfl (by decide) ?_
  refine z_getr (rw1 := -10) (ki := 8) (r' := 45) 0 9 (zdec DX9_put 1 rfl) rfl rfl shp0 rfl (by decide) rfl rfl fl_SixWalls_72 (zPa hP 8 rfl) ?_
  refine z_iload_n 1 (zdec DX9_put 2 rfl) rfl rfl ?_
  refine z_iload_n 2 (zdec DX9_put 3 rfl) rfl rfl ?_
  refine z_inv mX6_refusal 45 6 [.inl s, .inl i] (zdec DX9_put 4 rfl) ml_SixWalls_321 okX6_refusal rfl shp45 rfl rfl rfl rfl (Nat.le_of_ble_eq_true rfl) (Nat.le_of_ble_eq_true rfl) (b' := (0, 0)) ⟨Nat.le_refl 0, Nat.le_refl 0⟩ (Nat.le_of_ble_eq_true rfl) (cX6_refusal hP s i) (fun rv9 S9 M6 h9 => ?_)
  obtain ⟨rfl, rfl, rfl⟩ := h9
  change zW _ _ _ _ _ 9 [(0, .inr (.inr 0)), (1, .inl s), (2, .inl i), (3, .inr (.inl v))] [.inl (zrefuse M s i)] M
  refine z_istore (L' := [(0, .inr (.inr 0)), (1, .inl s), (2, .inl i), (3, .inr (.inl v)), (5, .inl (zrefuse M s i))]) (zdec DX9_put 5 rfl) rfl (by decide) ?_
  refine z_iload 4 (zdec DX9_put 6 rfl) rfl ?_
  refine z_if_eq 19 (zdec DX9_put 7 rfl) rfl (fun h13 => ?_) (fun h13 => ?_)
  ·
    refine z_aload_n 0 (zdec DX9_put 10 rfl) rfl rfl (by decide) ?_
    refine z_getr (rw1 := -10) (ki := 8) (r' := 45) 0 9 (zdec DX9_put 11 rfl) rfl rfl shp0 rfl (by decide) rfl rfl fl_SixWalls_72 (zPa hP 8 rfl) ?_
    refine z_iload_n 1 (zdec DX9_put 12 rfl) rfl rfl ?_
    refine z_iload_n 2 (zdec DX9_put 13 rfl) rfl rfl ?_
    refine z_lload_n 3 (zdec DX9_put 14 rfl) rfl rfl ?_
    refine z_inv mX6_set 45 6 [.inl s, .inl i, .inr (.inl v)] (zdec DX9_put 15 rfl) ml_SixWalls_324 okX6_set rfl shp45 rfl rfl rfl rfl (Nat.le_of_ble_eq_true rfl) (Nat.le_of_ble_eq_true rfl) (b' := (0, 0)) ⟨Nat.le_refl 0, Nat.le_refl 0⟩ (Nat.le_of_ble_eq_true rfl) (cX6_set hP s i v (zrefuse_in h13).1 ⟨(zrefuse_in h13).2.1, by have := (zrefuse_in h13).2.2; have := (hv s (zrefuse_in h13).1.1 (zrefuse_in h13).1.2).2; omega⟩) (fun rv9 S9 M26 h9 => ?_)
    obtain ⟨rfl, rfl, e26⟩ := h9
    change zW _ _ _ _ _ 29 [(0, .inr (.inr 0)), (1, .inl s), (2, .inl i), (3, .inr (.inl v)), (5, .inl (zrefuse M s i))] [] M26
    refine z_iconst 1 (zdec DX9_put 16 rfl) (by decide) ?_
    exact z_iret (zdec DX9_put 17 rfl) rfl (⟨rfl, Or.inr ⟨h13, rfl, e26⟩⟩)
  ·
    refine z_iload 4 (zdec DX9_put 8 rfl) rfl ?_
    exact z_iret (zdec DX9_put 9 rfl) rfl (⟨rfl, Or.inl ⟨h13, rfl, rfl⟩⟩)
set_option maxHeartbeats 4000000 in
theorem cX9_element {M : zMm} (hP : zP M) (hv : zSv M) (s i : Int) : zW mX9_element 4 (fun rv S' M' => S' = zS0 ∧ M = M' ∧ rv = some (.inr (.inl (if zrefuse M s i ≠ 0 then -9223372036854775808 else M (50 + s) i)))) (0, 0) zS0 0 (zargs 0 [.inr (.inr 0), .inl s, .inl i]) [] M := by
  change zW _ _ _ _ _ 0 [(0, .inr (.inr 0)), (1, .inl s), (2, .inl i)] [] M
  refine z_aload_n 0 (zdec DX9_element 0 rfl) rfl rfl (by decide) ?_
  refine z_getr (rw1 := -10) (ki := 8) (r' := 45) 0 9 (zdec DX9_element 1 rfl) rfl rfl shp0 rfl (by decide) rfl rfl fl_SixWalls_72 (zPa hP 8 rfl) ?_
  refine z_iload_n 1 (zdec DX9_element 2 rfl) rfl rfl ?_
  refine z_iload_n 2 (zdec DX9_element 3 rfl) rfl rfl ?_
  refine z_inv mX6_refusal 45 6 [.inl s, .inl i] (zdec DX9_element 4 rfl) ml_SixWalls_321 okX6_refusal rfl shp45 rfl rfl rfl rfl (Nat.le_of_ble_eq_true rfl) (Nat.le_of_ble_eq_true rfl) (b' := (0, 0)) ⟨Nat.le_refl 0, Nat.le_refl 0⟩ (Nat.le_of_ble_eq_true rfl) (cX6_refusal hP s i) (fun rv9 S9 M6 h9 => ?_)
  obtain ⟨rfl, rfl, rfl⟩ := h9
  change zW _ _ _ _ _ 9 [(0, .inr (.inr 0)), (1, .inl s), (2, .inl i)] [.inl (zrefuse M s i)] M
  refine z_if_eq 18 (zdec DX9_element 5 rfl) rfl (fun h9 => ?_) (fun h9 => ?_)
  ·
    refine z_aload_n 0 (zdec DX9_element 8 rfl) rfl rfl (by decide) ?_
    refine z_getr (rw1 := -10) (ki := 8) (r' := 45) 0 9 (zdec DX9_element 9 rfl) rfl rfl shp0 rfl (by decide) rfl rfl fl_SixWalls_72 (zPa hP 8 rfl) ?_
    refine z_iload_n 1 (zdec DX9_element 10 rfl) rfl rfl ?_
    refine z_iload_n 2 (zdec DX9_element 11 rfl) rfl rfl ?_
    refine z_inv mX6_at 45 6 [.inl s, .inl i] (zdec DX9_element 12 rfl) ml_SixWalls_178 okX6_at rfl shp45 rfl rfl rfl rfl (Nat.le_of_ble_eq_true rfl) (Nat.le_of_ble_eq_true rfl) (b' := (0, 0)) ⟨Nat.le_refl 0, Nat.le_refl 0⟩ (Nat.le_of_ble_eq_true rfl) (cX6_at hP s i (zrefuse_in h9).1 ⟨(zrefuse_in h9).2.1, by have := (zrefuse_in h9).2.2; have := (hv s (zrefuse_in h9).1.1 (zrefuse_in h9).1.2).2; omega⟩) (fun rv9 S9 M24 h9 => ?_)
    obtain ⟨rfl, rfl, rfl⟩ := h9
    change zW _ _ _ _ _ 27 [(0, .inr (.inr 0)), (1, .inl s), (2, .inl i)] [.inr (.inl (M (50 + s) i))] M
    exact z_lret (zdec DX9_element 13 rfl) rfl (⟨rfl, rfl, by rw [if_neg (by omega)]⟩)
  ·
    refine z_ldc2 (-9223372036854775808) (zdec DX9_element 6 rfl) kl_SixWalls_245 rfl ⟨by decide, by decide⟩ ?_
    refine z_goto 27 (zdec DX9_element 7 rfl) rfl ?_
    exact z_lret (zdec DX9_element 13 rfl) rfl (⟨rfl, rfl, by rw [if_pos (by omega)]⟩)
set_option maxHeartbeats 4000000 in
theorem cX9_shift {M : zMm} (hP : zP M) (hv : zSv M) (s i t j n : Int) : zW mX9_shift 4 (fun rv S' M' => S' = zS0 ∧ ((zref2 M s t ≠ 0 ∧ rv = some (.inl (zref2 M s t)) ∧ M = M') ∨ (zref2 M s t = 0 ∧ ¬ (zstretch M s i n ∧ zstretch M t j n) ∧ rv = some (.inl (-13)) ∧ M = M') ∨ (zref2 M s t = 0 ∧ (zstretch M s i n ∧ zstretch M t j n) ∧ rv = some (.inl n) ∧ M' = zcpy M (50 + s) i (50 + t) j n))) (0, 0) zS0 0 (zargs 0 [.inr (.inr 0), .inl s, .inl i, .inl t, .inl j, .inl n]) [] M := by
  change zW _ _ _ _ _ 0 [(0, .inr (.inr 0)), (1, .inl s), (2, .inl i), (3, .inl t), (4, .inl j), (5, .inl n)] [] M
  refine z_aload_n 0 (zdec DX9_shift 0 rfl) rfl rfl (by decide) ?_
  refine z_getr (rw1 := -10) (ki := 8) (r' := 45) 0 9 (zdec DX9_shift 1 rfl) rfl rfl shp0 rfl (by decide) rfl rfl fl_SixWalls_72 (zPa hP 8 rfl) ?_
  refine z_iload_n 1 (zdec DX9_shift 2 rfl) rfl rfl ?_
  refine z_iload_n 3 (zdec DX9_shift 3 rfl) rfl rfl ?_
  refine z_inv mX6_refusalOfTwo 45 6 [.inl s, .inl t] (zdec DX9_shift 4 rfl) ml_SixWalls_328 okX6_refusalOfTwo rfl shp45 rfl rfl rfl rfl (Nat.le_of_ble_eq_true rfl) (Nat.le_of_ble_eq_true rfl) (b' := (0, 0)) ⟨Nat.le_refl 0, Nat.le_refl 0⟩ (Nat.le_of_ble_eq_true rfl) (cX6_refusalOfTwo hP s t) (fun rv9 S9 M6 h9 => ?_)
  obtain ⟨rfl, rfl, rfl⟩ := h9
  change zW _ _ _ _ _ 9 [(0, .inr (.inr 0)), (1, .inl s), (2, .inl i), (3, .inl t), (4, .inl j), (5, .inl n)] [.inl (zref2 M s t)] M
  refine z_istore (L' := [(0, .inr (.inr 0)), (1, .inl s), (2, .inl i), (3, .inl t), (4, .inl j), (5, .inl n), (6, .inl (zref2 M s t))]) (zdec DX9_shift 5 rfl) rfl (by decide) ?_
  refine z_iload 6 (zdec DX9_shift 6 rfl) rfl ?_
  refine z_if_eq 19 (zdec DX9_shift 7 rfl) rfl (fun h13 => ?_) (fun h13 => ?_)
  ·
    have hst := zref2_in h13
    refine z_aload_n 0 (zdec DX9_shift 10 rfl) rfl rfl (by decide) ?_
    refine z_getr (rw1 := -10) (ki := 8) (r' := 45) 0 9 (zdec DX9_shift 11 rfl) rfl rfl shp0 rfl (by decide) rfl rfl fl_SixWalls_72 (zPa hP 8 rfl) ?_
    refine z_iload_n 1 (zdec DX9_shift 12 rfl) rfl rfl ?_
    refine z_iload_n 2 (zdec DX9_shift 13 rfl) rfl rfl ?_
    refine z_iload 5 (zdec DX9_shift 14 rfl) rfl ?_
    refine z_inv mX6_hasStretch 45 6 [.inl s, .inl i, .inl n] (zdec DX9_shift 15 rfl) ml_SixWalls_331 okX6_hasStretch rfl shp45 rfl rfl rfl rfl (Nat.le_of_ble_eq_true rfl) (Nat.le_of_ble_eq_true rfl) (b' := (0, 0)) ⟨Nat.le_refl 0, Nat.le_refl 0⟩ (Nat.le_of_ble_eq_true rfl) (cX6_hasStretch hP hv s i n hst.1) (fun rv9 S9 M27 h9 => ?_)
    obtain ⟨rfl, rfl, rfl⟩ := h9
    change zW _ _ _ _ _ 30 [(0, .inr (.inr 0)), (1, .inl s), (2, .inl i), (3, .inl t), (4, .inl j), (5, .inl n), (6, .inl (zref2 M s t))] [.inl (zb (zstretch M s i n))] M
    refine z_if_eq 48 (zdec DX9_shift 16 rfl) rfl (fun h30 => ?_) (fun h30 => ?_)
    ·
      refine z_bipush (-13) (zdec DX9_shift 24 rfl) (by decide) ?_
      exact z_iret (zdec DX9_shift 25 rfl) rfl (⟨rfl, Or.inr (Or.inl ⟨h13, fun hq => (zb_eq0.mp h30) hq.1, rfl, rfl⟩)⟩)
    ·
      rw [zb_eq0, Classical.not_not] at h30
      refine z_aload_n 0 (zdec DX9_shift 17 rfl) rfl rfl (by decide) ?_
      refine z_getr (rw1 := -10) (ki := 8) (r' := 45) 0 9 (zdec DX9_shift 18 rfl) rfl rfl shp0 rfl (by decide) rfl rfl fl_SixWalls_72 (zPa hP 8 rfl) ?_
      refine z_iload_n 3 (zdec DX9_shift 19 rfl) rfl rfl ?_
      refine z_iload 4 (zdec DX9_shift 20 rfl) rfl ?_
      refine z_iload 5 (zdec DX9_shift 21 rfl) rfl ?_
      refine z_inv mX6_hasStretch 45 6 [.inl t, .inl j, .inl n] (zdec DX9_shift 22 rfl) ml_SixWalls_331 okX6_hasStretch rfl shp45 rfl rfl rfl rfl (Nat.le_of_ble_eq_true rfl) (Nat.le_of_ble_eq_true rfl) (b' := (0, 0)) ⟨Nat.le_refl 0, Nat.le_refl 0⟩ (Nat.le_of_ble_eq_true rfl) (cX6_hasStretch hP hv t j n hst.2) (fun rv9 S9 M42 h9 => ?_)
      obtain ⟨rfl, rfl, rfl⟩ := h9
      change zW _ _ _ _ _ 45 [(0, .inr (.inr 0)), (1, .inl s), (2, .inl i), (3, .inl t), (4, .inl j), (5, .inl n), (6, .inl (zref2 M s t))] [.inl (zb (zstretch M t j n))] M
      refine z_if_ne 51 (zdec DX9_shift 23 rfl) rfl (fun h45 => ?_) (fun h45 => ?_)
      ·
        rw [zb_ne0] at h45
        refine z_aload_n 0 (zdec DX9_shift 26 rfl) rfl rfl (by decide) ?_
        refine z_getr (rw1 := -10) (ki := 8) (r' := 45) 0 9 (zdec DX9_shift 27 rfl) rfl rfl shp0 rfl (by decide) rfl rfl fl_SixWalls_72 (zPa hP 8 rfl) ?_
        refine z_iload_n 1 (zdec DX9_shift 28 rfl) rfl rfl ?_
        refine z_iload_n 2 (zdec DX9_shift 29 rfl) rfl rfl ?_
        refine z_iload_n 3 (zdec DX9_shift 30 rfl) rfl rfl ?_
        refine z_iload 4 (zdec DX9_shift 31 rfl) rfl ?_
        refine z_iload 5 (zdec DX9_shift 32 rfl) rfl ?_
        refine z_inv mX6_move 45 6 [.inl s, .inl i, .inl t, .inl j, .inl n] (zdec DX9_shift 33 rfl) ml_SixWalls_334 okX6_move rfl shp45 rfl rfl rfl rfl (Nat.le_of_ble_eq_true rfl) (Nat.le_of_ble_eq_true rfl) (b' := (0, 0)) ⟨Nat.le_refl 0, Nat.le_refl 0⟩ (Nat.le_of_ble_eq_true rfl) (cX6_move hP s i t j n hst.1 hst.2 (by have := (hv s hst.1.1 hst.1.2).2; have := (hv t hst.2.1 hst.2.2).2; unfold zstretch at h30 h45; omega)) (fun rv9 S9 M62 h9 => ?_)
        obtain ⟨rfl, rfl, e62⟩ := h9
        change zW _ _ _ _ _ 65 [(0, .inr (.inr 0)), (1, .inl s), (2, .inl i), (3, .inl t), (4, .inl j), (5, .inl n), (6, .inl (zref2 M s t))] [] M62
        refine z_iload 5 (zdec DX9_shift 34 rfl) rfl ?_
        exact z_iret (zdec DX9_shift 35 rfl) rfl (⟨rfl, Or.inr (Or.inr ⟨h13, ⟨h30, h45⟩, rfl, e62⟩)⟩)
      ·
        refine z_bipush (-13) (zdec DX9_shift 24 rfl) (by decide) ?_
        exact z_iret (zdec DX9_shift 25 rfl) rfl (⟨rfl, Or.inr (Or.inl ⟨h13, fun hq => h45 (zb_ne0.mpr hq.2), rfl, rfl⟩)⟩)
  ·
    refine z_iload 6 (zdec DX9_shift 8 rfl) rfl ?_
    exact z_iret (zdec DX9_shift 9 rfl) rfl (⟨rfl, Or.inl ⟨h13, rfl, rfl⟩⟩)
end
section
/-! contracts of Masonry: colours -/
def zpu (T : Int → Int) (w v : Int) : Int → Int := fun k => if k = w then v else T k
theorem zpu_s {T : Int → Int} {w v : Int} : zpu T w v w = v := if_pos rfl
theorem zpu_n {T : Int → Int} {w v k : Int} (h : k ≠ w) : zpu T w v k = T k := if_neg h
def zalIn (row : Int → Int) (h w c : Int) : Int := zfo (fun a s => if zwat (h * 6 + s) ≠ w ∧ row (zwat (h * 6 + s)) = c then a + 1 else a) 0 (zsid h)
def zalike (row : Int → Int) (w c : Int) : Int := zalIn row (zlow w) w c + zalIn row (zhigh w) w c
def zclash (row : Int → Int) : Int := zsum (fun w => zalike row w (row w)) 33 / 2
def zcalm (row : Int → Int) (w : Int) : Int := zfo (fun best i => if zalike row w (i + 1) < zalike row w best then i + 1 else best) 0 5
def zcalmed (row : Int → Int) (n : Int) : Int → Int := zfo (fun T w => zpu T w (zcalm T w)) row n
theorem zalIn_b (row : Int → Int) (h w c : Int) : 0 ≤ zalIn row h w c ∧ zalIn row h w c ≤ 6 := by
  have key : ∀ n : Nat, 0 ≤ zfold (fun (a : Int) (s : Int) => if zwat (h * 6 + s) ≠ w ∧ row (zwat (h * 6 + s)) = c then a + 1 else a) 0 n ∧ zfold (fun (a : Int) (s : Int) => if zwat (h * 6 + s) ≠ w ∧ row (zwat (h * 6 + s)) = c then a + 1 else a) 0 n ≤ n := by
    intro n
    induction n with
    | zero => exact ⟨Int.le_refl _, Int.le_refl _⟩
    | succ n ih =>
      simp only [zfold]
      split <;> omega
  have h1 := key (zsid h).toNat
  have h2 := zsid_b h
  unfold zalIn zfo
  omega
theorem zalike_b (row : Int → Int) (w c : Int) : 0 ≤ zalike row w c ∧ zalike row w c ≤ 12 := by
  have h1 := zalIn_b row (zlow w) w c
  have h2 := zalIn_b row (zhigh w) w c
  unfold zalike
  omega
theorem zalike_c {r T : Int → Int} (h : ∀ w : Int, 0 ≤ w → w < 33 → r w = T w) (w c : Int) : zalike r w c = zalike T w c := by
  have k : ∀ g : Int, zalIn r g w c = zalIn T g w c := fun g => zfo_c fun a s _ _ => by rw [h _ (zwat_b _).1 (zwat_b _).2]
  unfold zalike
  rw [k, k]
theorem zcalm_c {r T : Int → Int} (h : ∀ w : Int, 0 ≤ w → w < 33 → r w = T w) (w : Int) : zcalm r w = zcalm T w := zfo_c fun b i _ _ => by rw [zalike_c h, zalike_c h]
theorem zsum_c {f g : Int → Int} {n : Int} (h : ∀ i : Int, 0 ≤ i → i < n → f i = g i) : zsum f n = zsum g n := zfo_c fun a i h0 h1 => by rw [h i h0 h1]
theorem zclash_c {r T : Int → Int} (h : ∀ w : Int, 0 ≤ w → w < 33 → r w = T w) : zclash r = zclash T := by
  unfold zclash
  rw [zsum_c fun w h0 h1 => by rw [zalike_c h, h w h0 h1]]
theorem zcalm_b (row : Int → Int) (w : Int) : 0 ≤ zcalm row w ∧ zcalm row w ≤ 5 := by
  have key : ∀ n : Nat, n ≤ 5 → 0 ≤ zfold (fun (best : Int) (i : Int) => if zalike row w (i + 1) < zalike row w best then i + 1 else best) 0 n ∧ zfold (fun (best : Int) (i : Int) => if zalike row w (i + 1) < zalike row w best then i + 1 else best) 0 n ≤ n := by
    intro n
    induction n with
    | zero => intro _; exact ⟨Int.le_refl _, Int.le_refl _⟩
    | succ n ih =>
      intro hn
      have := ih (by omega)
      simp only [zfold]
      split <;> omega
  exact key 5 (Nat.le_refl _)
def zpots (row : Int → Int) (n : Int) : Int := zfo (fun a w => zor a (zshl 1 (row w))) 0 n
set_option maxHeartbeats 4000000 in
theorem lp_X5_alikeIn_13_6 {Q : zPost} {M : zMm} (hP : zP M) (hG : zG M) (h w c : Int) (hh : 0 ≤ h ∧ h < 16) (hx61 : ∀ (a : Int), (a = zalIn (M 13) h w c) → zW mX5_alikeIn 1 Q (0, 0) zS0 61 [(5, .inl a)] [] M) : ∀ (n : Nat) (a : Int) (s : Int), (6 - s).toNat < n → (0 ≤ s ∧ s ≤ zsid h ∧ 0 ≤ a ∧ a ≤ s ∧ a = zfo (fun a s => if zwat (h * 6 + s) ≠ w ∧ M 13 (zwat (h * 6 + s)) = c then a + 1 else a) 0 s) → zW mX5_alikeIn 1 Q (0, 0) zS0 6 [(0, .inr (.inr 27)), (1, .inl h), (2, .inl w), (3, .inl c), (4, .inr (.inr 13)), (5, .inl a), (6, .inl s)] [] M := by
  intro n
  induction n with
  | zero => intro a s hn; exact absurd hn (Nat.not_lt_zero _)
  | succ n ih =>
    intro a s hn hI
    have hs6 := zsid_b h
    have hsd := hG.sid hh.1 hh.2
    have hwb := zwat_b (h * 6 + s)
    refine z_iload 6 (zdec DX5_alikeIn 4 rfl) rfl ?_
    refine z_aload_n 0 (zdec DX5_alikeIn 5 rfl) rfl rfl (by decide) ?_
    refine z_getr (rw1 := -37) (ki := 0) (r' := 1) 27 5 (zdec DX5_alikeIn 6 rfl) rfl rfl shp27 rfl (by decide) rfl rfl fl_SixWalls_Masonry_21 (zPa hP 30 rfl) ?_
    refine z_getr (rw1 := -11) (ki := 2) (r' := 4) 1 1 (zdec DX5_alikeIn 7 rfl) rfl rfl shp1 rfl (by decide) rfl rfl fl_SixWalls_Masonry_81 (zPa hP 11 rfl) ?_
    refine z_iload_n 1 (zdec DX5_alikeIn 8 rfl) rfl rfl ?_
    refine z_iald 4 (zdec DX5_alikeIn 9 rfl) rfl shp4 ⟨by omega, by omega⟩ ?_
    refine z_icmp_ge 61 (zdec DX5_alikeIn 10 rfl) rfl (fun h17 => ?_) (fun h17 => ?_)
    ·
      refine z_weak (L' := [(5, .inl a)]) (by simp) ?_
      exact hx61 a (by have e : s = zsid h := (by omega); rw [hI.2.2.2.2, e]; rfl)
    ·
      refine z_aload_n 0 (zdec DX5_alikeIn 11 rfl) rfl rfl (by decide) ?_
      refine z_getr (rw1 := -37) (ki := 0) (r' := 1) 27 5 (zdec DX5_alikeIn 12 rfl) rfl rfl shp27 rfl (by decide) rfl rfl fl_SixWalls_Masonry_21 (zPa hP 30 rfl) ?_
      refine z_getr (rw1 := -11) (ki := 3) (r' := 5) 1 1 (zdec DX5_alikeIn 13 rfl) rfl rfl shp1 rfl (by decide) rfl rfl fl_SixWalls_Masonry_84 (zPa hP 12 rfl) ?_
      refine z_iload_n 1 (zdec DX5_alikeIn 14 rfl) rfl rfl ?_
      refine z_bipush 6 (zdec DX5_alikeIn 15 rfl) (by decide) ?_
      refine z_imul (zdec DX5_alikeIn 16 rfl) (by unfold z32; omega) ?_
      refine z_iload 6 (zdec DX5_alikeIn 17 rfl) rfl ?_
      refine z_iadd (zdec DX5_alikeIn 18 rfl) (by unfold z32; omega) ?_
      refine z_iald 5 (zdec DX5_alikeIn 19 rfl) rfl shp5 ⟨by omega, by omega⟩ ?_
      have ew := hG.wat (w := h * 6 + s) (by omega) (by omega)
      rw [ew]
      refine z_istore (L' := [(0, .inr (.inr 27)), (1, .inl h), (2, .inl w), (3, .inl c), (4, .inr (.inr 13)), (5, .inl a), (6, .inl s), (7, .inl (zwat (h * 6 + s)))]) (zdec DX5_alikeIn 20 rfl) rfl (by decide) ?_
      refine z_iload 7 (zdec DX5_alikeIn 21 rfl) rfl ?_
      refine z_iload_n 2 (zdec DX5_alikeIn 22 rfl) rfl rfl ?_
      refine z_icmp_eq 55 (zdec DX5_alikeIn 23 rfl) rfl (fun h40 => ?_) (fun h40 => ?_)
      ·
        refine z_iinc (L' := [(0, .inr (.inr 27)), (1, .inl h), (2, .inl w), (3, .inl c), (4, .inr (.inr 13)), (5, .inl a), (6, .inl (s + 1)), (7, .inl (zwat (h * 6 + s)))]) 6 (zdec DX5_alikeIn 30 rfl) rfl (by unfold z32; omega) rfl (by decide) ?_
        refine z_goto 6 (zdec DX5_alikeIn 31 rfl) rfl ?_
        refine z_weak (L' := [(0, .inr (.inr 27)), (1, .inl h), (2, .inl w), (3, .inl c), (4, .inr (.inr 13)), (5, .inl a), (6, .inl (s + 1))]) (by simp) ?_
        exact ih a (s + 1) (by omega) ⟨by omega, by omega, by omega, by omega, by rw [zfo_s _ _ (by omega), ← hI.2.2.2.2, if_neg (fun q => q.1 h40)]⟩
      ·
        refine z_aload 4 (zdec DX5_alikeIn 24 rfl) rfl (by decide) ?_
        refine z_iload 7 (zdec DX5_alikeIn 25 rfl) rfl ?_
        refine z_iald 13 (zdec DX5_alikeIn 26 rfl) rfl shp13 ⟨by omega, by omega⟩ ?_
        refine z_iload_n 3 (zdec DX5_alikeIn 27 rfl) rfl rfl ?_
        refine z_icmp_ne 55 (zdec DX5_alikeIn 28 rfl) rfl (fun h49 => ?_) (fun h49 => ?_)
        ·
          refine z_iinc (L' := [(0, .inr (.inr 27)), (1, .inl h), (2, .inl w), (3, .inl c), (4, .inr (.inr 13)), (5, .inl a), (6, .inl (s + 1)), (7, .inl (zwat (h * 6 + s)))]) 6 (zdec DX5_alikeIn 30 rfl) rfl (by unfold z32; omega) rfl (by decide) ?_
          refine z_goto 6 (zdec DX5_alikeIn 31 rfl) rfl ?_
          refine z_weak (L' := [(0, .inr (.inr 27)), (1, .inl h), (2, .inl w), (3, .inl c), (4, .inr (.inr 13)), (5, .inl a), (6, .inl (s + 1))]) (by simp) ?_
          exact ih a (s + 1) (by omega) ⟨by omega, by omega, by omega, by omega, by rw [zfo_s _ _ (by omega), ← hI.2.2.2.2, if_neg (fun q => h49 q.2)]⟩
        ·
          refine z_iinc (L' := [(0, .inr (.inr 27)), (1, .inl h), (2, .inl w), (3, .inl c), (4, .inr (.inr 13)), (5, .inl (a + 1)), (6, .inl s), (7, .inl (zwat (h * 6 + s)))]) 5 (zdec DX5_alikeIn 29 rfl) rfl (by unfold z32; omega) rfl (by decide) ?_
          refine z_iinc (L' := [(0, .inr (.inr 27)), (1, .inl h), (2, .inl w), (3, .inl c), (4, .inr (.inr 13)), (5, .inl (a + 1)), (6, .inl (s + 1)), (7, .inl (zwat (h * 6 + s)))]) 6 (zdec DX5_alikeIn 30 rfl) rfl (by unfold z32; omega) rfl (by decide) ?_
          refine z_goto 6 (zdec DX5_alikeIn 31 rfl) rfl ?_
          refine z_weak (L' := [(0, .inr (.inr 27)), (1, .inl h), (2, .inl w), (3, .inl c), (4, .inr (.inr 13)), (5, .inl (a + 1)), (6, .inl (s + 1))]) (by simp) ?_
          exact ih (a + 1) (s + 1) (by omega) ⟨by omega, by omega, by omega, by omega, by rw [zfo_s _ _ (by omega), ← hI.2.2.2.2, if_pos ⟨h40, by omega⟩]⟩
set_option maxHeartbeats 4000000 in
theorem cX5_alikeIn_13 {M : zMm} (hP : zP M) (hG : zG M) (h w c : Int) (hh : 0 ≤ h ∧ h < 16) : zW mX5_alikeIn 1 (fun rv S' M' => S' = zS0 ∧ M = M' ∧ rv = some (.inl (zalIn (M 13) h w c))) (0, 0) zS0 0 (zargs 0 [.inr (.inr 27), .inl h, .inl w, .inl c, .inr (.inr 13)]) [] M := by
  change zW _ _ _ _ _ 0 [(0, .inr (.inr 27)), (1, .inl h), (2, .inl w), (3, .inl c), (4, .inr (.inr 13))] [] M
  refine z_iconst 0 (zdec DX5_alikeIn 0 rfl) (by decide) ?_
  refine z_istore (L' := [(0, .inr (.inr 27)), (1, .inl h), (2, .inl w), (3, .inl c), (4, .inr (.inr 13)), (5, .inl 0)]) (zdec DX5_alikeIn 1 rfl) rfl (by decide) ?_
  refine z_iconst 0 (zdec DX5_alikeIn 2 rfl) (by decide) ?_
  refine z_istore (L' := [(0, .inr (.inr 27)), (1, .inl h), (2, .inl w), (3, .inl c), (4, .inr (.inr 13)), (5, .inl 0), (6, .inl 0)]) (zdec DX5_alikeIn 3 rfl) rfl (by decide) ?_
  refine lp_X5_alikeIn_13_6 hP hG h w c hh (hx61 := fun a hx => ?_) _ 0 0 (Nat.lt_succ_self _) ⟨by omega, (zsid_b h).1, by omega, by omega, rfl⟩
  refine z_iload 0 (zdec DX5_alikeIn 32 rfl) rfl ?_
  exact z_iret (zdec DX5_alikeIn 33 rfl) rfl (⟨rfl, rfl, zri hx⟩)
set_option maxHeartbeats 4000000 in
theorem cX5_alike_13 {M : zMm} (hP : zP M) (hG : zG M) (w c : Int) (hw : 0 ≤ w ∧ w < 33) : zW mX5_alike 2 (fun rv S' M' => S' = zS0 ∧ M = M' ∧ rv = some (.inl (zalike (M 13) w c))) (0, 0) zS0 0 (zargs 0 [.inr (.inr 27), .inl w, .inl c, .inr (.inr 13)]) [] M := by
  change zW _ _ _ _ _ 0 [(0, .inr (.inr 27)), (1, .inl w), (2, .inl c), (3, .inr (.inr 13))] [] M
  refine z_aload_n 0 (zdec DX5_alike 0 rfl) rfl rfl (by decide) ?_
  refine z_aload_n 0 (zdec DX5_alike 1 rfl) rfl rfl (by decide) ?_
  refine z_getr (rw1 := -37) (ki := 0) (r' := 1) 27 5 (zdec DX5_alike 2 rfl) rfl rfl shp27 rfl (by decide) rfl rfl fl_SixWalls_Masonry_21 (zPa hP 30 rfl) ?_
  refine z_getr (rw1 := -11) (ki := 0) (r' := 2) 1 1 (zdec DX5_alike 3 rfl) rfl rfl shp1 rfl (by decide) rfl rfl fl_SixWalls_Masonry_25 (zPa hP 9 rfl) ?_
  refine z_iload_n 1 (zdec DX5_alike 4 rfl) rfl rfl ?_
  refine z_iald 2 (zdec DX5_alike 5 rfl) rfl shp2 ⟨by omega, by omega⟩ ?_
  rw [hG.low hw.1 hw.2]
  refine z_iload_n 1 (zdec DX5_alike 6 rfl) rfl rfl ?_
  refine z_iload_n 2 (zdec DX5_alike 7 rfl) rfl rfl ?_
  refine z_aload_n 3 (zdec DX5_alike 8 rfl) rfl rfl (by decide) ?_
  refine z_inv mX5_alikeIn 27 5 [.inl (zlow w), .inl w, .inl c, .inr (.inr 13)] (zdec DX5_alike 9 rfl) ml_SixWalls_Masonry_77 okX5_alikeIn rfl shp27 rfl rfl rfl rfl (Nat.le_of_ble_eq_true rfl) (Nat.le_of_ble_eq_true rfl) (b' := (0, 0)) ⟨Nat.le_refl 0, Nat.le_refl 0⟩ (Nat.le_of_ble_eq_true rfl) (cX5_alikeIn_13 hP hG (zlow w) w c (zlow_b w)) (fun rv9 S9 M13 h9 => ?_)
  obtain ⟨rfl, rfl, rfl⟩ := h9
  change zW _ _ _ _ _ 16 [(0, .inr (.inr 27)), (1, .inl w), (2, .inl c), (3, .inr (.inr 13))] [.inl (zalIn (M 13) (zlow w) w c)] M
  refine z_aload_n 0 (zdec DX5_alike 10 rfl) rfl rfl (by decide) ?_
  refine z_aload_n 0 (zdec DX5_alike 11 rfl) rfl rfl (by decide) ?_
  refine z_getr (rw1 := -37) (ki := 0) (r' := 1) 27 5 (zdec DX5_alike 12 rfl) rfl rfl shp27 rfl (by decide) rfl rfl fl_SixWalls_Masonry_21 (zPa hP 30 rfl) ?_
  refine z_getr (rw1 := -11) (ki := 1) (r' := 3) 1 1 (zdec DX5_alike 13 rfl) rfl rfl shp1 rfl (by decide) rfl rfl fl_SixWalls_Masonry_30 (zPa hP 10 rfl) ?_
  refine z_iload_n 1 (zdec DX5_alike 14 rfl) rfl rfl ?_
  refine z_iald 3 (zdec DX5_alike 15 rfl) rfl shp3 ⟨by omega, by omega⟩ ?_
  rw [hG.high hw.1 hw.2]
  refine z_iload_n 1 (zdec DX5_alike 16 rfl) rfl rfl ?_
  refine z_iload_n 2 (zdec DX5_alike 17 rfl) rfl rfl ?_
  refine z_aload_n 3 (zdec DX5_alike 18 rfl) rfl rfl (by decide) ?_
  refine z_inv mX5_alikeIn 27 5 [.inl (zhigh w), .inl w, .inl c, .inr (.inr 13)] (zdec DX5_alike 19 rfl) ml_SixWalls_Masonry_77 okX5_alikeIn rfl shp27 rfl rfl rfl rfl (Nat.le_of_ble_eq_true rfl) (Nat.le_of_ble_eq_true rfl) (b' := (0, 0)) ⟨Nat.le_refl 0, Nat.le_refl 0⟩ (Nat.le_of_ble_eq_true rfl) (cX5_alikeIn_13 hP hG (zhigh w) w c (zhigh_b w)) (fun rv9 S9 M29 h9 => ?_)
  obtain ⟨rfl, rfl, rfl⟩ := h9
  change zW _ _ _ _ _ 32 [(0, .inr (.inr 27)), (1, .inl w), (2, .inl c), (3, .inr (.inr 13))] [.inl (zalIn (M 13) (zhigh w) w c), .inl (zalIn (M 13) (zlow w) w c)] M
  refine z_iadd (zdec DX5_alike 20 rfl) (by have := zalIn_b (M 13) (zlow w) w c; have := zalIn_b (M 13) (zhigh w) w c; unfold z32; omega) ?_
  exact z_iret (zdec DX5_alike 21 rfl) rfl (⟨rfl, rfl, rfl⟩)
set_option maxHeartbeats 4000000 in
theorem lp_X5_calmest_13_5 {Q : zPost} {M : zMm} (hP : zP M) (hG : zG M) (w : Int) (hw : 0 ≤ w ∧ w < 33) (hx39 : ∀ (b : Int), (b = zcalm (M 13) w) → zW mX5_calmest 3 Q (0, 0) zS0 39 [(3, .inl b)] [] M) : ∀ (n : Nat) (b : Int) (i : Int), (6 - i).toNat < n → (1 ≤ i ∧ i ≤ 6 ∧ b = zfo (fun best i => if zalike (M 13) w (i + 1) < zalike (M 13) w best then i + 1 else best) 0 (i - 1)) → zW mX5_calmest 3 Q (0, 0) zS0 5 [(0, .inr (.inr 27)), (1, .inl w), (2, .inr (.inr 13)), (3, .inl b), (4, .inl i)] [] M := by
  intro n
  induction n with
  | zero => intro b i hn; exact absurd hn (Nat.not_lt_zero _)
  | succ n ih =>
    intro b i hn hI
    refine z_iload 4 (zdec DX5_calmest 4 rfl) rfl ?_
    refine z_bipush 6 (zdec DX5_calmest 5 rfl) (by decide) ?_
    refine z_icmp_ge 39 (zdec DX5_calmest 6 rfl) rfl (fun h9 => ?_) (fun h9 => ?_)
    ·
      refine z_weak (L' := [(3, .inl b)]) (by simp) ?_
      exact hx39 b (by rw [hI.2.2, show i = 6 by omega]; rfl)
    ·
      refine z_aload_n 0 (zdec DX5_calmest 7 rfl) rfl rfl (by decide) ?_
      refine z_iload_n 1 (zdec DX5_calmest 8 rfl) rfl rfl ?_
      refine z_iload 4 (zdec DX5_calmest 9 rfl) rfl ?_
      refine z_aload_n 2 (zdec DX5_calmest 10 rfl) rfl rfl (by decide) ?_
      refine z_inv mX5_alike 27 5 [.inl w, .inl i, .inr (.inr 13)] (zdec DX5_calmest 11 rfl) ml_SixWalls_Masonry_73 okX5_alike rfl shp27 rfl rfl rfl rfl (Nat.le_of_ble_eq_true rfl) (Nat.le_of_ble_eq_true rfl) (b' := (0, 0)) ⟨Nat.le_refl 0, Nat.le_refl 0⟩ (Nat.le_of_ble_eq_true rfl) (cX5_alike_13 hP hG w i hw) (fun rv9 S9 M17 h9 => ?_)
      obtain ⟨rfl, rfl, rfl⟩ := h9
      change zW _ _ _ _ _ 20 [(0, .inr (.inr 27)), (1, .inl w), (2, .inr (.inr 13)), (3, .inl b), (4, .inl i)] [.inl (zalike (M 13) w i)] M
      refine z_aload_n 0 (zdec DX5_calmest 12 rfl) rfl rfl (by decide) ?_
      refine z_iload_n 1 (zdec DX5_calmest 13 rfl) rfl rfl ?_
      refine z_iload_n 3 (zdec DX5_calmest 14 rfl) rfl rfl ?_
      refine z_aload_n 2 (zdec DX5_calmest 15 rfl) rfl rfl (by decide) ?_
      refine z_inv mX5_alike 27 5 [.inl w, .inl b, .inr (.inr 13)] (zdec DX5_calmest 16 rfl) ml_SixWalls_Masonry_73 okX5_alike rfl shp27 rfl rfl rfl rfl (Nat.le_of_ble_eq_true rfl) (Nat.le_of_ble_eq_true rfl) (b' := (0, 0)) ⟨Nat.le_refl 0, Nat.le_refl 0⟩ (Nat.le_of_ble_eq_true rfl) (cX5_alike_13 hP hG w b hw) (fun rv9 S9 M24 h9 => ?_)
      obtain ⟨rfl, rfl, rfl⟩ := h9
      change zW _ _ _ _ _ 27 [(0, .inr (.inr 27)), (1, .inl w), (2, .inr (.inr 13)), (3, .inl b), (4, .inl i)] [.inl (zalike (M 13) w b), .inl (zalike (M 13) w i)] M
      refine z_icmp_ge 33 (zdec DX5_calmest 17 rfl) rfl (fun h27 => ?_) (fun h27 => ?_)
      ·
        refine z_iinc (L' := [(0, .inr (.inr 27)), (1, .inl w), (2, .inr (.inr 13)), (3, .inl b), (4, .inl (i + 1))]) 4 (zdec DX5_calmest 20 rfl) rfl (by unfold z32; omega) rfl (by decide) ?_
        refine z_goto 5 (zdec DX5_calmest 21 rfl) rfl ?_
        exact ih b (i + 1) (by omega) ⟨by omega, by omega, by rw [show i + 1 - 1 = (i - 1) + 1 by omega, zfo_s _ _ (by omega), ← hI.2.2, show i - 1 + 1 = i by omega, if_neg (by omega)]⟩
      ·
        refine z_iload 4 (zdec DX5_calmest 18 rfl) rfl ?_
        refine z_istore_n (L' := [(0, .inr (.inr 27)), (1, .inl w), (2, .inr (.inr 13)), (3, .inl i), (4, .inl i)]) (zdec DX5_calmest 19 rfl) rfl rfl (by decide) ?_
        refine z_iinc (L' := [(0, .inr (.inr 27)), (1, .inl w), (2, .inr (.inr 13)), (3, .inl i), (4, .inl (i + 1))]) 4 (zdec DX5_calmest 20 rfl) rfl (by unfold z32; omega) rfl (by decide) ?_
        refine z_goto 5 (zdec DX5_calmest 21 rfl) rfl ?_
        exact ih i (i + 1) (by omega) ⟨by omega, by omega, by rw [show i + 1 - 1 = (i - 1) + 1 by omega, zfo_s _ _ (by omega), ← hI.2.2, show i - 1 + 1 = i by omega, if_pos (by omega)]⟩
set_option maxHeartbeats 4000000 in
theorem cX5_calmest_13 {M : zMm} (hP : zP M) (hG : zG M) (w : Int) (hw : 0 ≤ w ∧ w < 33) : zW mX5_calmest 3 (fun rv S' M' => S' = zS0 ∧ M = M' ∧ rv = some (.inl (zcalm (M 13) w))) (0, 0) zS0 0 (zargs 0 [.inr (.inr 27), .inl w, .inr (.inr 13)]) [] M := by
  change zW _ _ _ _ _ 0 [(0, .inr (.inr 27)), (1, .inl w), (2, .inr (.inr 13))] [] M
  refine z_iconst 0 (zdec DX5_calmest 0 rfl) (by decide) ?_
  refine z_istore_n (L' := [(0, .inr (.inr 27)), (1, .inl w), (2, .inr (.inr 13)), (3, .inl 0)]) (zdec DX5_calmest 1 rfl) rfl rfl (by decide) ?_
  refine z_iconst 1 (zdec DX5_calmest 2 rfl) (by decide) ?_
  refine z_istore (L' := [(0, .inr (.inr 27)), (1, .inl w), (2, .inr (.inr 13)), (3, .inl 0), (4, .inl 1)]) (zdec DX5_calmest 3 rfl) rfl (by decide) ?_
  refine lp_X5_calmest_13_5 hP hG w hw (hx39 := fun b hx => ?_) _ 0 1 (Nat.lt_succ_self _) ⟨by omega, by omega, rfl⟩
  refine z_iload_n 0 (zdec DX5_calmest 22 rfl) rfl rfl ?_
  exact z_iret (zdec DX5_calmest 23 rfl) rfl (⟨rfl, rfl, zri hx⟩)
set_option maxHeartbeats 4000000 in
theorem lp_X5_clashesOf_13_4 {Q : zPost} {M : zMm} (hP : zP M) (hG : zG M) (hx28 : ∀ (a : Int), (0 ≤ a ∧ a = zsum (fun w => zalike (M 13) w (M 13 w)) 33) → zW mX5_clashesOf 3 Q (0, 0) zS0 28 [(2, .inl a)] [] M) : ∀ (n : Nat) (a : Int) (w : Int), (33 - w).toNat < n → (0 ≤ w ∧ w ≤ 33 ∧ 0 ≤ a ∧ a ≤ 12 * w ∧ a = zsum (fun w => zalike (M 13) w (M 13 w)) w) → zW mX5_clashesOf 3 Q (0, 0) zS0 4 [(0, .inr (.inr 27)), (1, .inr (.inr 13)), (2, .inl a), (3, .inl w)] [] M := by
  intro n
  induction n with
  | zero => intro a w hn; exact absurd hn (Nat.not_lt_zero _)
  | succ n ih =>
    intro a w hn hI
    refine z_iload_n 3 (zdec DX5_clashesOf 4 rfl) rfl rfl ?_
    refine z_bipush 33 (zdec DX5_clashesOf 5 rfl) (by decide) ?_
    refine z_icmp_ge 28 (zdec DX5_clashesOf 6 rfl) rfl (fun h7 => ?_) (fun h7 => ?_)
    ·
      refine z_weak (L' := [(2, .inl a)]) (by simp) ?_
      exact hx28 a ⟨by omega, by rw [hI.2.2.2.2, show w = 33 by omega]⟩
    ·
      refine z_iload_n 2 (zdec DX5_clashesOf 7 rfl) rfl rfl ?_
      refine z_aload_n 0 (zdec DX5_clashesOf 8 rfl) rfl rfl (by decide) ?_
      refine z_iload_n 3 (zdec DX5_clashesOf 9 rfl) rfl rfl ?_
      refine z_aload_n 1 (zdec DX5_clashesOf 10 rfl) rfl rfl (by decide) ?_
      refine z_iload_n 3 (zdec DX5_clashesOf 11 rfl) rfl rfl ?_
      refine z_iald 13 (zdec DX5_clashesOf 12 rfl) rfl shp13 ⟨by omega, by omega⟩ ?_
      refine z_aload_n 1 (zdec DX5_clashesOf 13 rfl) rfl rfl (by decide) ?_
      refine z_inv mX5_alike 27 5 [.inl w, .inl (M 13 w), .inr (.inr 13)] (zdec DX5_clashesOf 14 rfl) ml_SixWalls_Masonry_73 okX5_alike rfl shp27 rfl rfl rfl rfl (Nat.le_of_ble_eq_true rfl) (Nat.le_of_ble_eq_true rfl) (b' := (0, 0)) ⟨Nat.le_refl 0, Nat.le_refl 0⟩ (Nat.le_of_ble_eq_true rfl) (cX5_alike_13 hP hG w (M 13 w) ⟨by omega, by omega⟩) (fun rv9 S9 M17 h9 => ?_)
      obtain ⟨rfl, rfl, rfl⟩ := h9
      have hab := zalike_b (M 13) w (M 13 w)
      change zW _ _ _ _ _ 20 [(0, .inr (.inr 27)), (1, .inr (.inr 13)), (2, .inl a), (3, .inl w)] [.inl (zalike (M 13) w (M 13 w)), .inl a] M
      refine z_iadd (zdec DX5_clashesOf 15 rfl) (by unfold z32; omega) ?_
      refine z_istore_n (L' := [(0, .inr (.inr 27)), (1, .inr (.inr 13)), (2, .inl (a + (zalike (M 13) w (M 13 w)))), (3, .inl w)]) (zdec DX5_clashesOf 16 rfl) rfl rfl (by decide) ?_
      refine z_iinc (L' := [(0, .inr (.inr 27)), (1, .inr (.inr 13)), (2, .inl (a + (zalike (M 13) w (M 13 w)))), (3, .inl (w + 1))]) 3 (zdec DX5_clashesOf 17 rfl) rfl (by unfold z32; omega) rfl (by decide) ?_
      refine z_goto 4 (zdec DX5_clashesOf 18 rfl) rfl ?_
      exact ih (a + (zalike (M 13) w (M 13 w))) (w + 1) (by omega) ⟨by omega, by omega, by omega, by omega, by rw [zsum_s _ (by omega), ← hI.2.2.2.2]⟩
set_option maxHeartbeats 4000000 in
theorem cX5_clashesOf_13 {M : zMm} (hP : zP M) (hG : zG M) : zW mX5_clashesOf 3 (fun rv S' M' => S' = zS0 ∧ M = M' ∧ rv = some (.inl (zclash (M 13)))) (0, 0) zS0 0 (zargs 0 [.inr (.inr 27), .inr (.inr 13)]) [] M := by
  change zW _ _ _ _ _ 0 [(0, .inr (.inr 27)), (1, .inr (.inr 13))] [] M
  refine z_iconst 0 (zdec DX5_clashesOf 0 rfl) (by decide) ?_
  refine z_istore_n (L' := [(0, .inr (.inr 27)), (1, .inr (.inr 13)), (2, .inl 0)]) (zdec DX5_clashesOf 1 rfl) rfl rfl (by decide) ?_
  refine z_iconst 0 (zdec DX5_clashesOf 2 rfl) (by decide) ?_
  refine z_istore_n (L' := [(0, .inr (.inr 27)), (1, .inr (.inr 13)), (2, .inl 0), (3, .inl 0)]) (zdec DX5_clashesOf 3 rfl) rfl rfl (by decide) ?_
  refine lp_X5_clashesOf_13_4 hP hG (hx28 := fun a hx => ?_) _ 0 0 (Nat.lt_succ_self _) ⟨by omega, by omega, by omega, by omega, rfl⟩
  refine z_iload_n 0 (zdec DX5_clashesOf 19 rfl) rfl rfl ?_
  refine z_iconst 2 (zdec DX5_clashesOf 20 rfl) (by decide) ?_
  refine z_idivp (zdec DX5_clashesOf 21 rfl) (by omega) (by omega) ?_
  exact z_iret (zdec DX5_clashesOf 22 rfl) rfl (⟨rfl, rfl, zri (by rw [hx.2]; rfl)⟩)
set_option maxHeartbeats 4000000 in
theorem lp_X5_alikeIn_30_6 {Q : zPost} {M : zMm} (hP : zP M) (hG : zG M) (h w c : Int) (hh : 0 ≤ h ∧ h < 16) (hx61 : ∀ (a : Int), (a = zalIn (M 30) h w c) → zW mX5_alikeIn 1 Q (0, 0) zS0 61 [(5, .inl a)] [] M) : ∀ (n : Nat) (a : Int) (s : Int), (6 - s).toNat < n → (0 ≤ s ∧ s ≤ zsid h ∧ 0 ≤ a ∧ a ≤ s ∧ a = zfo (fun a s => if zwat (h * 6 + s) ≠ w ∧ M 30 (zwat (h * 6 + s)) = c then a + 1 else a) 0 s) → zW mX5_alikeIn 1 Q (0, 0) zS0 6 [(0, .inr (.inr 27)), (1, .inl h), (2, .inl w), (3, .inl c), (4, .inr (.inr 30)), (5, .inl a), (6, .inl s)] [] M := by
  intro n
  induction n with
  | zero => intro a s hn; exact absurd hn (Nat.not_lt_zero _)
  | succ n ih =>
    intro a s hn hI
    have hs6 := zsid_b h
    have hsd := hG.sid hh.1 hh.2
    have hwb := zwat_b (h * 6 + s)
    refine z_iload 6 (zdec DX5_alikeIn 4 rfl) rfl ?_
    refine z_aload_n 0 (zdec DX5_alikeIn 5 rfl) rfl rfl (by decide) ?_
    refine z_getr (rw1 := -37) (ki := 0) (r' := 1) 27 5 (zdec DX5_alikeIn 6 rfl) rfl rfl shp27 rfl (by decide) rfl rfl fl_SixWalls_Masonry_21 (zPa hP 30 rfl) ?_
    refine z_getr (rw1 := -11) (ki := 2) (r' := 4) 1 1 (zdec DX5_alikeIn 7 rfl) rfl rfl shp1 rfl (by decide) rfl rfl fl_SixWalls_Masonry_81 (zPa hP 11 rfl) ?_
    refine z_iload_n 1 (zdec DX5_alikeIn 8 rfl) rfl rfl ?_
    refine z_iald 4 (zdec DX5_alikeIn 9 rfl) rfl shp4 ⟨by omega, by omega⟩ ?_
    refine z_icmp_ge 61 (zdec DX5_alikeIn 10 rfl) rfl (fun h17 => ?_) (fun h17 => ?_)
    ·
      refine z_weak (L' := [(5, .inl a)]) (by simp) ?_
      exact hx61 a (by have e : s = zsid h := (by omega); rw [hI.2.2.2.2, e]; rfl)
    ·
      refine z_aload_n 0 (zdec DX5_alikeIn 11 rfl) rfl rfl (by decide) ?_
      refine z_getr (rw1 := -37) (ki := 0) (r' := 1) 27 5 (zdec DX5_alikeIn 12 rfl) rfl rfl shp27 rfl (by decide) rfl rfl fl_SixWalls_Masonry_21 (zPa hP 30 rfl) ?_
      refine z_getr (rw1 := -11) (ki := 3) (r' := 5) 1 1 (zdec DX5_alikeIn 13 rfl) rfl rfl shp1 rfl (by decide) rfl rfl fl_SixWalls_Masonry_84 (zPa hP 12 rfl) ?_
      refine z_iload_n 1 (zdec DX5_alikeIn 14 rfl) rfl rfl ?_
      refine z_bipush 6 (zdec DX5_alikeIn 15 rfl) (by decide) ?_
      refine z_imul (zdec DX5_alikeIn 16 rfl) (by unfold z32; omega) ?_
      refine z_iload 6 (zdec DX5_alikeIn 17 rfl) rfl ?_
      refine z_iadd (zdec DX5_alikeIn 18 rfl) (by unfold z32; omega) ?_
      refine z_iald 5 (zdec DX5_alikeIn 19 rfl) rfl shp5 ⟨by omega, by omega⟩ ?_
      have ew := hG.wat (w := h * 6 + s) (by omega) (by omega)
      rw [ew]
      refine z_istore (L' := [(0, .inr (.inr 27)), (1, .inl h), (2, .inl w), (3, .inl c), (4, .inr (.inr 30)), (5, .inl a), (6, .inl s), (7, .inl (zwat (h * 6 + s)))]) (zdec DX5_alikeIn 20 rfl) rfl (by decide) ?_
      refine z_iload 7 (zdec DX5_alikeIn 21 rfl) rfl ?_
      refine z_iload_n 2 (zdec DX5_alikeIn 22 rfl) rfl rfl ?_
      refine z_icmp_eq 55 (zdec DX5_alikeIn 23 rfl) rfl (fun h40 => ?_) (fun h40 => ?_)
      ·
        refine z_iinc (L' := [(0, .inr (.inr 27)), (1, .inl h), (2, .inl w), (3, .inl c), (4, .inr (.inr 30)), (5, .inl a), (6, .inl (s + 1)), (7, .inl (zwat (h * 6 + s)))]) 6 (zdec DX5_alikeIn 30 rfl) rfl (by unfold z32; omega) rfl (by decide) ?_
        refine z_goto 6 (zdec DX5_alikeIn 31 rfl) rfl ?_
        refine z_weak (L' := [(0, .inr (.inr 27)), (1, .inl h), (2, .inl w), (3, .inl c), (4, .inr (.inr 30)), (5, .inl a), (6, .inl (s + 1))]) (by simp) ?_
        exact ih a (s + 1) (by omega) ⟨by omega, by omega, by omega, by omega, by rw [zfo_s _ _ (by omega), ← hI.2.2.2.2, if_neg (fun q => q.1 h40)]⟩
      ·
        refine z_aload 4 (zdec DX5_alikeIn 24 rfl) rfl (by decide) ?_
        refine z_iload 7 (zdec DX5_alikeIn 25 rfl) rfl ?_
        refine z_iald 30 (zdec DX5_alikeIn 26 rfl) rfl shp30 ⟨by omega, by omega⟩ ?_
        refine z_iload_n 3 (zdec DX5_alikeIn 27 rfl) rfl rfl ?_
        refine z_icmp_ne 55 (zdec DX5_alikeIn 28 rfl) rfl (fun h49 => ?_) (fun h49 => ?_)
        ·
          refine z_iinc (L' := [(0, .inr (.inr 27)), (1, .inl h), (2, .inl w), (3, .inl c), (4, .inr (.inr 30)), (5, .inl a), (6, .inl (s + 1)), (7, .inl (zwat (h * 6 + s)))]) 6 (zdec DX5_alikeIn 30 rfl) rfl (by unfold z32; omega) rfl (by decide) ?_
          refine z_goto 6 (zdec DX5_alikeIn 31 rfl) rfl ?_
          refine z_weak (L' := [(0, .inr (.inr 27)), (1, .inl h), (2, .inl w), (3, .inl c), (4, .inr (.inr 30)), (5, .inl a), (6, .inl (s + 1))]) (by simp) ?_
          exact ih a (s + 1) (by omega) ⟨by omega, by omega, by omega, by omega, by rw [zfo_s _ _ (by omega), ← hI.2.2.2.2, if_neg (fun q => h49 q.2)]⟩
        ·
          refine z_iinc (L' := [(0, .inr (.inr 27)), (1, .inl h), (2, .inl w), (3, .inl c), (4, .inr (.inr 30)), (5, .inl (a + 1)), (6, .inl s), (7, .inl (zwat (h * 6 + s)))]) 5 (zdec DX5_alikeIn 29 rfl) rfl (by unfold z32; omega) rfl (by decide) ?_
          refine z_iinc (L' := [(0, .inr (.inr 27)), (1, .inl h), (2, .inl w), (3, .inl c), (4, .inr (.inr 30)), (5, .inl (a + 1)), (6, .inl (s + 1)), (7, .inl (zwat (h * 6 + s)))]) 6 (zdec DX5_alikeIn 30 rfl) rfl (by unfold z32; omega) rfl (by decide) ?_
          refine z_goto 6 (zdec DX5_alikeIn 31 rfl) rfl ?_
          refine z_weak (L' := [(0, .inr (.inr 27)), (1, .inl h), (2, .inl w), (3, .inl c), (4, .inr (.inr 30)), (5, .inl (a + 1)), (6, .inl (s + 1))]) (by simp) ?_
          exact ih (a + 1) (s + 1) (by omega) ⟨by omega, by omega, by omega, by omega, by rw [zfo_s _ _ (by omega), ← hI.2.2.2.2, if_pos ⟨h40, by omega⟩]⟩
set_option maxHeartbeats 4000000 in
theorem cX5_alikeIn_30 {M : zMm} (hP : zP M) (hG : zG M) (h w c : Int) (hh : 0 ≤ h ∧ h < 16) : zW mX5_alikeIn 1 (fun rv S' M' => S' = zS0 ∧ M = M' ∧ rv = some (.inl (zalIn (M 30) h w c))) (0, 0) zS0 0 (zargs 0 [.inr (.inr 27), .inl h, .inl w, .inl c, .inr (.inr 30)]) [] M := by
  change zW _ _ _ _ _ 0 [(0, .inr (.inr 27)), (1, .inl h), (2, .inl w), (3, .inl c), (4, .inr (.inr 30))] [] M
  refine z_iconst 0 (zdec DX5_alikeIn 0 rfl) (by decide) ?_
  refine z_istore (L' := [(0, .inr (.inr 27)), (1, .inl h), (2, .inl w), (3, .inl c), (4, .inr (.inr 30)), (5, .inl 0)]) (zdec DX5_alikeIn 1 rfl) rfl (by decide) ?_
  refine z_iconst 0 (zdec DX5_alikeIn 2 rfl) (by decide) ?_
  refine z_istore (L' := [(0, .inr (.inr 27)), (1, .inl h), (2, .inl w), (3, .inl c), (4, .inr (.inr 30)), (5, .inl 0), (6, .inl 0)]) (zdec DX5_alikeIn 3 rfl) rfl (by decide) ?_
  refine lp_X5_alikeIn_30_6 hP hG h w c hh (hx61 := fun a hx => ?_) _ 0 0 (Nat.lt_succ_self _) ⟨by omega, (zsid_b h).1, by omega, by omega, rfl⟩
  refine z_iload 0 (zdec DX5_alikeIn 32 rfl) rfl ?_
  exact z_iret (zdec DX5_alikeIn 33 rfl) rfl (⟨rfl, rfl, zri hx⟩)
set_option maxHeartbeats 4000000 in
theorem cX5_alike_30 {M : zMm} (hP : zP M) (hG : zG M) (w c : Int) (hw : 0 ≤ w ∧ w < 33) : zW mX5_alike 2 (fun rv S' M' => S' = zS0 ∧ M = M' ∧ rv = some (.inl (zalike (M 30) w c))) (0, 0) zS0 0 (zargs 0 [.inr (.inr 27), .inl w, .inl c, .inr (.inr 30)]) [] M := by
  change zW _ _ _ _ _ 0 [(0, .inr (.inr 27)), (1, .inl w), (2, .inl c), (3, .inr (.inr 30))] [] M
  refine z_aload_n 0 (zdec DX5_alike 0 rfl) rfl rfl (by decide) ?_
  refine z_aload_n 0 (zdec DX5_alike 1 rfl) rfl rfl (by decide) ?_
  refine z_getr (rw1 := -37) (ki := 0) (r' := 1) 27 5 (zdec DX5_alike 2 rfl) rfl rfl shp27 rfl (by decide) rfl rfl fl_SixWalls_Masonry_21 (zPa hP 30 rfl) ?_
  refine z_getr (rw1 := -11) (ki := 0) (r' := 2) 1 1 (zdec DX5_alike 3 rfl) rfl rfl shp1 rfl (by decide) rfl rfl fl_SixWalls_Masonry_25 (zPa hP 9 rfl) ?_
  refine z_iload_n 1 (zdec DX5_alike 4 rfl) rfl rfl ?_
  refine z_iald 2 (zdec DX5_alike 5 rfl) rfl shp2 ⟨by omega, by omega⟩ ?_
  rw [hG.low hw.1 hw.2]
  refine z_iload_n 1 (zdec DX5_alike 6 rfl) rfl rfl ?_
  refine z_iload_n 2 (zdec DX5_alike 7 rfl) rfl rfl ?_
  refine z_aload_n 3 (zdec DX5_alike 8 rfl) rfl rfl (by decide) ?_
  refine z_inv mX5_alikeIn 27 5 [.inl (zlow w), .inl w, .inl c, .inr (.inr 30)] (zdec DX5_alike 9 rfl) ml_SixWalls_Masonry_77 okX5_alikeIn rfl shp27 rfl rfl rfl rfl (Nat.le_of_ble_eq_true rfl) (Nat.le_of_ble_eq_true rfl) (b' := (0, 0)) ⟨Nat.le_refl 0, Nat.le_refl 0⟩ (Nat.le_of_ble_eq_true rfl) (cX5_alikeIn_30 hP hG (zlow w) w c (zlow_b w)) (fun rv9 S9 M13 h9 => ?_)
  obtain ⟨rfl, rfl, rfl⟩ := h9
  change zW _ _ _ _ _ 16 [(0, .inr (.inr 27)), (1, .inl w), (2, .inl c), (3, .inr (.inr 30))] [.inl (zalIn (M 30) (zlow w) w c)] M
  refine z_aload_n 0 (zdec DX5_alike 10 rfl) rfl rfl (by decide) ?_
  refine z_aload_n 0 (zdec DX5_alike 11 rfl) rfl rfl (by decide) ?_
  refine z_getr (rw1 := -37) (ki := 0) (r' := 1) 27 5 (zdec DX5_alike 12 rfl) rfl rfl shp27 rfl (by decide) rfl rfl fl_SixWalls_Masonry_21 (zPa hP 30 rfl) ?_
  refine z_getr (rw1 := -11) (ki := 1) (r' := 3) 1 1 (zdec DX5_alike 13 rfl) rfl rfl shp1 rfl (by decide) rfl rfl fl_SixWalls_Masonry_30 (zPa hP 10 rfl) ?_
  refine z_iload_n 1 (zdec DX5_alike 14 rfl) rfl rfl ?_
  refine z_iald 3 (zdec DX5_alike 15 rfl) rfl shp3 ⟨by omega, by omega⟩ ?_
  rw [hG.high hw.1 hw.2]
  refine z_iload_n 1 (zdec DX5_alike 16 rfl) rfl rfl ?_
  refine z_iload_n 2 (zdec DX5_alike 17 rfl) rfl rfl ?_
  refine z_aload_n 3 (zdec DX5_alike 18 rfl) rfl rfl (by decide) ?_
  refine z_inv mX5_alikeIn 27 5 [.inl (zhigh w), .inl w, .inl c, .inr (.inr 30)] (zdec DX5_alike 19 rfl) ml_SixWalls_Masonry_77 okX5_alikeIn rfl shp27 rfl rfl rfl rfl (Nat.le_of_ble_eq_true rfl) (Nat.le_of_ble_eq_true rfl) (b' := (0, 0)) ⟨Nat.le_refl 0, Nat.le_refl 0⟩ (Nat.le_of_ble_eq_true rfl) (cX5_alikeIn_30 hP hG (zhigh w) w c (zhigh_b w)) (fun rv9 S9 M29 h9 => ?_)
  obtain ⟨rfl, rfl, rfl⟩ := h9
  change zW _ _ _ _ _ 32 [(0, .inr (.inr 27)), (1, .inl w), (2, .inl c), (3, .inr (.inr 30))] [.inl (zalIn (M 30) (zhigh w) w c), .inl (zalIn (M 30) (zlow w) w c)] M
  refine z_iadd (zdec DX5_alike 20 rfl) (by have := zalIn_b (M 30) (zlow w) w c; have := zalIn_b (M 30) (zhigh w) w c; unfold z32; omega) ?_
  exact z_iret (zdec DX5_alike 21 rfl) rfl (⟨rfl, rfl, rfl⟩)
set_option maxHeartbeats 4000000 in
theorem lp_X5_calmest_30_5 {Q : zPost} {M : zMm} (hP : zP M) (hG : zG M) (w : Int) (hw : 0 ≤ w ∧ w < 33) (hx39 : ∀ (b : Int), (b = zcalm (M 30) w) → zW mX5_calmest 3 Q (0, 0) zS0 39 [(3, .inl b)] [] M) : ∀ (n : Nat) (b : Int) (i : Int), (6 - i).toNat < n → (1 ≤ i ∧ i ≤ 6 ∧ b = zfo (fun best i => if zalike (M 30) w (i + 1) < zalike (M 30) w best then i + 1 else best) 0 (i - 1)) → zW mX5_calmest 3 Q (0, 0) zS0 5 [(0, .inr (.inr 27)), (1, .inl w), (2, .inr (.inr 30)), (3, .inl b), (4, .inl i)] [] M := by
  intro n
  induction n with
  | zero => intro b i hn; exact absurd hn (Nat.not_lt_zero _)
  | succ n ih =>
    intro b i hn hI
    refine z_iload 4 (zdec DX5_calmest 4 rfl) rfl ?_
    refine z_bipush 6 (zdec DX5_calmest 5 rfl) (by decide) ?_
    refine z_icmp_ge 39 (zdec DX5_calmest 6 rfl) rfl (fun h9 => ?_) (fun h9 => ?_)
    ·
      refine z_weak (L' := [(3, .inl b)]) (by simp) ?_
      exact hx39 b (by rw [hI.2.2, show i = 6 by omega]; rfl)
    ·
      refine z_aload_n 0 (zdec DX5_calmest 7 rfl) rfl rfl (by decide) ?_
      refine z_iload_n 1 (zdec DX5_calmest 8 rfl) rfl rfl ?_
      refine z_iload 4 (zdec DX5_calmest 9 rfl) rfl ?_
      refine z_aload_n 2 (zdec DX5_calmest 10 rfl) rfl rfl (by decide) ?_
      refine z_inv mX5_alike 27 5 [.inl w, .inl i, .inr (.inr 30)] (zdec DX5_calmest 11 rfl) ml_SixWalls_Masonry_73 okX5_alike rfl shp27 rfl rfl rfl rfl (Nat.le_of_ble_eq_true rfl) (Nat.le_of_ble_eq_true rfl) (b' := (0, 0)) ⟨Nat.le_refl 0, Nat.le_refl 0⟩ (Nat.le_of_ble_eq_true rfl) (cX5_alike_30 hP hG w i hw) (fun rv9 S9 M17 h9 => ?_)
      obtain ⟨rfl, rfl, rfl⟩ := h9
      change zW _ _ _ _ _ 20 [(0, .inr (.inr 27)), (1, .inl w), (2, .inr (.inr 30)), (3, .inl b), (4, .inl i)] [.inl (zalike (M 30) w i)] M
      refine z_aload_n 0 (zdec DX5_calmest 12 rfl) rfl rfl (by decide) ?_
      refine z_iload_n 1 (zdec DX5_calmest 13 rfl) rfl rfl ?_
      refine z_iload_n 3 (zdec DX5_calmest 14 rfl) rfl rfl ?_
      refine z_aload_n 2 (zdec DX5_calmest 15 rfl) rfl rfl (by decide) ?_
      refine z_inv mX5_alike 27 5 [.inl w, .inl b, .inr (.inr 30)] (zdec DX5_calmest 16 rfl) ml_SixWalls_Masonry_73 okX5_alike rfl shp27 rfl rfl rfl rfl (Nat.le_of_ble_eq_true rfl) (Nat.le_of_ble_eq_true rfl) (b' := (0, 0)) ⟨Nat.le_refl 0, Nat.le_refl 0⟩ (Nat.le_of_ble_eq_true rfl) (cX5_alike_30 hP hG w b hw) (fun rv9 S9 M24 h9 => ?_)
      obtain ⟨rfl, rfl, rfl⟩ := h9
      change zW _ _ _ _ _ 27 [(0, .inr (.inr 27)), (1, .inl w), (2, .inr (.inr 30)), (3, .inl b), (4, .inl i)] [.inl (zalike (M 30) w b), .inl (zalike (M 30) w i)] M
      refine z_icmp_ge 33 (zdec DX5_calmest 17 rfl) rfl (fun h27 => ?_) (fun h27 => ?_)
      ·
        refine z_iinc (L' := [(0, .inr (.inr 27)), (1, .inl w), (2, .inr (.inr 30)), (3, .inl b), (4, .inl (i + 1))]) 4 (zdec DX5_calmest 20 rfl) rfl (by unfold z32; omega) rfl (by decide) ?_
        refine z_goto 5 (zdec DX5_calmest 21 rfl) rfl ?_
        exact ih b (i + 1) (by omega) ⟨by omega, by omega, by rw [show i + 1 - 1 = (i - 1) + 1 by omega, zfo_s _ _ (by omega), ← hI.2.2, show i - 1 + 1 = i by omega, if_neg (by omega)]⟩
      ·
        refine z_iload 4 (zdec DX5_calmest 18 rfl) rfl ?_
        refine z_istore_n (L' := [(0, .inr (.inr 27)), (1, .inl w), (2, .inr (.inr 30)), (3, .inl i), (4, .inl i)]) (zdec DX5_calmest 19 rfl) rfl rfl (by decide) ?_
        refine z_iinc (L' := [(0, .inr (.inr 27)), (1, .inl w), (2, .inr (.inr 30)), (3, .inl i), (4, .inl (i + 1))]) 4 (zdec DX5_calmest 20 rfl) rfl (by unfold z32; omega) rfl (by decide) ?_
        refine z_goto 5 (zdec DX5_calmest 21 rfl) rfl ?_
        exact ih i (i + 1) (by omega) ⟨by omega, by omega, by rw [show i + 1 - 1 = (i - 1) + 1 by omega, zfo_s _ _ (by omega), ← hI.2.2, show i - 1 + 1 = i by omega, if_pos (by omega)]⟩
set_option maxHeartbeats 4000000 in
theorem cX5_calmest_30 {M : zMm} (hP : zP M) (hG : zG M) (w : Int) (hw : 0 ≤ w ∧ w < 33) : zW mX5_calmest 3 (fun rv S' M' => S' = zS0 ∧ M = M' ∧ rv = some (.inl (zcalm (M 30) w))) (0, 0) zS0 0 (zargs 0 [.inr (.inr 27), .inl w, .inr (.inr 30)]) [] M := by
  change zW _ _ _ _ _ 0 [(0, .inr (.inr 27)), (1, .inl w), (2, .inr (.inr 30))] [] M
  refine z_iconst 0 (zdec DX5_calmest 0 rfl) (by decide) ?_
  refine z_istore_n (L' := [(0, .inr (.inr 27)), (1, .inl w), (2, .inr (.inr 30)), (3, .inl 0)]) (zdec DX5_calmest 1 rfl) rfl rfl (by decide) ?_
  refine z_iconst 1 (zdec DX5_calmest 2 rfl) (by decide) ?_
  refine z_istore (L' := [(0, .inr (.inr 27)), (1, .inl w), (2, .inr (.inr 30)), (3, .inl 0), (4, .inl 1)]) (zdec DX5_calmest 3 rfl) rfl (by decide) ?_
  refine lp_X5_calmest_30_5 hP hG w hw (hx39 := fun b hx => ?_) _ 0 1 (Nat.lt_succ_self _) ⟨by omega, by omega, rfl⟩
  refine z_iload_n 0 (zdec DX5_calmest 22 rfl) rfl rfl ?_
  exact z_iret (zdec DX5_calmest 23 rfl) rfl (⟨rfl, rfl, zri hx⟩)
set_option maxHeartbeats 4000000 in
theorem lp_X5_clashesOf_30_4 {Q : zPost} {M : zMm} (hP : zP M) (hG : zG M) (hx28 : ∀ (a : Int), (0 ≤ a ∧ a = zsum (fun w => zalike (M 30) w (M 30 w)) 33) → zW mX5_clashesOf 3 Q (0, 0) zS0 28 [(2, .inl a)] [] M) : ∀ (n : Nat) (a : Int) (w : Int), (33 - w).toNat < n → (0 ≤ w ∧ w ≤ 33 ∧ 0 ≤ a ∧ a ≤ 12 * w ∧ a = zsum (fun w => zalike (M 30) w (M 30 w)) w) → zW mX5_clashesOf 3 Q (0, 0) zS0 4 [(0, .inr (.inr 27)), (1, .inr (.inr 30)), (2, .inl a), (3, .inl w)] [] M := by
  intro n
  induction n with
  | zero => intro a w hn; exact absurd hn (Nat.not_lt_zero _)
  | succ n ih =>
    intro a w hn hI
    refine z_iload_n 3 (zdec DX5_clashesOf 4 rfl) rfl rfl ?_
    refine z_bipush 33 (zdec DX5_clashesOf 5 rfl) (by decide) ?_
    refine z_icmp_ge 28 (zdec DX5_clashesOf 6 rfl) rfl (fun h7 => ?_) (fun h7 => ?_)
    ·
      refine z_weak (L' := [(2, .inl a)]) (by simp) ?_
      exact hx28 a ⟨by omega, by rw [hI.2.2.2.2, show w = 33 by omega]⟩
    ·
      refine z_iload_n 2 (zdec DX5_clashesOf 7 rfl) rfl rfl ?_
      refine z_aload_n 0 (zdec DX5_clashesOf 8 rfl) rfl rfl (by decide) ?_
      refine z_iload_n 3 (zdec DX5_clashesOf 9 rfl) rfl rfl ?_
      refine z_aload_n 1 (zdec DX5_clashesOf 10 rfl) rfl rfl (by decide) ?_
      refine z_iload_n 3 (zdec DX5_clashesOf 11 rfl) rfl rfl ?_
      refine z_iald 30 (zdec DX5_clashesOf 12 rfl) rfl shp30 ⟨by omega, by omega⟩ ?_
      refine z_aload_n 1 (zdec DX5_clashesOf 13 rfl) rfl rfl (by decide) ?_
      refine z_inv mX5_alike 27 5 [.inl w, .inl (M 30 w), .inr (.inr 30)] (zdec DX5_clashesOf 14 rfl) ml_SixWalls_Masonry_73 okX5_alike rfl shp27 rfl rfl rfl rfl (Nat.le_of_ble_eq_true rfl) (Nat.le_of_ble_eq_true rfl) (b' := (0, 0)) ⟨Nat.le_refl 0, Nat.le_refl 0⟩ (Nat.le_of_ble_eq_true rfl) (cX5_alike_30 hP hG w (M 30 w) ⟨by omega, by omega⟩) (fun rv9 S9 M17 h9 => ?_)
      obtain ⟨rfl, rfl, rfl⟩ := h9
      have hab := zalike_b (M 30) w (M 30 w)
      change zW _ _ _ _ _ 20 [(0, .inr (.inr 27)), (1, .inr (.inr 30)), (2, .inl a), (3, .inl w)] [.inl (zalike (M 30) w (M 30 w)), .inl a] M
      refine z_iadd (zdec DX5_clashesOf 15 rfl) (by unfold z32; omega) ?_
      refine z_istore_n (L' := [(0, .inr (.inr 27)), (1, .inr (.inr 30)), (2, .inl (a + (zalike (M 30) w (M 30 w)))), (3, .inl w)]) (zdec DX5_clashesOf 16 rfl) rfl rfl (by decide) ?_
      refine z_iinc (L' := [(0, .inr (.inr 27)), (1, .inr (.inr 30)), (2, .inl (a + (zalike (M 30) w (M 30 w)))), (3, .inl (w + 1))]) 3 (zdec DX5_clashesOf 17 rfl) rfl (by unfold z32; omega) rfl (by decide) ?_
      refine z_goto 4 (zdec DX5_clashesOf 18 rfl) rfl ?_
      exact ih (a + (zalike (M 30) w (M 30 w))) (w + 1) (by omega) ⟨by omega, by omega, by omega, by omega, by rw [zsum_s _ (by omega), ← hI.2.2.2.2]⟩
set_option maxHeartbeats 4000000 in
theorem cX5_clashesOf_30 {M : zMm} (hP : zP M) (hG : zG M) : zW mX5_clashesOf 3 (fun rv S' M' => S' = zS0 ∧ M = M' ∧ rv = some (.inl (zclash (M 30)))) (0, 0) zS0 0 (zargs 0 [.inr (.inr 27), .inr (.inr 30)]) [] M := by
  change zW _ _ _ _ _ 0 [(0, .inr (.inr 27)), (1, .inr (.inr 30))] [] M
  refine z_iconst 0 (zdec DX5_clashesOf 0 rfl) (by decide) ?_
  refine z_istore_n (L' := [(0, .inr (.inr 27)), (1, .inr (.inr 30)), (2, .inl 0)]) (zdec DX5_clashesOf 1 rfl) rfl rfl (by decide) ?_
  refine z_iconst 0 (zdec DX5_clashesOf 2 rfl) (by decide) ?_
  refine z_istore_n (L' := [(0, .inr (.inr 27)), (1, .inr (.inr 30)), (2, .inl 0), (3, .inl 0)]) (zdec DX5_clashesOf 3 rfl) rfl rfl (by decide) ?_
  refine lp_X5_clashesOf_30_4 hP hG (hx28 := fun a hx => ?_) _ 0 0 (Nat.lt_succ_self _) ⟨by omega, by omega, by omega, by omega, rfl⟩
  refine z_iload_n 0 (zdec DX5_clashesOf 19 rfl) rfl rfl ?_
  refine z_iconst 2 (zdec DX5_clashesOf 20 rfl) (by decide) ?_
  refine z_idivp (zdec DX5_clashesOf 21 rfl) (by omega) (by omega) ?_
  exact z_iret (zdec DX5_clashesOf 22 rfl) rfl (⟨rfl, rfl, zri (by rw [hx.2]; rfl)⟩)
set_option maxHeartbeats 4000000 in
theorem cX5_clashes {M : zMm} (hP : zP M) (hG : zG M) : zW mX5_clashes 4 (fun rv S' M' => S' = zS0 ∧ M = M' ∧ rv = some (.inl (zclash (M 13)))) (0, 0) zS0 0 (zargs 0 [.inr (.inr 27)]) [] M := by
  change zW _ _ _ _ _ 0 [(0, .inr (.inr 27))] [] M
  refine z_aload_n 0 (zdec DX5_clashes 0 rfl) rfl rfl (by decide) ?_
  refine z_aload_n 0 (zdec DX5_clashes 1 rfl) rfl rfl (by decide) ?_
  refine z_getr (rw1 := -37) (ki := 0) (r' := 1) 27 5 (zdec DX5_clashes 2 rfl) rfl rfl shp27 rfl (by decide) rfl rfl fl_SixWalls_Masonry_21 (zPa hP 30 rfl) ?_
  refine z_getr (rw1 := -11) (ki := 11) (r' := 13) 1 1 (zdec DX5_clashes 3 rfl) rfl rfl shp1 rfl (by decide) rfl rfl fl_SixWalls_Masonry_66 (zPa hP 20 rfl) ?_
  refine z_inv mX5_clashesOf 27 5 [.inr (.inr 13)] (zdec DX5_clashes 4 rfl) ml_SixWalls_Masonry_69 okX5_clashesOf rfl shp27 rfl rfl rfl rfl (Nat.le_of_ble_eq_true rfl) (Nat.le_of_ble_eq_true rfl) (b' := (0, 0)) ⟨Nat.le_refl 0, Nat.le_refl 0⟩ (Nat.le_of_ble_eq_true rfl) (cX5_clashesOf_13 hP hG) (fun rv9 S9 M8 h9 => ?_)
  obtain ⟨rfl, rfl, rfl⟩ := h9
  change zW _ _ _ _ _ 11 [(0, .inr (.inr 27))] [.inl (zclash (M 13))] M
  exact z_iret (zdec DX5_clashes 5 rfl) rfl (⟨rfl, rfl, rfl⟩)
theorem zG_of {M M' : zMm} (h : zG M) (hr : ∀ c : Int, 2 ≤ c → c ≤ 6 → M' c = M c) : zG M' := by
  unfold zG
  rw [hr 2 (by omega) (by omega), hr 3 (by omega) (by omega), hr 4 (by omega) (by omega), hr 5 (by omega) (by omega), hr 6 (by omega) (by omega)]
  exact h
set_option maxHeartbeats 4000000 in
theorem lp_X5_calmed_20 {Q : zPost} {M : zMm} (hP : zP M) (hG : zG M) (hx47 : ∀ (M2 : zMm), ((∀ k : Int, 0 ≤ k → k < 33 → M2 30 k = zcalmed (M 13) 33 k) ∧ ∀ c : Int, c ≠ 30 → M2 c = M c) → zW mX5_calmed 4 Q (0, 0) zS0 47 [(0, .inr (.inr 27))] [] M2) : ∀ (n : Nat) (w : Int) (M2 : zMm), (33 - w).toNat < n → (0 ≤ w ∧ w ≤ 33 ∧ (∀ k : Int, 0 ≤ k → k < 33 → M2 30 k = zcalmed (M 13) w k) ∧ ∀ c : Int, c ≠ 30 → M2 c = M c) → zW mX5_calmed 4 Q (0, 0) zS0 20 [(0, .inr (.inr 27)), (1, .inl w)] [] M2 := by
  intro n
  induction n with
  | zero => intro w M2 hn; exact absurd hn (Nat.not_lt_zero _)
  | succ n ih =>
    intro w M2 hn hI
    have hG2 : zG M2 := zG_of hG fun c h0 h1 => hI.2.2.2 c (by omega)
    refine z_iload_n 1 (zdec DX5_calmed 11 rfl) rfl rfl ?_
    refine z_bipush 33 (zdec DX5_calmed 12 rfl) (by decide) ?_
    refine z_icmp_ge 47 (zdec DX5_calmed 13 rfl) rfl (fun h23 => ?_) (fun h23 => ?_)
    ·
      refine z_weak (L' := [(0, .inr (.inr 27))]) (by simp) ?_
      exact hx47 M2 ⟨by rw [show (33 : Int) = w by omega]; exact fun k h0 h1 => hI.2.2.1 k h0 (by omega), hI.2.2.2⟩
    ·
      refine z_aload_n 0 (zdec DX5_calmed 14 rfl) rfl rfl (by decide) ?_
      refine z_getr (rw1 := -37) (ki := 3) (r' := 30) 27 5 (zdec DX5_calmed 15 rfl) rfl rfl shp27 rfl (by decide) rfl rfl fl_SixWalls_Masonry_18 (zPa (zP_of hP fun r hr => hI.2.2.2 r (by omega)) 33 rfl) ?_
      refine z_iload_n 1 (zdec DX5_calmed 16 rfl) rfl rfl ?_
      refine z_aload_n 0 (zdec DX5_calmed 17 rfl) rfl rfl (by decide) ?_
      refine z_iload_n 1 (zdec DX5_calmed 18 rfl) rfl rfl ?_
      refine z_aload_n 0 (zdec DX5_calmed 19 rfl) rfl rfl (by decide) ?_
      refine z_getr (rw1 := -37) (ki := 3) (r' := 30) 27 5 (zdec DX5_calmed 20 rfl) rfl rfl shp27 rfl (by decide) rfl rfl fl_SixWalls_Masonry_18 (zPa (zP_of hP fun r hr => hI.2.2.2 r (by omega)) 33 rfl) ?_
      refine z_inv mX5_calmest 27 5 [.inl w, .inr (.inr 30)] (zdec DX5_calmed 21 rfl) ml_SixWalls_Masonry_87 okX5_calmest rfl shp27 rfl rfl rfl rfl (Nat.le_of_ble_eq_true rfl) (Nat.le_of_ble_eq_true rfl) (b' := (0, 0)) ⟨Nat.le_refl 0, Nat.le_refl 0⟩ (Nat.le_of_ble_eq_true rfl) (cX5_calmest_30 (zP_of hP fun r hr => hI.2.2.2 r (by omega)) hG2 w ⟨by omega, by omega⟩) (fun rv9 S9 M37 h9 => ?_)
      obtain ⟨rfl, rfl, rfl⟩ := h9
      change zW _ _ _ _ _ 40 [(0, .inr (.inr 27)), (1, .inl w)] [.inl (zcalm (M2 30) w), .inl w, .inr (.inr 30)] M2
      refine z_iast 30 (zdec DX5_calmed 22 rfl) rfl shp30 ⟨by omega, by omega⟩ ?_
      refine z_iinc (L' := [(0, .inr (.inr 27)), (1, .inl (w + 1))]) 1 (zdec DX5_calmed 23 rfl) rfl (by unfold z32; omega) rfl (by decide) ?_
      refine z_goto 20 (zdec DX5_calmed 24 rfl) rfl ?_
      exact ih (w + 1) (zup M2 30 w (zcalm (M2 30) w)) (by omega) ⟨by omega, by omega, fun k h0 h1 => (by unfold zcalmed; rw [zfo_s _ _ (by omega)]; show (zup M2 30 w (zcalm (M2 30) w)) 30 k = zpu (zcalmed (M 13) w) w (zcalm (zcalmed (M 13) w) w) k; rw [← zcalm_c hI.2.2.1]; by_cases hk : k = w; (subst hk; rw [zup_self, zpu_s]); (rw [zup_ne hk, zpu_n hk]; exact hI.2.2.1 k h0 h1)), fun c hc => (zup_row hc).trans (hI.2.2.2 c hc)⟩
set_option maxHeartbeats 4000000 in
theorem cX5_calmed {M : zMm} (hP : zP M) (hG : zG M) : zW mX5_calmed 4 (fun rv S' M' => S' = zS0 ∧ rv = some (.inl (zclash (zcalmed (M 13) 33))) ∧ ∀ c : Int, c ≠ 30 → M' c = M c) (0, 0) zS0 0 (zargs 0 [.inr (.inr 27)]) [] M := by
  change zW _ _ _ _ _ 0 [(0, .inr (.inr 27))] [] M
  refine z_aload_n 0 (zdec DX5_calmed 0 rfl) rfl rfl (by decide) ?_
  refine z_getr (rw1 := -37) (ki := 0) (r' := 1) 27 5 (zdec DX5_calmed 1 rfl) rfl rfl shp27 rfl (by decide) rfl rfl fl_SixWalls_Masonry_21 (zPa hP 30 rfl) ?_
  refine z_getr (rw1 := -11) (ki := 11) (r' := 13) 1 1 (zdec DX5_calmed 2 rfl) rfl rfl shp1 rfl (by decide) rfl rfl fl_SixWalls_Masonry_66 (zPa hP 20 rfl) ?_
  refine z_iconst 0 (zdec DX5_calmed 3 rfl) (by decide) ?_
  refine z_aload_n 0 (zdec DX5_calmed 4 rfl) rfl rfl (by decide) ?_
  refine z_getr (rw1 := -37) (ki := 3) (r' := 30) 27 5 (zdec DX5_calmed 5 rfl) rfl rfl shp27 rfl (by decide) rfl rfl fl_SixWalls_Masonry_18 (zPa hP 33 rfl) ?_
  refine z_iconst 0 (zdec DX5_calmed 6 rfl) (by decide) ?_
  refine z_bipush 33 (zdec DX5_calmed 7 rfl) (by decide) ?_
  refine z_copyi 13 30 (zdec DX5_calmed 8 rfl) ml_SixWalls_Masonry_40 zcp1 zcp2 zcp3 rfl rfl shp13 shp30 ⟨by omega, by omega, by omega⟩ ⟨by omega, by omega⟩ (by decide) rfl ?_
  refine z_iconst 0 (zdec DX5_calmed 9 rfl) (by decide) ?_
  refine z_istore_n (L' := [(0, .inr (.inr 27)), (1, .inl 0)]) (zdec DX5_calmed 10 rfl) rfl rfl (by decide) ?_
  refine lp_X5_calmed_20 hP hG (hx47 := fun M2 hx => ?_) _ 0 (zcpy M 13 0 30 0 33) (Nat.lt_succ_self _) ⟨by omega, by omega, fun k h0 h1 => (by show zcpy M 13 0 30 0 33 30 k = M 13 k; unfold zcpy; rw [if_pos ⟨rfl, by omega, by omega⟩]; congr 1; omega), fun c hc => zcpy_row hc⟩
  refine z_aload_n 0 (zdec DX5_calmed 25 rfl) rfl rfl (by decide) ?_
  refine z_aload_n 0 (zdec DX5_calmed 26 rfl) rfl rfl (by decide) ?_
  refine z_getr (rw1 := -37) (ki := 3) (r' := 30) 27 5 (zdec DX5_calmed 27 rfl) rfl rfl shp27 rfl (by decide) rfl rfl fl_SixWalls_Masonry_18 (zPa (zP_of hP fun r hr => hx.2 r (by omega)) 33 rfl) ?_
  refine z_inv mX5_clashesOf 27 5 [.inr (.inr 30)] (zdec DX5_calmed 28 rfl) ml_SixWalls_Masonry_69 okX5_clashesOf rfl shp27 rfl rfl rfl rfl (Nat.le_of_ble_eq_true rfl) (Nat.le_of_ble_eq_true rfl) (b' := (0, 0)) ⟨Nat.le_refl 0, Nat.le_refl 0⟩ (Nat.le_of_ble_eq_true rfl) (cX5_clashesOf_30 (zP_of hP fun r hr => hx.2 r (by omega)) (zG_of hG fun c h0 h1 => hx.2 c (by omega))) (fun rv9 S9 M52 h9 => ?_)
  obtain ⟨rfl, rfl, rfl⟩ := h9
  change zW _ _ _ _ _ 55 [(0, .inr (.inr 27))] [.inl (zclash (M2 30))] M2
  exact z_iret (zdec DX5_calmed 29 rfl) rfl (⟨rfl, zri (zclash_c hx.1), hx.2⟩)
def zbitc (i : Int) : Int :=
  let a := zw (i - zand (zushr i 1) 1431655765)
  let b := zw (zand a 858993459 + zand (zushr a 2) 858993459)
  let c := zand (zw (b + zushr b 4)) 252645135
  let d := zw (c + zushr c 8)
  let e := zw (d + zushr d 16)
  zand e 63
set_option maxHeartbeats 4000000 in
theorem cJ6_bitCount {M : zMm} (i : Int) : zW mJ6_bitCount_0f7a4 1 (fun rv S' M' => S' = zS0 ∧ M = M' ∧ rv = some (.inl (zbitc i))) (0, 0) zS0 0 (zargs 0 [.inl i]) [] M := by
  change zW _ _ _ _ _ 0 [(0, .inl i)] [] M
  refine z_iload_n 0 (zdec DJ6_bitCount_0f7a4 0 rfl) rfl rfl ?_
  refine z_iload_n 0 (zdec DJ6_bitCount_0f7a4 1 rfl) rfl rfl ?_
  refine z_iconst 1 (zdec DJ6_bitCount_0f7a4 2 rfl) (by decide) ?_
  refine z_iushr (zdec DJ6_bitCount_0f7a4 3 rfl) ?_
  refine z_ldcw 1431655765 (zdec DJ6_bitCount_0f7a4 4 rfl) kc_JInteger_265 rfl ⟨by decide, by decide⟩ ?_
  refine z_iand (zdec DJ6_bitCount_0f7a4 5 rfl) ?_
  refine z_isubw (zdec DJ6_bitCount_0f7a4 6 rfl) ?_
  refine z_istore_n (L' := [(0, .inl (zw (i - (zand (zushr i 1) 1431655765))))]) (zdec DJ6_bitCount_0f7a4 7 rfl) rfl rfl (by decide) ?_
  refine z_iload_n 0 (zdec DJ6_bitCount_0f7a4 8 rfl) rfl rfl ?_
  refine z_ldcw 858993459 (zdec DJ6_bitCount_0f7a4 9 rfl) kc_JInteger_266 rfl ⟨by decide, by decide⟩ ?_
  refine z_iand (zdec DJ6_bitCount_0f7a4 10 rfl) ?_
  refine z_iload_n 0 (zdec DJ6_bitCount_0f7a4 11 rfl) rfl rfl ?_
  refine z_iconst 2 (zdec DJ6_bitCount_0f7a4 12 rfl) (by decide) ?_
  refine z_iushr (zdec DJ6_bitCount_0f7a4 13 rfl) ?_
  refine z_ldcw 858993459 (zdec DJ6_bitCount_0f7a4 14 rfl) kc_JInteger_266 rfl ⟨by decide, by decide⟩ ?_
  refine z_iand (zdec DJ6_bitCount_0f7a4 15 rfl) ?_
  refine z_iaddw (zdec DJ6_bitCount_0f7a4 16 rfl) ?_
  refine z_istore_n (L' := [(0, .inl (zw ((zand (zw (i - (zand (zushr i 1) 1431655765))) 858993459) + (zand (zushr (zw (i - (zand (zushr i 1) 1431655765))) 2) 858993459))))]) (zdec DJ6_bitCount_0f7a4 17 rfl) rfl rfl (by decide) ?_
  refine z_iload_n 0 (zdec DJ6_bitCount_0f7a4 18 rfl) rfl rfl ?_
  refine z_iload_n 0 (zdec DJ6_bitCount_0f7a4 19 rfl) rfl rfl ?_
  refine z_iconst 4 (zdec DJ6_bitCount_0f7a4 20 rfl) (by decide) ?_
  refine z_iushr (zdec DJ6_bitCount_0f7a4 21 rfl) ?_
  refine z_iaddw (zdec DJ6_bitCount_0f7a4 22 rfl) ?_
  refine z_ldcw 252645135 (zdec DJ6_bitCount_0f7a4 23 rfl) kc_JInteger_267 rfl ⟨by decide, by decide⟩ ?_
  refine z_iand (zdec DJ6_bitCount_0f7a4 24 rfl) ?_
  refine z_istore_n (L' := [(0, .inl (zand (zw ((zw ((zand (zw (i - (zand (zushr i 1) 1431655765))) 858993459) + (zand (zushr (zw (i - (zand (zushr i 1) 1431655765))) 2) 858993459))) + (zushr (zw ((zand (zw (i - (zand (zushr i 1) 1431655765))) 858993459) + (zand (zushr (zw (i - (zand (zushr i 1) 1431655765))) 2) 858993459))) 4))) 252645135))]) (zdec DJ6_bitCount_0f7a4 25 rfl) rfl rfl (by decide) ?_
  refine z_iload_n 0 (zdec DJ6_bitCount_0f7a4 26 rfl) rfl rfl ?_
  refine z_iload_n 0 (zdec DJ6_bitCount_0f7a4 27 rfl) rfl rfl ?_
  refine z_bipush 8 (zdec DJ6_bitCount_0f7a4 28 rfl) (by decide) ?_
  refine z_iushr (zdec DJ6_bitCount_0f7a4 29 rfl) ?_
  refine z_iaddw (zdec DJ6_bitCount_0f7a4 30 rfl) ?_
  refine z_istore_n (L' := [(0, .inl (zw ((zand (zw ((zw ((zand (zw (i - (zand (zushr i 1) 1431655765))) 858993459) + (zand (zushr (zw (i - (zand (zushr i 1) 1431655765))) 2) 858993459))) + (zushr (zw ((zand (zw (i - (zand (zushr i 1) 1431655765))) 858993459) + (zand (zushr (zw (i - (zand (zushr i 1) 1431655765))) 2) 858993459))) 4))) 252645135) + (zushr (zand (zw ((zw ((zand (zw (i - (zand (zushr i 1) 1431655765))) 858993459) + (zand (zushr (zw (i - (zand (zushr i 1) 1431655765))) 2) 858993459))) + (zushr (zw ((zand (zw (i - (zand (zushr i 1) 1431655765))) 858993459) + (zand (zushr (zw (i - (zand (zushr i 1) 1431655765))) 2) 858993459))) 4))) 252645135) 8))))]) (zdec DJ6_bitCount_0f7a4 31 rfl) rfl rfl (by decide) ?_
  refine z_iload_n 0 (zdec DJ6_bitCount_0f7a4 32 rfl) rfl rfl ?_
  refine z_iload_n 0 (zdec DJ6_bitCount_0f7a4 33 rfl) rfl rfl ?_
  refine z_bipush 16 (zdec DJ6_bitCount_0f7a4 34 rfl) (by decide) ?_
  refine z_iushr (zdec DJ6_bitCount_0f7a4 35 rfl) ?_
  refine z_iaddw (zdec DJ6_bitCount_0f7a4 36 rfl) ?_
  refine z_istore_n (L' := [(0, .inl (zw ((zw ((zand (zw ((zw ((zand (zw (i - (zand (zushr i 1) 1431655765))) 858993459) + (zand (zushr (zw (i - (zand (zushr i 1) 1431655765))) 2) 858993459))) + (zushr (zw ((zand (zw (i - (zand (zushr i 1) 1431655765))) 858993459) + (zand (zushr (zw (i - (zand (zushr i 1) 1431655765))) 2) 858993459))) 4))) 252645135) + (zushr (zand (zw ((zw ((zand (zw (i - (zand (zushr i 1) 1431655765))) 858993459) + (zand (zushr (zw (i - (zand (zushr i 1) 1431655765))) 2) 858993459))) + (zushr (zw ((zand (zw (i - (zand (zushr i 1) 1431655765))) 858993459) + (zand (zushr (zw (i - (zand (zushr i 1) 1431655765))) 2) 858993459))) 4))) 252645135) 8))) + (zushr (zw ((zand (zw ((zw ((zand (zw (i - (zand (zushr i 1) 1431655765))) 858993459) + (zand (zushr (zw (i - (zand (zushr i 1) 1431655765))) 2) 858993459))) + (zushr (zw ((zand (zw (i - (zand (zushr i 1) 1431655765))) 858993459) + (zand (zushr (zw (i - (zand (zushr i 1) 1431655765))) 2) 858993459))) 4))) 252645135) + (zushr (zand (zw ((zw ((zand (zw (i - (zand (zushr i 1) 1431655765))) 858993459) + (zand (zushr (zw (i - (zand (zushr i 1) 1431655765))) 2) 858993459))) + (zushr (zw ((zand (zw (i - (zand (zushr i 1) 1431655765))) 858993459) + (zand (zushr (zw (i - (zand (zushr i 1) 1431655765))) 2) 858993459))) 4))) 252645135) 8))) 16))))]) (zdec DJ6_bitCount_0f7a4 37 rfl) rfl rfl (by decide) ?_
  refine z_iload_n 0 (zdec DJ6_bitCount_0f7a4 38 rfl) rfl rfl ?_
  refine z_bipush 63 (zdec DJ6_bitCount_0f7a4 39 rfl) (by decide) ?_
  refine z_iand (zdec DJ6_bitCount_0f7a4 40 rfl) ?_
  exact z_iret (zdec DJ6_bitCount_0f7a4 41 rfl) rfl (⟨rfl, rfl, rfl⟩)
set_option maxHeartbeats 4000000 in
theorem lp_X5_pots_4 {Q : zPost} {M : zMm} (hP : zP M) (hG : zG M) (hx30 : ∀ (a : Int), (a = zpots (M 13) 33) → zW mX5_pots 2 Q (0, 0) zS0 30 [(1, .inl a)] [] M) : ∀ (n : Nat) (a : Int) (w : Int), (33 - w).toNat < n → (0 ≤ w ∧ w ≤ 33 ∧ a = zpots (M 13) w) → zW mX5_pots 2 Q (0, 0) zS0 4 [(0, .inr (.inr 27)), (1, .inl a), (2, .inl w)] [] M := by
  intro n
  induction n with
  | zero => intro a w hn; exact absurd hn (Nat.not_lt_zero _)
  | succ n ih =>
    intro a w hn hI
    refine z_iload_n 2 (zdec DX5_pots 4 rfl) rfl rfl ?_
    refine z_bipush 33 (zdec DX5_pots 5 rfl) (by decide) ?_
    refine z_icmp_ge 30 (zdec DX5_pots 6 rfl) rfl (fun h7 => ?_) (fun h7 => ?_)
    ·
      refine z_weak (L' := [(1, .inl a)]) (by simp) ?_
      exact hx30 a (by rw [hI.2.2, show w = 33 by omega])
    ·
      refine z_iload_n 1 (zdec DX5_pots 7 rfl) rfl rfl ?_
      refine z_iconst 1 (zdec DX5_pots 8 rfl) (by decide) ?_
      refine z_aload_n 0 (zdec DX5_pots 9 rfl) rfl rfl (by decide) ?_
      refine z_getr (rw1 := -37) (ki := 0) (r' := 1) 27 5 (zdec DX5_pots 10 rfl) rfl rfl shp27 rfl (by decide) rfl rfl fl_SixWalls_Masonry_21 (zPa hP 30 rfl) ?_
      refine z_getr (rw1 := -11) (ki := 11) (r' := 13) 1 1 (zdec DX5_pots 11 rfl) rfl rfl shp1 rfl (by decide) rfl rfl fl_SixWalls_Masonry_66 (zPa hP 20 rfl) ?_
      refine z_iload_n 2 (zdec DX5_pots 12 rfl) rfl rfl ?_
      refine z_iald 13 (zdec DX5_pots 13 rfl) rfl shp13 ⟨by omega, by omega⟩ ?_
      refine z_ishl (zdec DX5_pots 14 rfl) ?_
      refine z_ior (zdec DX5_pots 15 rfl) ?_
      refine z_istore_n (L' := [(0, .inr (.inr 27)), (1, .inl (zor a (zshl 1 (M 13 w)))), (2, .inl w)]) (zdec DX5_pots 16 rfl) rfl rfl (by decide) ?_
      refine z_iinc (L' := [(0, .inr (.inr 27)), (1, .inl (zor a (zshl 1 (M 13 w)))), (2, .inl (w + 1))]) 2 (zdec DX5_pots 17 rfl) rfl (by unfold z32; omega) rfl (by decide) ?_
      refine z_goto 4 (zdec DX5_pots 18 rfl) rfl ?_
      exact ih (zor a (zshl 1 (M 13 w))) (w + 1) (by omega) ⟨by omega, by omega, by unfold zpots; rw [zfo_s _ _ (by omega), hI.2.2]; rfl⟩
set_option maxHeartbeats 4000000 in
theorem cX5_pots {M : zMm} (hP : zP M) (hG : zG M) : zW mX5_pots 2 (fun rv S' M' => S' = zS0 ∧ M = M' ∧ rv = some (.inl (zbitc (zpots (M 13) 33)))) (0, 0) zS0 0 (zargs 0 [.inr (.inr 27)]) [] M := by
  change zW _ _ _ _ _ 0 [(0, .inr (.inr 27))] [] M
  refine z_iconst 0 (zdec DX5_pots 0 rfl) (by decide) ?_
  refine z_istore_n (L' := [(0, .inr (.inr 27)), (1, .inl 0)]) (zdec DX5_pots 1 rfl) rfl rfl (by decide) ?_
  refine z_iconst 0 (zdec DX5_pots 2 rfl) (by decide) ?_
  refine z_istore_n (L' := [(0, .inr (.inr 27)), (1, .inl 0), (2, .inl 0)]) (zdec DX5_pots 3 rfl) rfl rfl (by decide) ?_
  refine lp_X5_pots_4 hP hG (hx30 := fun a hx => ?_) _ 0 0 (Nat.lt_succ_self _) ⟨by omega, by omega, rfl⟩
  refine z_iload_n 0 (zdec DX5_pots 19 rfl) rfl rfl ?_
  refine z_invs mJ6_bitCount_0f7a4 [.inl a] (zdec DX5_pots 20 rfl) (Or.inl ml_SixWalls_Masonry_90) okJ6_bitCount_0f7a4 rfl rfl (Nat.le_of_ble_eq_true rfl) (Nat.le_of_ble_eq_true rfl) (b' := (0, 0)) ⟨Nat.le_refl 0, Nat.le_refl 0⟩ (Nat.le_of_ble_eq_true rfl) (cJ6_bitCount a) (fun rv9 S9 M31 h9 => ?_)
  obtain ⟨rfl, rfl, rfl⟩ := h9
  change zW _ _ _ _ _ 34 [(1, .inl a)] [.inl (zbitc a)] M
  exact z_iret (zdec DX5_pots 21 rfl) rfl (⟨rfl, rfl, zri (by rw [hx])⟩)
set_option maxHeartbeats 4000000 in
theorem cJ6_compare {M : zMm} (x y : Int) : zW mJ6_compare_7cf53 1 (fun rv S' M' => S' = zS0 ∧ M = M' ∧ rv = some (.inl (if x < y then -1 else if x = y then 0 else 1))) (0, 0) zS0 0 (zargs 0 [.inl x, .inl y]) [] M := by
  change zW _ _ _ _ _ 0 [(0, .inl x), (1, .inl y)] [] M
  refine z_iload_n 0 (zdec DJ6_compare_7cf53 0 rfl) rfl rfl ?_
  refine z_iload_n 1 (zdec DJ6_compare_7cf53 1 rfl) rfl rfl ?_
  refine z_icmp_ge 9 (zdec DJ6_compare_7cf53 2 rfl) rfl (fun h2 => ?_) (fun h2 => ?_)
  ·
    refine z_iload_n 0 (zdec DJ6_compare_7cf53 5 rfl) rfl rfl ?_
    refine z_iload_n 1 (zdec DJ6_compare_7cf53 6 rfl) rfl rfl ?_
    refine z_icmp_ne 18 (zdec DJ6_compare_7cf53 7 rfl) rfl (fun h11 => ?_) (fun h11 => ?_)
    ·
      refine z_iconst 1 (zdec DJ6_compare_7cf53 10 rfl) (by decide) ?_
      exact z_iret (zdec DJ6_compare_7cf53 11 rfl) rfl (⟨rfl, rfl, zri (by (repeat (first | rw [if_pos (by omega)] | rw [if_neg (by omega)])))⟩)
    ·
      refine z_iconst 0 (zdec DJ6_compare_7cf53 8 rfl) (by decide) ?_
      refine z_goto 19 (zdec DJ6_compare_7cf53 9 rfl) rfl ?_
      exact z_iret (zdec DJ6_compare_7cf53 11 rfl) rfl (⟨rfl, rfl, zri (by (repeat (first | rw [if_pos (by omega)] | rw [if_neg (by omega)])))⟩)
  ·
    refine z_iconst (-1) (zdec DJ6_compare_7cf53 3 rfl) (by decide) ?_
    refine z_goto 19 (zdec DJ6_compare_7cf53 4 rfl) rfl ?_
    exact z_iret (zdec DJ6_compare_7cf53 11 rfl) rfl (⟨rfl, rfl, zri (by (repeat (first | rw [if_pos (by omega)] | rw [if_neg (by omega)])))⟩)
end
section
/-! contracts of Masonry: rounds; rounds, colours, paint of SixWalls -/
theorem zlow_ne : ∀ w : Nat, w < 33 → zlow w ≠ zhigh w := by decide +kernel
theorem zlow_neI {w : Int} (h : 0 ≤ w ∧ w < 33) : zlow w ≠ zhigh w := by
  obtain ⟨n, rfl⟩ := Int.eq_ofNat_of_zero_le h.1
  exact zlow_ne n (by omega)
def zagree (s : zMm) (w t : Int) : Int := if s 7 (zlow w) = 1 ∧ s 7 (zhigh w) = 1 then (s 10 (zlow w) + s 10 (zhigh w)) / 2 else if s 7 (zlow w) = 1 then s 10 (zlow w) else if s 7 (zhigh w) = 1 then s 10 (zhigh w) else t
/-- a wall's step in a round: 1, 0, -1 -/
def zstp (s : zMm) (T : Int → Int) (w : Int) : Int := if T w < zagree s w (T w) then (if zload T (zlow w) < s 1 13 ∧ zload T (zhigh w) < s 1 13 then 1 else 0) else if zagree s w (T w) < T w then -1 else 0
def zrd (s : zMm) (p : (Int → Int) × Int) (w : Int) : (Int → Int) × Int := (zpu p.1 w (p.1 w + zstp s p.1 w), if zstp s p.1 w = 0 then p.2 else 1)
def zround (s : zMm) (T : Int → Int) (w : Int) : (Int → Int) × Int := zfo (zrd s) (T, 0) w
def zTh9 (T : Int → Int) : Prop := ∀ w : Int, 0 ≤ w → w < 33 → 0 ≤ T w ∧ T w ≤ 9
theorem zagree_b {s : zMm} (h : zRg s) {w t : Int} (hw : 0 ≤ w ∧ w < 33) (ht : 0 ≤ t ∧ t ≤ 9) : 0 ≤ zagree s w t ∧ zagree s w t ≤ 9 := by
  have h1 := (h.1 (zlow w) (zlow_b w).1 (zlow_b w).2).2.2.2
  have h2 := (h.1 (zhigh w) (zhigh_b w).1 (zhigh_b w).2).2.2.2
  unfold zagree
  split
  · omega
  · split
    · omega
    · split <;> omega
theorem zstp_b {s : zMm} (h : zRg s) {T : Int → Int} (hT : zTh9 T) {w : Int} (hw : 0 ≤ w ∧ w < 33) : 0 ≤ T w + zstp s T w ∧ T w + zstp s T w ≤ 9 ∧ -1 ≤ zstp s T w ∧ zstp s T w ≤ 1 := by
  have h1 := hT w hw.1 hw.2
  have h2 := zagree_b h hw h1
  unfold zstp
  split
  · split <;> omega
  · split <;> omega
theorem zrd_9 {s : zMm} (h : zRg s) {p : (Int → Int) × Int} (hT : zTh9 p.1) {w : Int} (hw : 0 ≤ w ∧ w < 33) : zTh9 (zrd s p w).1 := by
  intro k h0 h1
  show 0 ≤ zpu p.1 w _ k ∧ zpu p.1 w _ k ≤ 9
  have hb := zstp_b h hT hw
  by_cases hk : k = w
  · subst hk
    rw [zpu_s]
    omega
  · rw [zpu_n hk]
    exact hT k h0 h1
/-- how often a wall stands among the walls of a house -/
def zcntw (h w : Int) : Int := zfo (fun a s => if zwat (h * 6 + s) = w then a + 1 else a) 0 (zsid h)
theorem zcntw_v : ∀ h : Nat, h < 16 → ∀ w : Nat, w < 33 → zcntw h w = if (h : Int) = zlow w ∨ (h : Int) = zhigh w then 1 else 0 := by decide +kernel
theorem zload_up {T : Int → Int} {w v h : Int} (hw : 0 ≤ w ∧ w < 33) (hh : 0 ≤ h ∧ h < 16) : zload (zpu T w v) h = zload T h + (if h = zlow w ∨ h = zhigh w then v - T w else 0) := by
  have key : ∀ n : Nat, zfold (fun (a : Int) (s : Int) => a + zpu T w v (zwat (h * 6 + s))) 0 n = zfold (fun (a : Int) (s : Int) => a + T (zwat (h * 6 + s))) 0 n + (v - T w) * zfold (fun (a : Int) (s : Int) => if zwat (h * 6 + s) = w then a + 1 else a) 0 n := by
    intro n
    induction n with
    | zero => simp [zfold]
    | succ n ih =>
      simp only [zfold]
      rw [ih]
      by_cases hk : zwat (h * 6 + (n : Int)) = w
      · rw [if_pos hk, hk, zpu_s, Int.mul_add]
        omega
      · rw [if_neg hk, zpu_n hk]
        omega
  have k2 := key (zsid h).toNat
  have k3 : zcntw h w = if h = zlow w ∨ h = zhigh w then 1 else 0 := by
    obtain ⟨a, rfl⟩ := Int.eq_ofNat_of_zero_le hh.1
    obtain ⟨c, rfl⟩ := Int.eq_ofNat_of_zero_le hw.1
    exact zcntw_v a (by omega) c (by omega)
  unfold zcntw zfo at k3
  unfold zload zfo
  rw [k2, k3]
  split
  · rw [Int.mul_one]
  · rw [Int.mul_zero]
theorem zload_c {r T : Int → Int} (h : ∀ w : Int, 0 ≤ w → w < 33 → r w = T w) (g : Int) : zload r g = zload T g := zfo_c fun a s _ _ => by rw [h _ (zwat_b _).1 (zwat_b _).2]
theorem zload_b {T : Int → Int} (hT : zTh9 T) (h : Int) : 0 ≤ zload T h ∧ zload T h ≤ 54 := by
  have key : ∀ n : Nat, 0 ≤ zfold (fun (a : Int) (s : Int) => a + T (zwat (h * 6 + s))) 0 n ∧ zfold (fun (a : Int) (s : Int) => a + T (zwat (h * 6 + s))) 0 n ≤ 9 * n := by
    intro n
    induction n with
    | zero => exact ⟨Int.le_refl _, Int.le_refl _⟩
    | succ n ih =>
      simp only [zfold]
      have := hT _ (zwat_b (h * 6 + (n : Int))).1 (zwat_b (h * 6 + (n : Int))).2
      omega
  have h1 := key (zsid h).toNat
  have h2 := zsid_b h
  unfold zload zfo
  omega
/-- the rounds: after n of them the thickness, and whether each of them changed something -/
def zrounds (s : zMm) : Nat → (Int → Int) × Int
  | 0 => (s 11, 1)
  | n + 1 => if (zrounds s n).2 = 0 then zrounds s n else zround s (zrounds s n).1 33
def zThin (s M : zMm) (T : Int → Int) : Prop := (∀ w : Int, 0 ≤ w → w < 33 → M 28 w = T w) ∧ (∀ h : Int, 0 ≤ h → h < 16 → M 29 h = zload T h) ∧ ∀ c : Int, c ≠ 28 → c ≠ 29 → M c = s c
set_option maxHeartbeats 4000000 in
theorem cX5_agreed {M : zMm} (hP : zP M) (hG : zG M) (hR : zRg M) (w t : Int) (hw : 0 ≤ w ∧ w < 33) : zW mX5_agreed 1 (fun rv S' M' => S' = zS0 ∧ M = M' ∧ rv = some (.inl (zagree M w t))) (0, 0) zS0 0 (zargs 0 [.inr (.inr 27), .inl w, .inl t]) [] M := by
  change zW _ _ _ _ _ 0 [(0, .inr (.inr 27)), (1, .inl w), (2, .inl t)] [] M
  have hl := zlow_b w
  have hh := zhigh_b w
  have hwa := (hR.1 (zlow w) hl.1 hl.2).2.2.2
  have hwb := (hR.1 (zhigh w) hh.1 hh.2).2.2.2
  refine z_aload_n 0 (zdec DX5_agreed 0 rfl) rfl rfl (by decide) ?_
  refine z_getr (rw1 := -37) (ki := 0) (r' := 1) 27 5 (zdec DX5_agreed 1 rfl) rfl rfl shp27 rfl (by decide) rfl rfl fl_SixWalls_Masonry_21 (zPa hP 30 rfl) ?_
  refine z_getr (rw1 := -11) (ki := 0) (r' := 2) 1 1 (zdec DX5_agreed 2 rfl) rfl rfl shp1 rfl (by decide) rfl rfl fl_SixWalls_Masonry_25 (zPa hP 9 rfl) ?_
  refine z_iload_n 1 (zdec DX5_agreed 3 rfl) rfl rfl ?_
  refine z_iald 2 (zdec DX5_agreed 4 rfl) rfl shp2 ⟨by omega, by omega⟩ ?_
  rw [hG.low hw.1 hw.2]
  refine z_istore_n (L' := [(0, .inr (.inr 27)), (1, .inl w), (2, .inl t), (3, .inl (zlow w))]) (zdec DX5_agreed 5 rfl) rfl rfl (by decide) ?_
  refine z_aload_n 0 (zdec DX5_agreed 6 rfl) rfl rfl (by decide) ?_
  refine z_getr (rw1 := -37) (ki := 0) (r' := 1) 27 5 (zdec DX5_agreed 7 rfl) rfl rfl shp27 rfl (by decide) rfl rfl fl_SixWalls_Masonry_21 (zPa hP 30 rfl) ?_
  refine z_getr (rw1 := -11) (ki := 1) (r' := 3) 1 1 (zdec DX5_agreed 8 rfl) rfl rfl shp1 rfl (by decide) rfl rfl fl_SixWalls_Masonry_30 (zPa hP 10 rfl) ?_
  refine z_iload_n 1 (zdec DX5_agreed 9 rfl) rfl rfl ?_
  refine z_iald 3 (zdec DX5_agreed 10 rfl) rfl shp3 ⟨by omega, by omega⟩ ?_
  rw [hG.high hw.1 hw.2]
  refine z_istore (L' := [(0, .inr (.inr 27)), (1, .inl w), (2, .inl t), (3, .inl (zlow w)), (4, .inl (zhigh w))]) (zdec DX5_agreed 11 rfl) rfl (by decide) ?_
  refine z_aload_n 0 (zdec DX5_agreed 12 rfl) rfl rfl (by decide) ?_
  refine z_getr (rw1 := -37) (ki := 0) (r' := 1) 27 5 (zdec DX5_agreed 13 rfl) rfl rfl shp27 rfl (by decide) rfl rfl fl_SixWalls_Masonry_21 (zPa hP 30 rfl) ?_
  refine z_getr (rw1 := -11) (ki := 5) (r' := 7) 1 1 (zdec DX5_agreed 14 rfl) rfl rfl shp1 rfl (by decide) rfl rfl fl_SixWalls_Masonry_33 (zPa hP 14 rfl) ?_
  refine z_iload_n 3 (zdec DX5_agreed 15 rfl) rfl rfl ?_
  refine z_iald 7 (zdec DX5_agreed 16 rfl) rfl shp7 ⟨by omega, by omega⟩ ?_
  refine z_iconst 1 (zdec DX5_agreed 17 rfl) (by decide) ?_
  refine z_icmp_ne 71 (zdec DX5_agreed 18 rfl) rfl (fun h31 => ?_) (fun h31 => ?_)
  ·
    refine z_aload_n 0 (zdec DX5_agreed 40 rfl) rfl rfl (by decide) ?_
    refine z_getr (rw1 := -37) (ki := 0) (r' := 1) 27 5 (zdec DX5_agreed 41 rfl) rfl rfl shp27 rfl (by decide) rfl rfl fl_SixWalls_Masonry_21 (zPa hP 30 rfl) ?_
    refine z_getr (rw1 := -11) (ki := 5) (r' := 7) 1 1 (zdec DX5_agreed 42 rfl) rfl rfl shp1 rfl (by decide) rfl rfl fl_SixWalls_Masonry_33 (zPa hP 14 rfl) ?_
    refine z_iload_n 3 (zdec DX5_agreed 43 rfl) rfl rfl ?_
    refine z_iald 7 (zdec DX5_agreed 44 rfl) rfl shp7 ⟨by omega, by omega⟩ ?_
    refine z_iconst 1 (zdec DX5_agreed 45 rfl) (by decide) ?_
    refine z_icmp_ne 94 (zdec DX5_agreed 46 rfl) rfl (fun h81 => ?_) (fun h81 => ?_)
    ·
      refine z_aload_n 0 (zdec DX5_agreed 53 rfl) rfl rfl (by decide) ?_
      refine z_getr (rw1 := -37) (ki := 0) (r' := 1) 27 5 (zdec DX5_agreed 54 rfl) rfl rfl shp27 rfl (by decide) rfl rfl fl_SixWalls_Masonry_21 (zPa hP 30 rfl) ?_
      refine z_getr (rw1 := -11) (ki := 5) (r' := 7) 1 1 (zdec DX5_agreed 55 rfl) rfl rfl shp1 rfl (by decide) rfl rfl fl_SixWalls_Masonry_33 (zPa hP 14 rfl) ?_
      refine z_iload 4 (zdec DX5_agreed 56 rfl) rfl ?_
      refine z_iald 7 (zdec DX5_agreed 57 rfl) rfl shp7 ⟨by omega, by omega⟩ ?_
      refine z_iconst 1 (zdec DX5_agreed 58 rfl) (by decide) ?_
      refine z_icmp_ne 121 (zdec DX5_agreed 59 rfl) rfl (fun h105 => ?_) (fun h105 => ?_)
      ·
        refine z_iload_n 2 (zdec DX5_agreed 66 rfl) rfl rfl ?_
        exact z_iret (zdec DX5_agreed 67 rfl) rfl (⟨rfl, rfl, zri (by first | omega | (unfold zagree; (repeat (first | rw [if_pos (by omega)] | rw [if_neg (by omega)]))))⟩)
      ·
        refine z_aload_n 0 (zdec DX5_agreed 60 rfl) rfl rfl (by decide) ?_
        refine z_getr (rw1 := -37) (ki := 0) (r' := 1) 27 5 (zdec DX5_agreed 61 rfl) rfl rfl shp27 rfl (by decide) rfl rfl fl_SixWalls_Masonry_21 (zPa hP 30 rfl) ?_
        refine z_getr (rw1 := -11) (ki := 8) (r' := 10) 1 1 (zdec DX5_agreed 62 rfl) rfl rfl shp1 rfl (by decide) rfl rfl fl_SixWalls_Masonry_36 (zPa hP 17 rfl) ?_
        refine z_iload 4 (zdec DX5_agreed 63 rfl) rfl ?_
        refine z_iald 10 (zdec DX5_agreed 64 rfl) rfl shp10 ⟨by omega, by omega⟩ ?_
        refine z_goto 122 (zdec DX5_agreed 65 rfl) rfl ?_
        exact z_iret (zdec DX5_agreed 67 rfl) rfl (⟨rfl, rfl, zri (by first | omega | (unfold zagree; (repeat (first | rw [if_pos (by omega)] | rw [if_neg (by omega)]))))⟩)
    ·
      refine z_aload_n 0 (zdec DX5_agreed 47 rfl) rfl rfl (by decide) ?_
      refine z_getr (rw1 := -37) (ki := 0) (r' := 1) 27 5 (zdec DX5_agreed 48 rfl) rfl rfl shp27 rfl (by decide) rfl rfl fl_SixWalls_Masonry_21 (zPa hP 30 rfl) ?_
      refine z_getr (rw1 := -11) (ki := 8) (r' := 10) 1 1 (zdec DX5_agreed 49 rfl) rfl rfl shp1 rfl (by decide) rfl rfl fl_SixWalls_Masonry_36 (zPa hP 17 rfl) ?_
      refine z_iload_n 3 (zdec DX5_agreed 50 rfl) rfl rfl ?_
      refine z_iald 10 (zdec DX5_agreed 51 rfl) rfl shp10 ⟨by omega, by omega⟩ ?_
      exact z_iret (zdec DX5_agreed 52 rfl) rfl (⟨rfl, rfl, zri (by first | omega | (unfold zagree; (repeat (first | rw [if_pos (by omega)] | rw [if_neg (by omega)]))))⟩)
  ·
    refine z_aload_n 0 (zdec DX5_agreed 19 rfl) rfl rfl (by decide) ?_
    refine z_getr (rw1 := -37) (ki := 0) (r' := 1) 27 5 (zdec DX5_agreed 20 rfl) rfl rfl shp27 rfl (by decide) rfl rfl fl_SixWalls_Masonry_21 (zPa hP 30 rfl) ?_
    refine z_getr (rw1 := -11) (ki := 5) (r' := 7) 1 1 (zdec DX5_agreed 21 rfl) rfl rfl shp1 rfl (by decide) rfl rfl fl_SixWalls_Masonry_33 (zPa hP 14 rfl) ?_
    refine z_iload 4 (zdec DX5_agreed 22 rfl) rfl ?_
    refine z_iald 7 (zdec DX5_agreed 23 rfl) rfl shp7 ⟨by omega, by omega⟩ ?_
    refine z_iconst 1 (zdec DX5_agreed 24 rfl) (by decide) ?_
    refine z_icmp_ne 71 (zdec DX5_agreed 25 rfl) rfl (fun h45 => ?_) (fun h45 => ?_)
    ·
      refine z_aload_n 0 (zdec DX5_agreed 40 rfl) rfl rfl (by decide) ?_
      refine z_getr (rw1 := -37) (ki := 0) (r' := 1) 27 5 (zdec DX5_agreed 41 rfl) rfl rfl shp27 rfl (by decide) rfl rfl fl_SixWalls_Masonry_21 (zPa hP 30 rfl) ?_
      refine z_getr (rw1 := -11) (ki := 5) (r' := 7) 1 1 (zdec DX5_agreed 42 rfl) rfl rfl shp1 rfl (by decide) rfl rfl fl_SixWalls_Masonry_33 (zPa hP 14 rfl) ?_
      refine z_iload_n 3 (zdec DX5_agreed 43 rfl) rfl rfl ?_
      refine z_iald 7 (zdec DX5_agreed 44 rfl) rfl shp7 ⟨by omega, by omega⟩ ?_
      refine z_iconst 1 (zdec DX5_agreed 45 rfl) (by decide) ?_
      refine z_icmp_ne 94 (zdec DX5_agreed 46 rfl) rfl (fun h81 => ?_) (fun h81 => ?_)
      ·
        refine z_aload_n 0 (zdec DX5_agreed 53 rfl) rfl rfl (by decide) ?_
        refine z_getr (rw1 := -37) (ki := 0) (r' := 1) 27 5 (zdec DX5_agreed 54 rfl) rfl rfl shp27 rfl (by decide) rfl rfl fl_SixWalls_Masonry_21 (zPa hP 30 rfl) ?_
        refine z_getr (rw1 := -11) (ki := 5) (r' := 7) 1 1 (zdec DX5_agreed 55 rfl) rfl rfl shp1 rfl (by decide) rfl rfl fl_SixWalls_Masonry_33 (zPa hP 14 rfl) ?_
        refine z_iload 4 (zdec DX5_agreed 56 rfl) rfl ?_
        refine z_iald 7 (zdec DX5_agreed 57 rfl) rfl shp7 ⟨by omega, by omega⟩ ?_
        refine z_iconst 1 (zdec DX5_agreed 58 rfl) (by decide) ?_
        refine z_icmp_ne 121 (zdec DX5_agreed 59 rfl) rfl (fun h105 => ?_) (fun h105 => ?_)
        ·
          refine z_iload_n 2 (zdec DX5_agreed 66 rfl) rfl rfl ?_
          exact z_iret (zdec DX5_agreed 67 rfl) rfl (⟨rfl, rfl, zri (by first | omega | (unfold zagree; (repeat (first | rw [if_pos (by omega)] | rw [if_neg (by omega)]))))⟩)
        ·
          refine z_aload_n 0 (zdec DX5_agreed 60 rfl) rfl rfl (by decide) ?_
          refine z_getr (rw1 := -37) (ki := 0) (r' := 1) 27 5 (zdec DX5_agreed 61 rfl) rfl rfl shp27 rfl (by decide) rfl rfl fl_SixWalls_Masonry_21 (zPa hP 30 rfl) ?_
          refine z_getr (rw1 := -11) (ki := 8) (r' := 10) 1 1 (zdec DX5_agreed 62 rfl) rfl rfl shp1 rfl (by decide) rfl rfl fl_SixWalls_Masonry_36 (zPa hP 17 rfl) ?_
          refine z_iload 4 (zdec DX5_agreed 63 rfl) rfl ?_
          refine z_iald 10 (zdec DX5_agreed 64 rfl) rfl shp10 ⟨by omega, by omega⟩ ?_
          refine z_goto 122 (zdec DX5_agreed 65 rfl) rfl ?_
          exact z_iret (zdec DX5_agreed 67 rfl) rfl (⟨rfl, rfl, zri (by first | omega | (unfold zagree; (repeat (first | rw [if_pos (by omega)] | rw [if_neg (by omega)]))))⟩)
      ·
        refine z_aload_n 0 (zdec DX5_agreed 47 rfl) rfl rfl (by decide) ?_
        refine z_getr (rw1 := -37) (ki := 0) (r' := 1) 27 5 (zdec DX5_agreed 48 rfl) rfl rfl shp27 rfl (by decide) rfl rfl fl_SixWalls_Masonry_21 (zPa hP 30 rfl) ?_
        refine z_getr (rw1 := -11) (ki := 8) (r' := 10) 1 1 (zdec DX5_agreed 49 rfl) rfl rfl shp1 rfl (by decide) rfl rfl fl_SixWalls_Masonry_36 (zPa hP 17 rfl) ?_
        refine z_iload_n 3 (zdec DX5_agreed 50 rfl) rfl rfl ?_
        refine z_iald 10 (zdec DX5_agreed 51 rfl) rfl shp10 ⟨by omega, by omega⟩ ?_
        exact z_iret (zdec DX5_agreed 52 rfl) rfl (⟨rfl, rfl, zri (by first | omega | (unfold zagree; (repeat (first | rw [if_pos (by omega)] | rw [if_neg (by omega)]))))⟩)
    ·
      refine z_aload_n 0 (zdec DX5_agreed 26 rfl) rfl rfl (by decide) ?_
      refine z_getr (rw1 := -37) (ki := 0) (r' := 1) 27 5 (zdec DX5_agreed 27 rfl) rfl rfl shp27 rfl (by decide) rfl rfl fl_SixWalls_Masonry_21 (zPa hP 30 rfl) ?_
      refine z_getr (rw1 := -11) (ki := 8) (r' := 10) 1 1 (zdec DX5_agreed 28 rfl) rfl rfl shp1 rfl (by decide) rfl rfl fl_SixWalls_Masonry_36 (zPa hP 17 rfl) ?_
      refine z_iload_n 3 (zdec DX5_agreed 29 rfl) rfl rfl ?_
      refine z_iald 10 (zdec DX5_agreed 30 rfl) rfl shp10 ⟨by omega, by omega⟩ ?_
      refine z_aload_n 0 (zdec DX5_agreed 31 rfl) rfl rfl (by decide) ?_
      refine z_getr (rw1 := -37) (ki := 0) (r' := 1) 27 5 (zdec DX5_agreed 32 rfl) rfl rfl shp27 rfl (by decide) rfl rfl fl_SixWalls_Masonry_21 (zPa hP 30 rfl) ?_
      refine z_getr (rw1 := -11) (ki := 8) (r' := 10) 1 1 (zdec DX5_agreed 33 rfl) rfl rfl shp1 rfl (by decide) rfl rfl fl_SixWalls_Masonry_36 (zPa hP 17 rfl) ?_
      refine z_iload 4 (zdec DX5_agreed 34 rfl) rfl ?_
      refine z_iald 10 (zdec DX5_agreed 35 rfl) rfl shp10 ⟨by omega, by omega⟩ ?_
      refine z_iadd (zdec DX5_agreed 36 rfl) (by unfold z32; omega) ?_
      refine z_iconst 2 (zdec DX5_agreed 37 rfl) (by decide) ?_
      refine z_idivp (zdec DX5_agreed 38 rfl) (by omega) (by omega) ?_
      exact z_iret (zdec DX5_agreed 39 rfl) rfl (⟨rfl, rfl, zri (by first | omega | (unfold zagree; (repeat (first | rw [if_pos (by omega)] | rw [if_neg (by omega)]))))⟩)
theorem zgr {s M2 : zMm} {T : Int → Int} {w ch st ch2 : Int} (hR : zRg s) (hw : 0 ≤ w ∧ w < 33) (h3 : zTh9 (zround s T w).1) (h4 : ch = (zround s T w).2) (h5 : zThin s M2 (zround s T w).1) (hst : st = zstp s (zround s T w).1 w) (hch : ch2 = if st = 0 then ch else 1) : 0 ≤ w + 1 ∧ w + 1 ≤ 33 ∧ zTh9 (zround s T (w + 1)).1 ∧ ch2 = (zround s T (w + 1)).2 ∧ zThin s (zup (zup (zup M2 28 w (M2 28 w + st)) 29 (zlow w) (M2 29 (zlow w) + st)) 29 (zhigh w) (M2 29 (zhigh w) + st)) (zround s T (w + 1)).1 := by
  have e : zround s T (w + 1) = zrd s (zround s T w) w := zfo_s _ _ hw.1
  have hne := zlow_neI hw
  rw [e]
  generalize hp : zround s T w = p at h3 h4 h5 hst ⊢
  refine ⟨by omega, by omega, zrd_9 hR h3 hw, ?_, fun k h0 h1 => ?_, fun h h0 h1 => ?_, fun c h0 h1 => ?_⟩
  · show ch2 = if zstp s p.1 w = 0 then p.2 else 1
    rw [hch, hst, h4]
  · show _ = zpu p.1 w (p.1 w + zstp s p.1 w) k
    rw [zup_row (c' := 28) (by decide), zup_row (c' := 28) (by decide)]
    by_cases hk : k = w
    · subst hk
      rw [zup_self, zpu_s, h5.1 k hw.1 hw.2, hst]
    · rw [zup_ne hk, zpu_n hk]
      exact h5.1 k h0 h1
  · show _ = zload (zpu p.1 w (p.1 w + zstp s p.1 w)) h
    rw [zload_up hw ⟨h0, h1⟩]
    have eh := h5.2.1 h h0 h1
    by_cases k1 : h = zhigh w
    · subst k1
      rw [zup_self, if_pos (Or.inr rfl), eh, hst]
      omega
    · rw [zup_ne k1]
      by_cases k2 : h = zlow w
      · subst k2
        rw [zup_self, if_pos (Or.inl rfl), eh, hst]
        omega
      · rw [zup_ne k2, zup_row (c' := 29) (by decide), if_neg (by omega), eh]
        omega
  · rw [zup_row (c' := c) h1, zup_row (c' := c) h1, zup_row (c' := c) h0]
    exact h5.2.2 c h0 h1
theorem zstp_lo {s : zMm} {T : Int → Int} {w x : Int} (hx : x = if zagree s w (T w) < T w then -1 else if zagree s w (T w) = T w then 0 else 1) (h : x ≤ 0) : x = zstp s T w := by
  unfold zstp
  split at hx
  · rw [if_neg (by omega), if_pos (by omega)]; exact hx
  · split at hx
    · rw [if_neg (by omega), if_neg (by omega)]; exact hx
    · omega
theorem zstp_hi {s : zMm} {T : Int → Int} {w x : Int} (hx : x = if zagree s w (T w) < T w then -1 else if zagree s w (T w) = T w then 0 else 1) (h : ¬ x ≤ 0) : x = 1 ∧ zstp s T w = if zload T (zlow w) < s 1 13 ∧ zload T (zhigh w) < s 1 13 then 1 else 0 := by
  unfold zstp
  split at hx
  · omega
  · split at hx
    · omega
    · exact ⟨hx, by rw [if_pos (by omega)]⟩
theorem zround_ch (s : zMm) (T : Int → Int) (n : Int) : 0 ≤ (zround s T n).2 ∧ (zround s T n).2 ≤ 1 := by
  have key : ∀ n : Nat, 0 ≤ (zfold (zrd s) (T, 0) n).2 ∧ (zfold (zrd s) (T, 0) n).2 ≤ 1 := by
    intro n
    induction n with
    | zero => exact ⟨Int.le_refl _, show (0 : Int) ≤ 1 by decide⟩
    | succ n ih =>
      simp only [zfold, zrd]
      split
      · exact ih
      · exact ⟨by decide, by decide⟩
  exact key n.toNat
def zset (s : zMm) : Nat → Int → (Int → Int) → Int × (Int → Int)
  | 0, _, T => (-2, T)
  | f + 1, n, T => if (zround s T 33).2 = 0 then (n, (zround s T 33).1) else zset s f (n + 1) (zround s T 33).1
theorem zset_stop {s : zMm} {n : Int} {T : Int → Int} (h : 0 ≤ n ∧ n ≤ 99) (hc : (zround s T 33).2 = 0) : zset s (100 - n).toNat n T = (n, (zround s T 33).1) := by
  rw [show (100 - n).toNat = (99 - n).toNat + 1 by omega]
  unfold zset
  rw [if_pos hc]
theorem zset_go {s : zMm} {n : Int} {T : Int → Int} (h : 0 ≤ n ∧ n ≤ 99) (hc : (zround s T 33).2 ≠ 0) : zset s (100 - n).toNat n T = zset s (100 - (n + 1)).toNat (n + 1) (zround s T 33).1 := by
  rw [show (100 - n).toNat = (100 - (n + 1)).toNat + 1 by omega]
  conv => lhs; unfold zset
  rw [if_neg hc]
set_option maxHeartbeats 4000000 in
theorem lp_X5_goRound_4 {Q : zPost} {s M : zMm} (hP : zP M) (hG : zG s) (hR : zRg s) (T : Int → Int) (hT : zTh9 T) (hM : zThin s M T) (hx137 : ∀ (ch : Int) (M2 : zMm), (zTh9 (zround s T 33).1 ∧ ch = (zround s T 33).2 ∧ zThin s M2 (zround s T 33).1) → zW mX5_goRound 3 Q (0, 0) zS0 137 [(1, .inl ch)] [] M2) : ∀ (n : Nat) (ch : Int) (w : Int) (M2 : zMm), (33 - w).toNat < n → (0 ≤ w ∧ w ≤ 33 ∧ zTh9 (zround s T w).1 ∧ ch = (zround s T w).2 ∧ zThin s M2 (zround s T w).1) → zW mX5_goRound 3 Q (0, 0) zS0 4 [(0, .inr (.inr 27)), (1, .inl ch), (2, .inl w)] [] M2 := by
  intro n
  induction n with
  | zero => intro ch w M2 hn; exact absurd hn (Nat.not_lt_zero _)
  | succ n ih =>
    intro ch w M2 hn hI
    obtain ⟨hI1, hI2, hI3, hI4, hI5, hI6, hI7⟩ := hI
    have hP2 : zP M2 := zP_of hP fun r hr => by rw [hI7 r (by omega) (by omega), hM.2.2 r (by omega) (by omega)]
    have hG2 : zG M2 := zG_of hG fun c h0 h1 => hI7 c (by omega) (by omega)
    have hR2 : zRg M2 := by unfold zRg; rw [hI7 7 (by omega) (by omega), hI7 8 (by omega) (by omega), hI7 9 (by omega) (by omega), hI7 10 (by omega) (by omega), hI7 11 (by omega) (by omega), hI7 12 (by omega) (by omega), hI7 13 (by omega) (by omega), hI7 1 (by omega) (by omega)]; exact hR
    have hl := zlow_b w
    have hh := zhigh_b w
    refine z_iload_n 2 (zdec DX5_goRound 4 rfl) rfl rfl ?_
    refine z_bipush 33 (zdec DX5_goRound 5 rfl) (by decide) ?_
    refine z_icmp_ge 137 (zdec DX5_goRound 6 rfl) rfl (fun h7 => ?_) (fun h7 => ?_)
    ·
      refine z_weak (L' := [(1, .inl ch)]) (by simp) ?_
      exact hx137 ch M2 (by have e : w = 33 := (by omega); subst e; exact ⟨hI3, hI4, hI5, hI6, hI7⟩)
    ·
      have hw9 : 0 ≤ w ∧ w < 33 := ⟨by omega, by omega⟩
      have hT1 := hI3 w hw9.1 hw9.2
      have ha9 := zagree_b hR hw9 hT1
      have eT := hI5 w hw9.1 hw9.2
      have la := zload_b hI3 (zlow w)
      have lb := zload_b hI3 (zhigh w)
      have ea := hI6 (zlow w) hl.1 hl.2
      have eb := hI6 (zhigh w) hh.1 hh.2
      have ebr : M2 1 13 = s 1 13 := by rw [hI7 1 (by omega) (by omega)]
      have hbb := hR.2.2.2
      have hne := zlow_neI hw9
      have sb := zstp_b hR hI3 hw9
      have eAg : zagree M2 w ((zround s T w).1 w) = zagree s w ((zround s T w).1 w) := by unfold zagree; rw [hI7 7 (by omega) (by omega), hI7 10 (by omega) (by omega)]
      refine z_aload_n 0 (zdec DX5_goRound 7 rfl) rfl rfl (by decide) ?_
      refine z_iload_n 2 (zdec DX5_goRound 8 rfl) rfl rfl ?_
      refine z_aload_n 0 (zdec DX5_goRound 9 rfl) rfl rfl (by decide) ?_
      refine z_getr (rw1 := -37) (ki := 1) (r' := 28) 27 5 (zdec DX5_goRound 10 rfl) rfl rfl shp27 rfl (by decide) rfl rfl fl_SixWalls_Masonry_9 (zPa hP2 31 rfl) ?_
      refine z_iload_n 2 (zdec DX5_goRound 11 rfl) rfl rfl ?_
      refine z_iald 28 (zdec DX5_goRound 12 rfl) rfl shp28 ⟨by omega, by omega⟩ ?_
      rw [eT]
      refine z_inv mX5_agreed 27 5 [.inl w, .inl ((zround s T w).1 w)] (zdec DX5_goRound 13 rfl) ml_SixWalls_Masonry_53 okX5_agreed rfl shp27 rfl rfl rfl rfl (Nat.le_of_ble_eq_true rfl) (Nat.le_of_ble_eq_true rfl) (b' := (0, 0)) ⟨Nat.le_refl 0, Nat.le_refl 0⟩ (Nat.le_of_ble_eq_true rfl) (cX5_agreed hP2 hG2 hR2 w ((zround s T w).1 w) ⟨by omega, by omega⟩) (fun rv9 S9 M18 h9 => ?_)
      obtain ⟨rfl, rfl, rfl⟩ := h9
      change zW _ _ _ _ _ 21 [(0, .inr (.inr 27)), (1, .inl ch), (2, .inl w)] [.inl (zagree M2 w ((zround s T w).1 w))] M2
      rw [eAg]
      refine z_aload_n 0 (zdec DX5_goRound 14 rfl) rfl rfl (by decide) ?_
      refine z_getr (rw1 := -37) (ki := 1) (r' := 28) 27 5 (zdec DX5_goRound 15 rfl) rfl rfl shp27 rfl (by decide) rfl rfl fl_SixWalls_Masonry_9 (zPa hP2 31 rfl) ?_
      refine z_iload_n 2 (zdec DX5_goRound 16 rfl) rfl rfl ?_
      refine z_iald 28 (zdec DX5_goRound 17 rfl) rfl shp28 ⟨by omega, by omega⟩ ?_
      rw [eT]
      refine z_invs mJ6_compare_7cf53 [.inl (zagree s w ((zround s T w).1 w)), .inl ((zround s T w).1 w)] (zdec DX5_goRound 18 rfl) (Or.inl ml_SixWalls_Masonry_57) okJ6_compare_7cf53 rfl rfl (Nat.le_of_ble_eq_true rfl) (Nat.le_of_ble_eq_true rfl) (b' := (0, 0)) ⟨Nat.le_refl 0, Nat.le_refl 0⟩ (Nat.le_of_ble_eq_true rfl) (cJ6_compare (zagree s w ((zround s T w).1 w)) ((zround s T w).1 w)) (fun rv9 S9 M27 h9 => ?_)
      obtain ⟨rfl, rfl, rfl⟩ := h9
      change zW _ _ _ _ _ 30 [(0, .inr (.inr 27)), (1, .inl ch), (2, .inl w)] [.inl (if (zagree s w ((zround s T w).1 w)) < ((zround s T w).1 w) then -1 else if (zagree s w ((zround s T w).1 w)) = ((zround s T w).1 w) then 0 else 1)] M2
      obtain ⟨stp, hstp⟩ : ∃ x, x = (if (zagree s w ((zround s T w).1 w)) < ((zround s T w).1 w) then -1 else if (zagree s w ((zround s T w).1 w)) = ((zround s T w).1 w) then 0 else 1) := ⟨_, rfl⟩
      rw [← hstp]
      have hs1 : -1 ≤ stp ∧ stp ≤ 1 := by rw [hstp]; split <;> (try split) <;> omega
      refine z_istore_n (L' := [(0, .inr (.inr 27)), (1, .inl ch), (2, .inl w), (3, .inl stp)]) (zdec DX5_goRound 19 rfl) rfl rfl (by decide) ?_
      refine z_aload_n 0 (zdec DX5_goRound 20 rfl) rfl rfl (by decide) ?_
      refine z_getr (rw1 := -37) (ki := 0) (r' := 1) 27 5 (zdec DX5_goRound 21 rfl) rfl rfl shp27 rfl (by decide) rfl rfl fl_SixWalls_Masonry_21 (zPa hP2 30 rfl) ?_
      refine z_getr (rw1 := -11) (ki := 0) (r' := 2) 1 1 (zdec DX5_goRound 22 rfl) rfl rfl shp1 rfl (by decide) rfl rfl fl_SixWalls_Masonry_25 (zPa hP2 9 rfl) ?_
      refine z_iload_n 2 (zdec DX5_goRound 23 rfl) rfl rfl ?_
      refine z_iald 2 (zdec DX5_goRound 24 rfl) rfl shp2 ⟨by omega, by omega⟩ ?_
      rw [hG2.low hw9.1 hw9.2]
      refine z_istore (L' := [(0, .inr (.inr 27)), (1, .inl ch), (2, .inl w), (3, .inl stp), (4, .inl (zlow w))]) (zdec DX5_goRound 25 rfl) rfl (by decide) ?_
      refine z_aload_n 0 (zdec DX5_goRound 26 rfl) rfl rfl (by decide) ?_
      refine z_getr (rw1 := -37) (ki := 0) (r' := 1) 27 5 (zdec DX5_goRound 27 rfl) rfl rfl shp27 rfl (by decide) rfl rfl fl_SixWalls_Masonry_21 (zPa hP2 30 rfl) ?_
      refine z_getr (rw1 := -11) (ki := 1) (r' := 3) 1 1 (zdec DX5_goRound 28 rfl) rfl rfl shp1 rfl (by decide) rfl rfl fl_SixWalls_Masonry_30 (zPa hP2 10 rfl) ?_
      refine z_iload_n 2 (zdec DX5_goRound 29 rfl) rfl rfl ?_
      refine z_iald 3 (zdec DX5_goRound 30 rfl) rfl shp3 ⟨by omega, by omega⟩ ?_
      rw [hG2.high hw9.1 hw9.2]
      refine z_istore (L' := [(0, .inr (.inr 27)), (1, .inl ch), (2, .inl w), (3, .inl stp), (4, .inl (zlow w)), (5, .inl (zhigh w))]) (zdec DX5_goRound 31 rfl) rfl (by decide) ?_
      refine z_iload_n 3 (zdec DX5_goRound 32 rfl) rfl rfl ?_
      refine z_if_le 93 (zdec DX5_goRound 33 rfl) rfl (fun h54 => ?_) (fun h54 => ?_)
      ·
        refine z_aload_n 0 (zdec DX5_goRound 52 rfl) rfl rfl (by decide) ?_
        refine z_getr (rw1 := -37) (ki := 1) (r' := 28) 27 5 (zdec DX5_goRound 53 rfl) rfl rfl shp27 rfl (by decide) rfl rfl fl_SixWalls_Masonry_9 (zPa hP2 31 rfl) ?_
        refine z_iload_n 2 (zdec DX5_goRound 54 rfl) rfl rfl ?_
        refine z_dup2 (zdec DX5_goRound 55 rfl) rfl rfl ?_
        refine z_iald 28 (zdec DX5_goRound 56 rfl) rfl shp28 ⟨by omega, by omega⟩ ?_
        refine z_iload_n 3 (zdec DX5_goRound 57 rfl) rfl rfl ?_
        refine z_iadd (zdec DX5_goRound 58 rfl) (by unfold z32; omega) ?_
        refine z_iast 28 (zdec DX5_goRound 59 rfl) rfl shp28 ⟨by omega, by omega⟩ ?_
        refine z_aload_n 0 (zdec DX5_goRound 60 rfl) rfl rfl (by decide) ?_
        refine z_getr (rw1 := -37) (ki := 2) (r' := 29) 27 5 (zdec DX5_goRound 61 rfl) rfl rfl shp27 rfl (by decide) rfl rfl fl_SixWalls_Masonry_15 (zPa (zP_up hP2 (by decide)) 32 rfl) ?_
        refine z_iload 4 (zdec DX5_goRound 62 rfl) rfl ?_
        refine z_dup2 (zdec DX5_goRound 63 rfl) rfl rfl ?_
        refine z_iald 29 (zdec DX5_goRound 64 rfl) rfl shp29 ⟨by omega, by omega⟩ ?_
        rw [show (zup M2 28 w ((M2 28 w) + stp)) 29 (zlow w) = M2 29 (zlow w) from by simp [zup, zcpy]]
        refine z_iload_n 3 (zdec DX5_goRound 65 rfl) rfl rfl ?_
        refine z_iadd (zdec DX5_goRound 66 rfl) (by unfold z32; omega) ?_
        refine z_iast 29 (zdec DX5_goRound 67 rfl) rfl shp29 ⟨by omega, by omega⟩ ?_
        refine z_aload_n 0 (zdec DX5_goRound 68 rfl) rfl rfl (by decide) ?_
        refine z_getr (rw1 := -37) (ki := 2) (r' := 29) 27 5 (zdec DX5_goRound 69 rfl) rfl rfl shp27 rfl (by decide) rfl rfl fl_SixWalls_Masonry_15 (zPa (zP_up (zP_up hP2 (by decide)) (by decide)) 32 rfl) ?_
        refine z_iload 5 (zdec DX5_goRound 70 rfl) rfl ?_
        refine z_dup2 (zdec DX5_goRound 71 rfl) rfl rfl ?_
        refine z_iald 29 (zdec DX5_goRound 72 rfl) rfl shp29 ⟨by omega, by omega⟩ ?_
        rw [show ((zup (zup M2 28 w ((M2 28 w) + stp)) 29 (zlow w) ((M2 29 (zlow w)) + stp)) 29 (zhigh w)) = M2 29 (zhigh w) from by rw [zup_ne (fun q => hne q.symm)]; exact congrFun (zup_row (by decide)) _]
        refine z_iload_n 3 (zdec DX5_goRound 73 rfl) rfl rfl ?_
        refine z_iadd (zdec DX5_goRound 74 rfl) (by unfold z32; omega) ?_
        refine z_iast 29 (zdec DX5_goRound 75 rfl) rfl shp29 ⟨by omega, by omega⟩ ?_
        refine z_iload_n 3 (zdec DX5_goRound 76 rfl) rfl rfl ?_
        refine z_if_eq 131 (zdec DX5_goRound 77 rfl) rfl (fun h126 => ?_) (fun h126 => ?_)
        ·
          refine z_iinc (L' := [(0, .inr (.inr 27)), (1, .inl ch), (2, .inl (w + 1)), (3, .inl stp), (4, .inl (zlow w)), (5, .inl (zhigh w))]) 2 (zdec DX5_goRound 80 rfl) rfl (by unfold z32; omega) rfl (by decide) ?_
          refine z_goto 4 (zdec DX5_goRound 81 rfl) rfl ?_
          refine z_weak (L' := [(0, .inr (.inr 27)), (1, .inl ch), (2, .inl (w + 1))]) (by simp) ?_
          exact ih ch (w + 1) (zup (zup (zup M2 28 w ((M2 28 w) + stp)) 29 (zlow w) ((M2 29 (zlow w)) + stp)) 29 (zhigh w) ((M2 29 (zhigh w)) + stp)) (by omega) (zgr hR hw9 hI3 hI4 ⟨hI5, hI6, hI7⟩ (by first | exact zstp_lo hstp (by assumption) | (rw [(zstp_hi hstp (by assumption)).2, if_pos (by omega)]; exact (zstp_hi hstp (by assumption)).1) | (rw [(zstp_hi hstp (by assumption)).2, if_neg (by omega)])) (by first | rw [if_pos (by omega)] | rw [if_neg (by omega)]))
        ·
          refine z_iconst 1 (zdec DX5_goRound 78 rfl) (by decide) ?_
          refine z_istore_n (L' := [(0, .inr (.inr 27)), (1, .inl 1), (2, .inl w), (3, .inl stp), (4, .inl (zlow w)), (5, .inl (zhigh w))]) (zdec DX5_goRound 79 rfl) rfl rfl (by decide) ?_
          refine z_iinc (L' := [(0, .inr (.inr 27)), (1, .inl 1), (2, .inl (w + 1)), (3, .inl stp), (4, .inl (zlow w)), (5, .inl (zhigh w))]) 2 (zdec DX5_goRound 80 rfl) rfl (by unfold z32; omega) rfl (by decide) ?_
          refine z_goto 4 (zdec DX5_goRound 81 rfl) rfl ?_
          refine z_weak (L' := [(0, .inr (.inr 27)), (1, .inl 1), (2, .inl (w + 1))]) (by simp) ?_
          exact ih 1 (w + 1) (zup (zup (zup M2 28 w ((M2 28 w) + stp)) 29 (zlow w) ((M2 29 (zlow w)) + stp)) 29 (zhigh w) ((M2 29 (zhigh w)) + stp)) (by omega) (zgr hR hw9 hI3 hI4 ⟨hI5, hI6, hI7⟩ (by first | exact zstp_lo hstp (by assumption) | (rw [(zstp_hi hstp (by assumption)).2, if_pos (by omega)]; exact (zstp_hi hstp (by assumption)).1) | (rw [(zstp_hi hstp (by assumption)).2, if_neg (by omega)])) (by first | rw [if_pos (by omega)] | rw [if_neg (by omega)]))
      ·
        refine z_aload_n 0 (zdec DX5_goRound 34 rfl) rfl rfl (by decide) ?_
        refine z_getr (rw1 := -37) (ki := 2) (r' := 29) 27 5 (zdec DX5_goRound 35 rfl) rfl rfl shp27 rfl (by decide) rfl rfl fl_SixWalls_Masonry_15 (zPa hP2 32 rfl) ?_
        refine z_iload 4 (zdec DX5_goRound 36 rfl) rfl ?_
        refine z_iald 29 (zdec DX5_goRound 37 rfl) rfl shp29 ⟨by omega, by omega⟩ ?_
        refine z_aload_n 0 (zdec DX5_goRound 38 rfl) rfl rfl (by decide) ?_
        refine z_getr (rw1 := -37) (ki := 0) (r' := 1) 27 5 (zdec DX5_goRound 39 rfl) rfl rfl shp27 rfl (by decide) rfl rfl fl_SixWalls_Masonry_21 (zPa hP2 30 rfl) ?_
        refine z_geti (ki := 13) 1 1 (zdec DX5_goRound 40 rfl) rfl shp1 rfl (by decide) rfl rfl fl_SixWalls_Masonry_62 ?_
        refine z_icmp_ge 91 (zdec DX5_goRound 41 rfl) rfl (fun h71 => ?_) (fun h71 => ?_)
        ·
          refine z_iconst 0 (zdec DX5_goRound 50 rfl) (by decide) ?_
          refine z_istore_n (L' := [(0, .inr (.inr 27)), (1, .inl ch), (2, .inl w), (3, .inl 0), (4, .inl (zlow w)), (5, .inl (zhigh w))]) (zdec DX5_goRound 51 rfl) rfl rfl (by decide) ?_
          refine z_aload_n 0 (zdec DX5_goRound 52 rfl) rfl rfl (by decide) ?_
          refine z_getr (rw1 := -37) (ki := 1) (r' := 28) 27 5 (zdec DX5_goRound 53 rfl) rfl rfl shp27 rfl (by decide) rfl rfl fl_SixWalls_Masonry_9 (zPa hP2 31 rfl) ?_
          refine z_iload_n 2 (zdec DX5_goRound 54 rfl) rfl rfl ?_
          refine z_dup2 (zdec DX5_goRound 55 rfl) rfl rfl ?_
          refine z_iald 28 (zdec DX5_goRound 56 rfl) rfl shp28 ⟨by omega, by omega⟩ ?_
          refine z_iload_n 3 (zdec DX5_goRound 57 rfl) rfl rfl ?_
          refine z_iadd (zdec DX5_goRound 58 rfl) (by unfold z32; omega) ?_
          refine z_iast 28 (zdec DX5_goRound 59 rfl) rfl shp28 ⟨by omega, by omega⟩ ?_
          refine z_aload_n 0 (zdec DX5_goRound 60 rfl) rfl rfl (by decide) ?_
          refine z_getr (rw1 := -37) (ki := 2) (r' := 29) 27 5 (zdec DX5_goRound 61 rfl) rfl rfl shp27 rfl (by decide) rfl rfl fl_SixWalls_Masonry_15 (zPa (zP_up hP2 (by decide)) 32 rfl) ?_
          refine z_iload 4 (zdec DX5_goRound 62 rfl) rfl ?_
          refine z_dup2 (zdec DX5_goRound 63 rfl) rfl rfl ?_
          refine z_iald 29 (zdec DX5_goRound 64 rfl) rfl shp29 ⟨by omega, by omega⟩ ?_
          rw [show (zup M2 28 w ((M2 28 w) + 0)) 29 (zlow w) = M2 29 (zlow w) from by simp [zup, zcpy]]
          refine z_iload_n 3 (zdec DX5_goRound 65 rfl) rfl rfl ?_
          refine z_iadd (zdec DX5_goRound 66 rfl) (by unfold z32; omega) ?_
          refine z_iast 29 (zdec DX5_goRound 67 rfl) rfl shp29 ⟨by omega, by omega⟩ ?_
          refine z_aload_n 0 (zdec DX5_goRound 68 rfl) rfl rfl (by decide) ?_
          refine z_getr (rw1 := -37) (ki := 2) (r' := 29) 27 5 (zdec DX5_goRound 69 rfl) rfl rfl shp27 rfl (by decide) rfl rfl fl_SixWalls_Masonry_15 (zPa (zP_up (zP_up hP2 (by decide)) (by decide)) 32 rfl) ?_
          refine z_iload 5 (zdec DX5_goRound 70 rfl) rfl ?_
          refine z_dup2 (zdec DX5_goRound 71 rfl) rfl rfl ?_
          refine z_iald 29 (zdec DX5_goRound 72 rfl) rfl shp29 ⟨by omega, by omega⟩ ?_
          rw [show ((zup (zup M2 28 w ((M2 28 w) + 0)) 29 (zlow w) ((M2 29 (zlow w)) + 0)) 29 (zhigh w)) = M2 29 (zhigh w) from by rw [zup_ne (fun q => hne q.symm)]; exact congrFun (zup_row (by decide)) _]
          refine z_iload_n 3 (zdec DX5_goRound 73 rfl) rfl rfl ?_
          refine z_iadd (zdec DX5_goRound 74 rfl) (by unfold z32; omega) ?_
          refine z_iast 29 (zdec DX5_goRound 75 rfl) rfl shp29 ⟨by omega, by omega⟩ ?_
          refine z_iload_n 3 (zdec DX5_goRound 76 rfl) rfl rfl ?_
          refine z_if_eq 131 (zdec DX5_goRound 77 rfl) rfl (fun _ => ?_) (fun h => absurd h (by decide))
          refine z_iinc (L' := [(0, .inr (.inr 27)), (1, .inl ch), (2, .inl (w + 1)), (3, .inl 0), (4, .inl (zlow w)), (5, .inl (zhigh w))]) 2 (zdec DX5_goRound 80 rfl) rfl (by unfold z32; omega) rfl (by decide) ?_
          refine z_goto 4 (zdec DX5_goRound 81 rfl) rfl ?_
          refine z_weak (L' := [(0, .inr (.inr 27)), (1, .inl ch), (2, .inl (w + 1))]) (by simp) ?_
          exact ih ch (w + 1) (zup (zup (zup M2 28 w ((M2 28 w) + 0)) 29 (zlow w) ((M2 29 (zlow w)) + 0)) 29 (zhigh w) ((M2 29 (zhigh w)) + 0)) (by omega) (zgr hR hw9 hI3 hI4 ⟨hI5, hI6, hI7⟩ (by first | exact zstp_lo hstp (by assumption) | (rw [(zstp_hi hstp (by assumption)).2, if_pos (by omega)]; exact (zstp_hi hstp (by assumption)).1) | (rw [(zstp_hi hstp (by assumption)).2, if_neg (by omega)])) (by first | rw [if_pos (by omega)] | rw [if_neg (by omega)]))
        ·
          refine z_aload_n 0 (zdec DX5_goRound 42 rfl) rfl rfl (by decide) ?_
          refine z_getr (rw1 := -37) (ki := 2) (r' := 29) 27 5 (zdec DX5_goRound 43 rfl) rfl rfl shp27 rfl (by decide) rfl rfl fl_SixWalls_Masonry_15 (zPa hP2 32 rfl) ?_
          refine z_iload 5 (zdec DX5_goRound 44 rfl) rfl ?_
          refine z_iald 29 (zdec DX5_goRound 45 rfl) rfl shp29 ⟨by omega, by omega⟩ ?_
          refine z_aload_n 0 (zdec DX5_goRound 46 rfl) rfl rfl (by decide) ?_
          refine z_getr (rw1 := -37) (ki := 0) (r' := 1) 27 5 (zdec DX5_goRound 47 rfl) rfl rfl shp27 rfl (by decide) rfl rfl fl_SixWalls_Masonry_21 (zPa hP2 30 rfl) ?_
          refine z_geti (ki := 13) 1 1 (zdec DX5_goRound 48 rfl) rfl shp1 rfl (by decide) rfl rfl fl_SixWalls_Masonry_62 ?_
          refine z_icmp_lt 93 (zdec DX5_goRound 49 rfl) rfl (fun h88 => ?_) (fun h88 => ?_)
          ·
            refine z_aload_n 0 (zdec DX5_goRound 52 rfl) rfl rfl (by decide) ?_
            refine z_getr (rw1 := -37) (ki := 1) (r' := 28) 27 5 (zdec DX5_goRound 53 rfl) rfl rfl shp27 rfl (by decide) rfl rfl fl_SixWalls_Masonry_9 (zPa hP2 31 rfl) ?_
            refine z_iload_n 2 (zdec DX5_goRound 54 rfl) rfl rfl ?_
            refine z_dup2 (zdec DX5_goRound 55 rfl) rfl rfl ?_
            refine z_iald 28 (zdec DX5_goRound 56 rfl) rfl shp28 ⟨by omega, by omega⟩ ?_
            refine z_iload_n 3 (zdec DX5_goRound 57 rfl) rfl rfl ?_
            refine z_iadd (zdec DX5_goRound 58 rfl) (by unfold z32; omega) ?_
            refine z_iast 28 (zdec DX5_goRound 59 rfl) rfl shp28 ⟨by omega, by omega⟩ ?_
            refine z_aload_n 0 (zdec DX5_goRound 60 rfl) rfl rfl (by decide) ?_
            refine z_getr (rw1 := -37) (ki := 2) (r' := 29) 27 5 (zdec DX5_goRound 61 rfl) rfl rfl shp27 rfl (by decide) rfl rfl fl_SixWalls_Masonry_15 (zPa (zP_up hP2 (by decide)) 32 rfl) ?_
            refine z_iload 4 (zdec DX5_goRound 62 rfl) rfl ?_
            refine z_dup2 (zdec DX5_goRound 63 rfl) rfl rfl ?_
            refine z_iald 29 (zdec DX5_goRound 64 rfl) rfl shp29 ⟨by omega, by omega⟩ ?_
            rw [show (zup M2 28 w ((M2 28 w) + stp)) 29 (zlow w) = M2 29 (zlow w) from by simp [zup, zcpy]]
            refine z_iload_n 3 (zdec DX5_goRound 65 rfl) rfl rfl ?_
            refine z_iadd (zdec DX5_goRound 66 rfl) (by unfold z32; omega) ?_
            refine z_iast 29 (zdec DX5_goRound 67 rfl) rfl shp29 ⟨by omega, by omega⟩ ?_
            refine z_aload_n 0 (zdec DX5_goRound 68 rfl) rfl rfl (by decide) ?_
            refine z_getr (rw1 := -37) (ki := 2) (r' := 29) 27 5 (zdec DX5_goRound 69 rfl) rfl rfl shp27 rfl (by decide) rfl rfl fl_SixWalls_Masonry_15 (zPa (zP_up (zP_up hP2 (by decide)) (by decide)) 32 rfl) ?_
            refine z_iload 5 (zdec DX5_goRound 70 rfl) rfl ?_
            refine z_dup2 (zdec DX5_goRound 71 rfl) rfl rfl ?_
            refine z_iald 29 (zdec DX5_goRound 72 rfl) rfl shp29 ⟨by omega, by omega⟩ ?_
            rw [show ((zup (zup M2 28 w ((M2 28 w) + stp)) 29 (zlow w) ((M2 29 (zlow w)) + stp)) 29 (zhigh w)) = M2 29 (zhigh w) from by rw [zup_ne (fun q => hne q.symm)]; exact congrFun (zup_row (by decide)) _]
            refine z_iload_n 3 (zdec DX5_goRound 73 rfl) rfl rfl ?_
            refine z_iadd (zdec DX5_goRound 74 rfl) (by unfold z32; omega) ?_
            refine z_iast 29 (zdec DX5_goRound 75 rfl) rfl shp29 ⟨by omega, by omega⟩ ?_
            refine z_iload_n 3 (zdec DX5_goRound 76 rfl) rfl rfl ?_
            refine z_if_eq 131 (zdec DX5_goRound 77 rfl) rfl (fun h126 => ?_) (fun h126 => ?_)
            ·
              refine z_iinc (L' := [(0, .inr (.inr 27)), (1, .inl ch), (2, .inl (w + 1)), (3, .inl stp), (4, .inl (zlow w)), (5, .inl (zhigh w))]) 2 (zdec DX5_goRound 80 rfl) rfl (by unfold z32; omega) rfl (by decide) ?_
              refine z_goto 4 (zdec DX5_goRound 81 rfl) rfl ?_
              refine z_weak (L' := [(0, .inr (.inr 27)), (1, .inl ch), (2, .inl (w + 1))]) (by simp) ?_
              exact ih ch (w + 1) (zup (zup (zup M2 28 w ((M2 28 w) + stp)) 29 (zlow w) ((M2 29 (zlow w)) + stp)) 29 (zhigh w) ((M2 29 (zhigh w)) + stp)) (by omega) (zgr hR hw9 hI3 hI4 ⟨hI5, hI6, hI7⟩ (by first | exact zstp_lo hstp (by assumption) | (rw [(zstp_hi hstp (by assumption)).2, if_pos (by omega)]; exact (zstp_hi hstp (by assumption)).1) | (rw [(zstp_hi hstp (by assumption)).2, if_neg (by omega)])) (by first | rw [if_pos (by omega)] | rw [if_neg (by omega)]))
            ·
              refine z_iconst 1 (zdec DX5_goRound 78 rfl) (by decide) ?_
              refine z_istore_n (L' := [(0, .inr (.inr 27)), (1, .inl 1), (2, .inl w), (3, .inl stp), (4, .inl (zlow w)), (5, .inl (zhigh w))]) (zdec DX5_goRound 79 rfl) rfl rfl (by decide) ?_
              refine z_iinc (L' := [(0, .inr (.inr 27)), (1, .inl 1), (2, .inl (w + 1)), (3, .inl stp), (4, .inl (zlow w)), (5, .inl (zhigh w))]) 2 (zdec DX5_goRound 80 rfl) rfl (by unfold z32; omega) rfl (by decide) ?_
              refine z_goto 4 (zdec DX5_goRound 81 rfl) rfl ?_
              refine z_weak (L' := [(0, .inr (.inr 27)), (1, .inl 1), (2, .inl (w + 1))]) (by simp) ?_
              exact ih 1 (w + 1) (zup (zup (zup M2 28 w ((M2 28 w) + stp)) 29 (zlow w) ((M2 29 (zlow w)) + stp)) 29 (zhigh w) ((M2 29 (zhigh w)) + stp)) (by omega) (zgr hR hw9 hI3 hI4 ⟨hI5, hI6, hI7⟩ (by first | exact zstp_lo hstp (by assumption) | (rw [(zstp_hi hstp (by assumption)).2, if_pos (by omega)]; exact (zstp_hi hstp (by assumption)).1) | (rw [(zstp_hi hstp (by assumption)).2, if_neg (by omega)])) (by first | rw [if_pos (by omega)] | rw [if_neg (by omega)]))
          ·
            refine z_iconst 0 (zdec DX5_goRound 50 rfl) (by decide) ?_
            refine z_istore_n (L' := [(0, .inr (.inr 27)), (1, .inl ch), (2, .inl w), (3, .inl 0), (4, .inl (zlow w)), (5, .inl (zhigh w))]) (zdec DX5_goRound 51 rfl) rfl rfl (by decide) ?_
            refine z_aload_n 0 (zdec DX5_goRound 52 rfl) rfl rfl (by decide) ?_
            refine z_getr (rw1 := -37) (ki := 1) (r' := 28) 27 5 (zdec DX5_goRound 53 rfl) rfl rfl shp27 rfl (by decide) rfl rfl fl_SixWalls_Masonry_9 (zPa hP2 31 rfl) ?_
            refine z_iload_n 2 (zdec DX5_goRound 54 rfl) rfl rfl ?_
            refine z_dup2 (zdec DX5_goRound 55 rfl) rfl rfl ?_
            refine z_iald 28 (zdec DX5_goRound 56 rfl) rfl shp28 ⟨by omega, by omega⟩ ?_
            refine z_iload_n 3 (zdec DX5_goRound 57 rfl) rfl rfl ?_
            refine z_iadd (zdec DX5_goRound 58 rfl) (by unfold z32; omega) ?_
            refine z_iast 28 (zdec DX5_goRound 59 rfl) rfl shp28 ⟨by omega, by omega⟩ ?_
            refine z_aload_n 0 (zdec DX5_goRound 60 rfl) rfl rfl (by decide) ?_
            refine z_getr (rw1 := -37) (ki := 2) (r' := 29) 27 5 (zdec DX5_goRound 61 rfl) rfl rfl shp27 rfl (by decide) rfl rfl fl_SixWalls_Masonry_15 (zPa (zP_up hP2 (by decide)) 32 rfl) ?_
            refine z_iload 4 (zdec DX5_goRound 62 rfl) rfl ?_
            refine z_dup2 (zdec DX5_goRound 63 rfl) rfl rfl ?_
            refine z_iald 29 (zdec DX5_goRound 64 rfl) rfl shp29 ⟨by omega, by omega⟩ ?_
            rw [show (zup M2 28 w ((M2 28 w) + 0)) 29 (zlow w) = M2 29 (zlow w) from by simp [zup, zcpy]]
            refine z_iload_n 3 (zdec DX5_goRound 65 rfl) rfl rfl ?_
            refine z_iadd (zdec DX5_goRound 66 rfl) (by unfold z32; omega) ?_
            refine z_iast 29 (zdec DX5_goRound 67 rfl) rfl shp29 ⟨by omega, by omega⟩ ?_
            refine z_aload_n 0 (zdec DX5_goRound 68 rfl) rfl rfl (by decide) ?_
            refine z_getr (rw1 := -37) (ki := 2) (r' := 29) 27 5 (zdec DX5_goRound 69 rfl) rfl rfl shp27 rfl (by decide) rfl rfl fl_SixWalls_Masonry_15 (zPa (zP_up (zP_up hP2 (by decide)) (by decide)) 32 rfl) ?_
            refine z_iload 5 (zdec DX5_goRound 70 rfl) rfl ?_
            refine z_dup2 (zdec DX5_goRound 71 rfl) rfl rfl ?_
            refine z_iald 29 (zdec DX5_goRound 72 rfl) rfl shp29 ⟨by omega, by omega⟩ ?_
            rw [show ((zup (zup M2 28 w ((M2 28 w) + 0)) 29 (zlow w) ((M2 29 (zlow w)) + 0)) 29 (zhigh w)) = M2 29 (zhigh w) from by rw [zup_ne (fun q => hne q.symm)]; exact congrFun (zup_row (by decide)) _]
            refine z_iload_n 3 (zdec DX5_goRound 73 rfl) rfl rfl ?_
            refine z_iadd (zdec DX5_goRound 74 rfl) (by unfold z32; omega) ?_
            refine z_iast 29 (zdec DX5_goRound 75 rfl) rfl shp29 ⟨by omega, by omega⟩ ?_
            refine z_iload_n 3 (zdec DX5_goRound 76 rfl) rfl rfl ?_
            refine z_if_eq 131 (zdec DX5_goRound 77 rfl) rfl (fun _ => ?_) (fun h => absurd h (by decide))
            refine z_iinc (L' := [(0, .inr (.inr 27)), (1, .inl ch), (2, .inl (w + 1)), (3, .inl 0), (4, .inl (zlow w)), (5, .inl (zhigh w))]) 2 (zdec DX5_goRound 80 rfl) rfl (by unfold z32; omega) rfl (by decide) ?_
            refine z_goto 4 (zdec DX5_goRound 81 rfl) rfl ?_
            refine z_weak (L' := [(0, .inr (.inr 27)), (1, .inl ch), (2, .inl (w + 1))]) (by simp) ?_
            exact ih ch (w + 1) (zup (zup (zup M2 28 w ((M2 28 w) + 0)) 29 (zlow w) ((M2 29 (zlow w)) + 0)) 29 (zhigh w) ((M2 29 (zhigh w)) + 0)) (by omega) (zgr hR hw9 hI3 hI4 ⟨hI5, hI6, hI7⟩ (by first | exact zstp_lo hstp (by assumption) | (rw [(zstp_hi hstp (by assumption)).2, if_pos (by omega)]; exact (zstp_hi hstp (by assumption)).1) | (rw [(zstp_hi hstp (by assumption)).2, if_neg (by omega)])) (by first | rw [if_pos (by omega)] | rw [if_neg (by omega)]))
set_option maxHeartbeats 4000000 in
theorem cX5_goRound {s M : zMm} (hP : zP M) (hG : zG s) (hR : zRg s) (T : Int → Int) (hT : zTh9 T) (hM : zThin s M T) : zW mX5_goRound 3 (fun rv S' M' => S' = zS0 ∧ rv = some (.inl (zround s T 33).2) ∧ zTh9 (zround s T 33).1 ∧ zThin s M' (zround s T 33).1) (0, 0) zS0 0 (zargs 0 [.inr (.inr 27)]) [] M := by
  change zW _ _ _ _ _ 0 [(0, .inr (.inr 27))] [] M
  refine z_iconst 0 (zdec DX5_goRound 0 rfl) (by decide) ?_
  refine z_istore_n (L' := [(0, .inr (.inr 27)), (1, .inl 0)]) (zdec DX5_goRound 1 rfl) rfl rfl (by decide) ?_
  refine z_iconst 0 (zdec DX5_goRound 2 rfl) (by decide) ?_
  refine z_istore_n (L' := [(0, .inr (.inr 27)), (1, .inl 0), (2, .inl 0)]) (zdec DX5_goRound 3 rfl) rfl rfl (by decide) ?_
  refine lp_X5_goRound_4 hP hG hR T hT hM (hx137 := fun ch M2 hx => ?_) _ 0 0 M (Nat.lt_succ_self _) ⟨by omega, by omega, hT, rfl, hM⟩
  refine z_iload_n 0 (zdec DX5_goRound 82 rfl) rfl rfl ?_
  exact z_zret (zdec DX5_goRound 83 rfl) rfl (by rw [hx.2.1]; exact zround_ch s T 33) (⟨rfl, zri hx.2.1, hx.1, hx.2.2⟩)
set_option maxHeartbeats 4000000 in
theorem lp_X5_settle_52 {M : zMm} (hP : zP M) (hG : zG M) (hR : zRg M) (hx73 : ∀ (M2 : zMm), ((zset M 100 0 (M 11)).1 = -2 ∧ (∀ w : Int, 0 ≤ w → w < 33 → M2 28 w = (zset M 100 0 (M 11)).2 w) ∧ (∀ w : Int, 0 ≤ w → w < 33 → 0 ≤ M2 28 w ∧ M2 28 w ≤ 9) ∧ ∀ c : Int, c ≠ 28 → c ≠ 29 → M2 c = M c) → zW mX5_settle 4 (fun rv S' M' => S' = zS0 ∧ rv = some (.inl (zset M 100 0 (M 11)).1) ∧ (∀ w : Int, 0 ≤ w → w < 33 → M' 28 w = (zset M 100 0 (M 11)).2 w) ∧ (∀ w : Int, 0 ≤ w → w < 33 → 0 ≤ M' 28 w ∧ M' 28 w ≤ 9) ∧ ∀ c : Int, c ≠ 28 → c ≠ 29 → M' c = M c) (0, 0) zS0 73 [] [] M2) : ∀ (n : Nat) (n1 : Int) (M2 : zMm), (100 - n1).toNat < n → (0 ≤ n1 ∧ n1 ≤ 100 ∧ ∃ T, zTh9 T ∧ zThin M M2 T ∧ zset M 100 0 (M 11) = zset M (100 - n1).toNat n1 T) → zW mX5_settle 4 (fun rv S' M' => S' = zS0 ∧ rv = some (.inl (zset M 100 0 (M 11)).1) ∧ (∀ w : Int, 0 ≤ w → w < 33 → M' 28 w = (zset M 100 0 (M 11)).2 w) ∧ (∀ w : Int, 0 ≤ w → w < 33 → 0 ≤ M' 28 w ∧ M' 28 w ≤ 9) ∧ ∀ c : Int, c ≠ 28 → c ≠ 29 → M' c = M c) (0, 0) zS0 52 [(0, .inr (.inr 27)), (1, .inl n1)] [] M2 := by
  intro n
  induction n with
  | zero => intro n1 M2 hn; exact absurd hn (Nat.not_lt_zero _)
  | succ n ih =>
    intro n1 M2 hn hI
    obtain ⟨hI0, hI1, T, hI2, hI3, hI4⟩ := hI
    have hP2 : zP M2 := zP_of hP fun r hr => hI3.2.2 r (by omega) (by omega)
    refine z_iload_n 1 (zdec DX5_settle 28 rfl) rfl rfl ?_
    refine z_bipush 99 (zdec DX5_settle 29 rfl) (by decide) ?_
    refine z_icmp_gt 73 (zdec DX5_settle 30 rfl) rfl (fun h55 => ?_) (fun h55 => ?_)
    ·
      refine z_weak (L' := []) (by simp) ?_
      exact hx73 M2 (by have e : n1 = 100 := (by omega); subst e; rw [hI4]; exact ⟨rfl, hI3.1, fun w h0 h1 => by rw [hI3.1 w h0 h1]; exact hI2 w h0 h1, hI3.2.2⟩)
    ·
      refine z_aload_n 0 (zdec DX5_settle 31 rfl) rfl rfl (by decide) ?_
      refine z_inv mX5_goRound 27 5 [] (zdec DX5_settle 32 rfl) ml_SixWalls_Masonry_49 okX5_goRound rfl shp27 rfl rfl rfl rfl (Nat.le_of_ble_eq_true rfl) (Nat.le_of_ble_eq_true rfl) (b' := (0, 0)) ⟨Nat.le_refl 0, Nat.le_refl 0⟩ (Nat.le_of_ble_eq_true rfl) (cX5_goRound hP2 hG hR T hI2 hI3) (fun rv9 S9 M59 h9 => ?_)
      obtain ⟨rfl, rfl, hr1, hr2⟩ := h9
      change zW _ _ _ _ _ 62 [(0, .inr (.inr 27)), (1, .inl n1)] [.inl ((zround M T 33).2)] M59
      refine z_if_ne 67 (zdec DX5_settle 33 rfl) rfl (fun h62 => ?_) (fun h62 => ?_)
      ·
        refine z_iinc (L' := [(0, .inr (.inr 27)), (1, .inl (n1 + 1))]) 1 (zdec DX5_settle 36 rfl) rfl (by unfold z32; omega) rfl (by decide) ?_
        refine z_goto 52 (zdec DX5_settle 37 rfl) rfl ?_
        exact ih (n1 + 1) M59 (by omega) ⟨by omega, by omega, _, hr1, hr2, by rw [hI4, zset_go ⟨by omega, by omega⟩ h62]⟩
      ·
        refine z_iload_n 1 (zdec DX5_settle 34 rfl) rfl rfl ?_
        exact z_iret (zdec DX5_settle 35 rfl) rfl (by have e0 : (zround M T 33).2 = 0 := (by omega); have e1 := hI4.trans (zset_stop ⟨by omega, by omega⟩ e0); exact ⟨rfl, zri (by rw [e1]), fun w h0 h1 => by rw [e1]; exact hr2.1 w h0 h1, fun w h0 h1 => by rw [hr2.1 w h0 h1]; exact hr1 w h0 h1, hr2.2.2⟩)
set_option maxHeartbeats 4000000 in
theorem lp_X5_settle_20 {Q : zPost} {M : zMm} (hP : zP M) (hG : zG M) (hR : zRg M) (hx50 : ∀ (M2 : zMm), (zThin M M2 (M 11)) → zW mX5_settle 4 Q (0, 0) zS0 50 [(0, .inr (.inr 27))] [] M2) : ∀ (n : Nat) (h : Int) (M2 : zMm), (16 - h).toNat < n → (0 ≤ h ∧ h ≤ 16 ∧ (∀ w : Int, 0 ≤ w → w < 33 → M2 28 w = M 11 w) ∧ (∀ k : Int, 0 ≤ k → k < h → M2 29 k = zload (M 11) k) ∧ ∀ c : Int, c ≠ 28 → c ≠ 29 → M2 c = M c) → zW mX5_settle 4 Q (0, 0) zS0 20 [(0, .inr (.inr 27)), (1, .inl h)] [] M2 := by
  intro n
  induction n with
  | zero => intro h M2 hn; exact absurd hn (Nat.not_lt_zero _)
  | succ n ih =>
    intro h M2 hn hI
    refine z_iload_n 1 (zdec DX5_settle 11 rfl) rfl rfl ?_
    refine z_bipush 16 (zdec DX5_settle 12 rfl) (by decide) ?_
    refine z_icmp_ge 50 (zdec DX5_settle 13 rfl) rfl (fun h23 => ?_) (fun h23 => ?_)
    ·
      refine z_weak (L' := [(0, .inr (.inr 27))]) (by simp) ?_
      exact hx50 M2 ⟨hI.2.2.1, fun k h0 h1 => hI.2.2.2.1 k h0 (by omega), hI.2.2.2.2⟩
    ·
      refine z_aload_n 0 (zdec DX5_settle 14 rfl) rfl rfl (by decide) ?_
      refine z_getr (rw1 := -37) (ki := 2) (r' := 29) 27 5 (zdec DX5_settle 15 rfl) rfl rfl shp27 rfl (by decide) rfl rfl fl_SixWalls_Masonry_15 (zPa (zP_of hP fun r hr => hI.2.2.2.2 r (by omega) (by omega)) 32 rfl) ?_
      refine z_iload_n 1 (zdec DX5_settle 16 rfl) rfl rfl ?_
      refine z_aload_n 0 (zdec DX5_settle 17 rfl) rfl rfl (by decide) ?_
      refine z_getr (rw1 := -37) (ki := 0) (r' := 1) 27 5 (zdec DX5_settle 18 rfl) rfl rfl shp27 rfl (by decide) rfl rfl fl_SixWalls_Masonry_21 (zPa (zP_of hP fun r hr => hI.2.2.2.2 r (by omega) (by omega)) 30 rfl) ?_
      refine z_iload_n 1 (zdec DX5_settle 19 rfl) rfl rfl ?_
      refine z_aload_n 0 (zdec DX5_settle 20 rfl) rfl rfl (by decide) ?_
      refine z_getr (rw1 := -37) (ki := 1) (r' := 28) 27 5 (zdec DX5_settle 21 rfl) rfl rfl shp27 rfl (by decide) rfl rfl fl_SixWalls_Masonry_9 (zPa (zP_of hP fun r hr => hI.2.2.2.2 r (by omega) (by omega)) 31 rfl) ?_
      refine z_inv mX1_load 1 1 [.inl h, .inr (.inr 28)] (zdec DX5_settle 22 rfl) ml_SixWalls_Masonry_46 okX1_load rfl shp1 rfl rfl rfl rfl (Nat.le_of_ble_eq_true rfl) (Nat.le_of_ble_eq_true rfl) (b' := (0, 0)) ⟨Nat.le_refl 0, Nat.le_refl 0⟩ (Nat.le_of_ble_eq_true rfl) (cX1_load_28 (zP_of hP fun r hr => hI.2.2.2.2 r (by omega) (by omega)) (zG_of hG fun c h0 h1 => hI.2.2.2.2 c (by omega) (by omega)) (fun w h0 h1 => by rw [hI.2.2.1 w h0 h1]; exact (hR.2.1 w h0 h1).1) h ⟨by omega, by omega⟩) (fun rv9 S9 M40 h9 => ?_)
      obtain ⟨rfl, rfl, rfl⟩ := h9
      change zW _ _ _ _ _ 43 [(0, .inr (.inr 27)), (1, .inl h)] [.inl (zload (M2 28) h), .inl h, .inr (.inr 29)] M2
      refine z_iast 29 (zdec DX5_settle 23 rfl) rfl shp29 ⟨by omega, by omega⟩ ?_
      refine z_iinc (L' := [(0, .inr (.inr 27)), (1, .inl (h + 1))]) 1 (zdec DX5_settle 24 rfl) rfl (by unfold z32; omega) rfl (by decide) ?_
      refine z_goto 20 (zdec DX5_settle 25 rfl) rfl ?_
      exact ih (h + 1) (zup M2 29 h (zload (M2 28) h)) (by omega) ⟨by omega, by omega, fun k h0 h1 => by rw [zup_row (by decide)]; exact hI.2.2.1 k h0 h1, fun k h0 h1 => (by by_cases hk : k = h; (subst hk; rw [zup_self]; exact zload_c hI.2.2.1 k); (rw [zup_ne hk]; exact hI.2.2.2.1 k h0 (by omega))), fun c h0 h1 => (zup_row h1).trans (hI.2.2.2.2 c h0 h1)⟩
set_option maxHeartbeats 4000000 in
theorem cX5_settle {M : zMm} (hP : zP M) (hG : zG M) (hR : zRg M) : zW mX5_settle 4 (fun rv S' M' => S' = zS0 ∧ rv = some (.inl (zset M 100 0 (M 11)).1) ∧ (∀ w : Int, 0 ≤ w → w < 33 → M' 28 w = (zset M 100 0 (M 11)).2 w) ∧ (∀ w : Int, 0 ≤ w → w < 33 → 0 ≤ M' 28 w ∧ M' 28 w ≤ 9) ∧ ∀ c : Int, c ≠ 28 → c ≠ 29 → M' c = M c) (0, 0) zS0 0 (zargs 0 [.inr (.inr 27)]) [] M := by
  change zW _ _ _ _ _ 0 [(0, .inr (.inr 27))] [] M
  refine z_aload_n 0 (zdec DX5_settle 0 rfl) rfl rfl (by decide) ?_
  refine z_getr (rw1 := -37) (ki := 0) (r' := 1) 27 5 (zdec DX5_settle 1 rfl) rfl rfl shp27 rfl (by decide) rfl rfl fl_SixWalls_Masonry_21 (zPa hP 30 rfl) ?_
  refine z_getr (rw1 := -11) (ki := 9) (r' := 11) 1 1 (zdec DX5_settle 2 rfl) rfl rfl shp1 rfl (by decide) rfl rfl fl_SixWalls_Masonry_39 (zPa hP 18 rfl) ?_
  refine z_iconst 0 (zdec DX5_settle 3 rfl) (by decide) ?_
  refine z_aload_n 0 (zdec DX5_settle 4 rfl) rfl rfl (by decide) ?_
  refine z_getr (rw1 := -37) (ki := 1) (r' := 28) 27 5 (zdec DX5_settle 5 rfl) rfl rfl shp27 rfl (by decide) rfl rfl fl_SixWalls_Masonry_9 (zPa hP 31 rfl) ?_
  refine z_iconst 0 (zdec DX5_settle 6 rfl) (by decide) ?_
  refine z_bipush 33 (zdec DX5_settle 7 rfl) (by decide) ?_
  refine z_copyi 11 28 (zdec DX5_settle 8 rfl) ml_SixWalls_Masonry_40 zcp1 zcp2 zcp3 rfl rfl shp11 shp28 ⟨by omega, by omega, by omega⟩ ⟨by omega, by omega⟩ (by decide) rfl ?_
  refine z_iconst 0 (zdec DX5_settle 9 rfl) (by decide) ?_
  refine z_istore_n (L' := [(0, .inr (.inr 27)), (1, .inl 0)]) (zdec DX5_settle 10 rfl) rfl rfl (by decide) ?_
  refine lp_X5_settle_20 hP hG hR (hx50 := fun M2 hx => ?_) _ 0 (zcpy M 11 0 28 0 33) (Nat.lt_succ_self _) ⟨by omega, by omega, fun k h0 h1 => (by show zcpy M 11 0 28 0 33 28 k = M 11 k; unfold zcpy; rw [if_pos ⟨rfl, by omega, by omega⟩]; congr 1; omega), fun k h0 h1 => by omega, fun c hc _ => zcpy_row hc⟩
  refine z_iconst 0 (zdec DX5_settle 26 rfl) (by decide) ?_
  refine z_istore_n (L' := [(0, .inr (.inr 27)), (1, .inl 0)]) (zdec DX5_settle 27 rfl) rfl rfl (by decide) ?_
  refine lp_X5_settle_52 hP hG hR (hx73 := fun M2 hx => ?_) _ 0 M2 (Nat.lt_succ_self _) ⟨by omega, by omega, M 11, fun w h0 h1 => (hR.2.1 w h0 h1).1, hx, rfl⟩
  refine z_bipush (-2) (zdec DX5_settle 38 rfl) (by decide) ?_
  exact z_iret (zdec DX5_settle 39 rfl) rfl (⟨rfl, zri hx.1.symm, hx.2.1, hx.2.2.1, hx.2.2.2⟩)
set_option maxHeartbeats 4000000 in
theorem cX5_thickThen {M : zMm} (hP : zP M) (w : Int) (hw : 0 ≤ w ∧ w < 33) : zW mX5_thickThen 1 (fun rv S' M' => S' = zS0 ∧ M = M' ∧ rv = some (.inl (M 28 w))) (0, 0) zS0 0 (zargs 0 [.inr (.inr 27), .inl w]) [] M := by
  change zW _ _ _ _ _ 0 [(0, .inr (.inr 27)), (1, .inl w)] [] M
  refine z_aload_n 0 (zdec DX5_thickThen 0 rfl) rfl rfl (by decide) ?_
  refine z_getr (rw1 := -37) (ki := 1) (r' := 28) 27 5 (zdec DX5_thickThen 1 rfl) rfl rfl shp27 rfl (by decide) rfl rfl fl_SixWalls_Masonry_9 (zPa hP 31 rfl) ?_
  refine z_iload_n 1 (zdec DX5_thickThen 2 rfl) rfl rfl ?_
  refine z_iald 28 (zdec DX5_thickThen 3 rfl) rfl shp28 ⟨by omega, by omega⟩ ?_
  exact z_iret (zdec DX5_thickThen 4 rfl) rfl (⟨rfl, rfl, rfl⟩)
set_option maxHeartbeats 4000000 in
theorem cX9_rounds {M : zMm} (hP : zP M) (hG : zG M) (hR : zRg M) (w : Int) : zW mX9_rounds 5 (fun rv S' M' => S' = zS0 ∧ rv = some (.inl (if w = -1 then (zset M 100 0 (M 11)).1 else if 0 ≤ w ∧ w < 33 then (zset M 100 0 (M 11)).2 w else -1)) ∧ ∀ c : Int, c ≠ 28 → c ≠ 29 → M' c = M c) (0, 0) zS0 0 (zargs 0 [.inr (.inr 0), .inl w]) [] M := by
  change zW _ _ _ _ _ 0 [(0, .inr (.inr 0)), (1, .inl w)] [] M
  refine z_iload_n 1 (zdec DX9_rounds 0 rfl) rfl rfl ?_
  refine z_iconst (-1) (zdec DX9_rounds 1 rfl) (by decide) ?_
  refine z_icmp_eq 14 (zdec DX9_rounds 2 rfl) rfl (fun h2 => ?_) (fun h2 => ?_)
  ·
    refine z_aload_n 0 (zdec DX9_rounds 8 rfl) rfl rfl (by decide) ?_
    refine z_getr (rw1 := -10) (ki := 3) (r' := 27) 0 9 (zdec DX9_rounds 9 rfl) rfl rfl shp0 rfl (by decide) rfl rfl fl_SixWalls_37 (zPa hP 3 rfl) ?_
    refine z_inv mX5_settle 27 5 [] (zdec DX9_rounds 10 rfl) ml_SixWalls_227 okX5_settle rfl shp27 rfl rfl rfl rfl (Nat.le_of_ble_eq_true rfl) (Nat.le_of_ble_eq_true rfl) (b' := (0, 0)) ⟨Nat.le_refl 0, Nat.le_refl 0⟩ (Nat.le_of_ble_eq_true rfl) (cX5_settle hP hG hR) (fun rv9 S9 M18 h9 => ?_)
    obtain ⟨rfl, rfl, hs1, hs2, hs3⟩ := h9
    have hPM18 : zP M18 := zP_of hP fun r hr => hs3 r (by omega) (by omega)
    have hw9 : w = -1 ∨ (0 ≤ w ∧ w < 33) := by first | (left; assumption) | (right; exact zb_ne0.mp (by assumption))
    change zW _ _ _ _ _ 21 [(0, .inr (.inr 0)), (1, .inl w)] [.inl ((zset M 100 0 (M 11)).1)] M18
    refine z_istore_n (L' := [(0, .inr (.inr 0)), (1, .inl w), (2, .inl ((zset M 100 0 (M 11)).1))]) (zdec DX9_rounds 11 rfl) rfl rfl (by decide) ?_
    refine z_iload_n 1 (zdec DX9_rounds 12 rfl) rfl rfl ?_
    refine z_if_ge 30 (zdec DX9_rounds 13 rfl) rfl (fun h23 => ?_) (fun h23 => ?_)
    ·
      refine z_aload_n 0 (zdec DX9_rounds 16 rfl) rfl rfl (by decide) ?_
      refine z_getr (rw1 := -10) (ki := 3) (r' := 27) 0 9 (zdec DX9_rounds 17 rfl) rfl rfl shp0 rfl (by decide) rfl rfl fl_SixWalls_37 (zPa hPM18 3 rfl) ?_
      refine z_iload_n 1 (zdec DX9_rounds 18 rfl) rfl rfl ?_
      refine z_inv mX5_thickThen 27 5 [.inl w] (zdec DX9_rounds 19 rfl) ml_SixWalls_230 okX5_thickThen rfl shp27 rfl rfl rfl rfl (Nat.le_of_ble_eq_true rfl) (Nat.le_of_ble_eq_true rfl) (b' := (0, 0)) ⟨Nat.le_refl 0, Nat.le_refl 0⟩ (Nat.le_of_ble_eq_true rfl) (cX5_thickThen hPM18 w (by omega)) (fun rv9 S9 M35 h9 => ?_)
      obtain ⟨rfl, rfl, rfl⟩ := h9
      change zW _ _ _ _ _ 38 [(0, .inr (.inr 0)), (1, .inl w), (2, .inl ((zset M 100 0 (M 11)).1))] [.inl (M18 28 w)] M18
      exact z_iret (zdec DX9_rounds 20 rfl) rfl (⟨rfl, zri (by first | (rw [if_pos (by omega)]; done) | (rw [if_neg (by omega), if_pos (by omega)]; exact hs1 w (by omega) (by omega))), hs3⟩)
    ·
      refine z_iload_n 2 (zdec DX9_rounds 14 rfl) rfl rfl ?_
      refine z_goto 38 (zdec DX9_rounds 15 rfl) rfl ?_
      exact z_iret (zdec DX9_rounds 20 rfl) rfl (⟨rfl, zri (by first | (rw [if_pos (by omega)]; done) | (rw [if_neg (by omega), if_pos (by omega)]; exact hs1 w (by omega) (by omega))), hs3⟩)
  ·
    refine z_iload_n 1 (zdec DX9_rounds 3 rfl) rfl rfl ?_
    refine z_invs mX9_isWall [.inl w] (zdec DX9_rounds 4 rfl) (Or.inl ml_SixWalls_109) okX9_isWall rfl rfl (Nat.le_of_ble_eq_true rfl) (Nat.le_of_ble_eq_true rfl) (b' := (0, 0)) ⟨Nat.le_refl 0, Nat.le_refl 0⟩ (Nat.le_of_ble_eq_true rfl) (cX9_isWall w) (fun rv9 S9 M6 h9 => ?_)
    obtain ⟨rfl, rfl, rfl⟩ := h9
    change zW _ _ _ _ _ 9 [(0, .inr (.inr 0)), (1, .inl w)] [.inl (zb (0 ≤ w ∧ w < 33))] M
    refine z_if_ne 14 (zdec DX9_rounds 5 rfl) rfl (fun h9 => ?_) (fun h9 => ?_)
    ·
      refine z_aload_n 0 (zdec DX9_rounds 8 rfl) rfl rfl (by decide) ?_
      refine z_getr (rw1 := -10) (ki := 3) (r' := 27) 0 9 (zdec DX9_rounds 9 rfl) rfl rfl shp0 rfl (by decide) rfl rfl fl_SixWalls_37 (zPa hP 3 rfl) ?_
      refine z_inv mX5_settle 27 5 [] (zdec DX9_rounds 10 rfl) ml_SixWalls_227 okX5_settle rfl shp27 rfl rfl rfl rfl (Nat.le_of_ble_eq_true rfl) (Nat.le_of_ble_eq_true rfl) (b' := (0, 0)) ⟨Nat.le_refl 0, Nat.le_refl 0⟩ (Nat.le_of_ble_eq_true rfl) (cX5_settle hP hG hR) (fun rv9 S9 M18 h9 => ?_)
      obtain ⟨rfl, rfl, hs1, hs2, hs3⟩ := h9
      have hPM18 : zP M18 := zP_of hP fun r hr => hs3 r (by omega) (by omega)
      have hw9 : w = -1 ∨ (0 ≤ w ∧ w < 33) := by first | (left; assumption) | (right; exact zb_ne0.mp (by assumption))
      change zW _ _ _ _ _ 21 [(0, .inr (.inr 0)), (1, .inl w)] [.inl ((zset M 100 0 (M 11)).1)] M18
      refine z_istore_n (L' := [(0, .inr (.inr 0)), (1, .inl w), (2, .inl ((zset M 100 0 (M 11)).1))]) (zdec DX9_rounds 11 rfl) rfl rfl (by decide) ?_
      refine z_iload_n 1 (zdec DX9_rounds 12 rfl) rfl rfl ?_
      refine z_if_ge 30 (zdec DX9_rounds 13 rfl) rfl (fun h23 => ?_) (fun h23 => ?_)
      ·
        refine z_aload_n 0 (zdec DX9_rounds 16 rfl) rfl rfl (by decide) ?_
        refine z_getr (rw1 := -10) (ki := 3) (r' := 27) 0 9 (zdec DX9_rounds 17 rfl) rfl rfl shp0 rfl (by decide) rfl rfl fl_SixWalls_37 (zPa hPM18 3 rfl) ?_
        refine z_iload_n 1 (zdec DX9_rounds 18 rfl) rfl rfl ?_
        refine z_inv mX5_thickThen 27 5 [.inl w] (zdec DX9_rounds 19 rfl) ml_SixWalls_230 okX5_thickThen rfl shp27 rfl rfl rfl rfl (Nat.le_of_ble_eq_true rfl) (Nat.le_of_ble_eq_true rfl) (b' := (0, 0)) ⟨Nat.le_refl 0, Nat.le_refl 0⟩ (Nat.le_of_ble_eq_true rfl) (cX5_thickThen hPM18 w (by omega)) (fun rv9 S9 M35 h9 => ?_)
        obtain ⟨rfl, rfl, rfl⟩ := h9
        change zW _ _ _ _ _ 38 [(0, .inr (.inr 0)), (1, .inl w), (2, .inl ((zset M 100 0 (M 11)).1))] [.inl (M18 28 w)] M18
        exact z_iret (zdec DX9_rounds 20 rfl) rfl (⟨rfl, zri (by first | (rw [if_pos (by omega)]; done) | (rw [if_neg (by omega), if_pos (by omega)]; exact hs1 w (by omega) (by omega))), hs3⟩)
      ·
        refine z_iload_n 2 (zdec DX9_rounds 14 rfl) rfl rfl ?_
        refine z_goto 38 (zdec DX9_rounds 15 rfl) rfl ?_
        exact z_iret (zdec DX9_rounds 20 rfl) rfl (⟨rfl, zri (by first | (rw [if_pos (by omega)]; done) | (rw [if_neg (by omega), if_pos (by omega)]; exact hs1 w (by omega) (by omega))), hs3⟩)
    ·
      refine z_iconst (-1) (zdec DX9_rounds 6 rfl) (by decide) ?_
      exact z_iret (zdec DX9_rounds 7 rfl) rfl (⟨rfl, zri (by rw [zb_ne0] at h9; rw [if_neg (by omega), if_neg (by omega)]), fun c _ _ => rfl⟩)
set_option maxHeartbeats 4000000 in
theorem cX9_colours {M : zMm} (hP : zP M) (hG : zG M) (w : Int) : zW mX9_colours 5 (fun rv S' M' => S' = zS0 ∧ rv = some (.inl (if w = 0 then zclash (M 13) else if w = 1 then zclash (zcalmed (M 13) 33) else if w = 2 then zbitc (zpots (M 13) 33) else -1)) ∧ ∀ c : Int, c ≠ 30 → M' c = M c) (0, 0) zS0 0 (zargs 0 [.inr (.inr 0), .inl w]) [] M := by
  change zW _ _ _ _ _ 0 [(0, .inr (.inr 0)), (1, .inl w)] [] M
  refine z_iload_n 1 (zdec DX9_colours 0 rfl) rfl rfl ?_
  refine z_tsw (zdec DX9_colours 1 rfl) (by decide) (fun j off hj he => ?_) (fun hd => ?_)
  · match j, hj, he with
    | 0, hj, he =>
      cases hj
      refine ⟨28, rfl, ?_⟩
      have h1 : w = 0 := by simpa using he
      refine z_aload_n 0 (zdec DX9_colours 2 rfl) rfl rfl (by decide) ?_
      refine z_getr (rw1 := -10) (ki := 3) (r' := 27) 0 9 (zdec DX9_colours 3 rfl) rfl rfl shp0 rfl (by decide) rfl rfl fl_SixWalls_37 (zPa hP 3 rfl) ?_
      refine z_inv mX5_clashes 27 5 [] (zdec DX9_colours 4 rfl) ml_SixWalls_262 okX5_clashes rfl shp27 rfl rfl rfl rfl (Nat.le_of_ble_eq_true rfl) (Nat.le_of_ble_eq_true rfl) (b' := (0, 0)) ⟨Nat.le_refl 0, Nat.le_refl 0⟩ (Nat.le_of_ble_eq_true rfl) (cX5_clashes hP hG) (fun rv9 S9 M32 h9 => ?_)
      obtain ⟨rfl, rfl, rfl⟩ := h9
      change zW _ _ _ _ _ 35 [(0, .inr (.inr 0)), (1, .inl w)] [.inl (zclash (M 13))] M
      exact z_iret (zdec DX9_colours 5 rfl) rfl (⟨rfl, zri (by rw [if_pos h1]), fun _ _ => rfl⟩)
    | 1, hj, he =>
      cases hj
      refine ⟨36, rfl, ?_⟩
      have h1 : w = 1 := by simpa using he
      refine z_aload_n 0 (zdec DX9_colours 6 rfl) rfl rfl (by decide) ?_
      refine z_getr (rw1 := -10) (ki := 3) (r' := 27) 0 9 (zdec DX9_colours 7 rfl) rfl rfl shp0 rfl (by decide) rfl rfl fl_SixWalls_37 (zPa hP 3 rfl) ?_
      refine z_inv mX5_calmed 27 5 [] (zdec DX9_colours 8 rfl) ml_SixWalls_265 okX5_calmed rfl shp27 rfl rfl rfl rfl (Nat.le_of_ble_eq_true rfl) (Nat.le_of_ble_eq_true rfl) (b' := (0, 0)) ⟨Nat.le_refl 0, Nat.le_refl 0⟩ (Nat.le_of_ble_eq_true rfl) (cX5_calmed hP hG) (fun rv9 S9 M40 h9 => ?_)
      obtain ⟨rfl, rfl, hs⟩ := h9
      change zW _ _ _ _ _ 43 [(0, .inr (.inr 0)), (1, .inl w)] [.inl (zclash (zcalmed (M 13) 33))] M40
      exact z_iret (zdec DX9_colours 9 rfl) rfl (⟨rfl, zri (by rw [if_neg (by omega), if_pos h1]), hs⟩)
    | 2, hj, he =>
      cases hj
      refine ⟨44, rfl, ?_⟩
      have h1 : w = 2 := by simpa using he
      refine z_aload_n 0 (zdec DX9_colours 10 rfl) rfl rfl (by decide) ?_
      refine z_getr (rw1 := -10) (ki := 3) (r' := 27) 0 9 (zdec DX9_colours 11 rfl) rfl rfl shp0 rfl (by decide) rfl rfl fl_SixWalls_37 (zPa hP 3 rfl) ?_
      refine z_inv mX5_pots 27 5 [] (zdec DX9_colours 12 rfl) ml_SixWalls_268 okX5_pots rfl shp27 rfl rfl rfl rfl (Nat.le_of_ble_eq_true rfl) (Nat.le_of_ble_eq_true rfl) (b' := (0, 0)) ⟨Nat.le_refl 0, Nat.le_refl 0⟩ (Nat.le_of_ble_eq_true rfl) (cX5_pots hP hG) (fun rv9 S9 M48 h9 => ?_)
      obtain ⟨rfl, rfl, rfl⟩ := h9
      change zW _ _ _ _ _ 51 [(0, .inr (.inr 0)), (1, .inl w)] [.inl (zbitc (zpots (M 13) 33))] M
      exact z_iret (zdec DX9_colours 13 rfl) rfl (⟨rfl, zri (by rw [if_neg (by omega), if_neg (by omega), if_pos h1]), fun _ _ => rfl⟩)
    | j + 3, hj, he => exact absurd (List.getElem?_eq_some_iff.mp hj).1 (by simp)
  · refine ⟨52, rfl, ?_⟩
    refine z_iconst (-1) (zdec DX9_colours 14 rfl) (by decide) ?_
    exact z_iret (zdec DX9_colours 15 rfl) rfl (⟨rfl, zri (by rw [if_neg (by omega), if_neg (by omega), if_neg (by omega)]), fun _ _ => rfl⟩)
set_option maxHeartbeats 4000000 in
theorem cX9_paint {M : zMm} (hP : zP M) (hG : zG M) (w : Int) : zW mX9_paint 5 (fun rv S' M' => S' = zS0 ∧ M = M' ∧ rv = some (.inl (if 0 ≤ w ∧ w < 33 then zcalm (M 13) w else -1))) (0, 0) zS0 0 (zargs 0 [.inr (.inr 0), .inl w]) [] M := by
  change zW _ _ _ _ _ 0 [(0, .inr (.inr 0)), (1, .inl w)] [] M
  refine z_iload_n 1 (zdec DX9_paint 0 rfl) rfl rfl ?_
  refine z_invs mX9_isWall [.inl w] (zdec DX9_paint 1 rfl) (Or.inl ml_SixWalls_109) okX9_isWall rfl rfl (Nat.le_of_ble_eq_true rfl) (Nat.le_of_ble_eq_true rfl) (b' := (0, 0)) ⟨Nat.le_refl 0, Nat.le_refl 0⟩ (Nat.le_of_ble_eq_true rfl) (cX9_isWall w) (fun rv9 S9 M1 h9 => ?_)
  obtain ⟨rfl, rfl, rfl⟩ := h9
  change zW _ _ _ _ _ 4 [(0, .inr (.inr 0)), (1, .inl w)] [.inl (zb (0 ≤ w ∧ w < 33))] M
  refine z_if_eq 25 (zdec DX9_paint 2 rfl) rfl (fun h4 => ?_) (fun h4 => ?_)
  ·
    rw [zb_eq0] at h4
    refine z_iconst (-1) (zdec DX9_paint 11 rfl) (by decide) ?_
    exact z_iret (zdec DX9_paint 12 rfl) rfl (⟨rfl, rfl, zri (by rw [if_neg h4])⟩)
  ·
    rw [zb_eq0, Classical.not_not] at h4
    refine z_aload_n 0 (zdec DX9_paint 3 rfl) rfl rfl (by decide) ?_
    refine z_getr (rw1 := -10) (ki := 3) (r' := 27) 0 9 (zdec DX9_paint 4 rfl) rfl rfl shp0 rfl (by decide) rfl rfl fl_SixWalls_37 (zPa hP 3 rfl) ?_
    refine z_iload_n 1 (zdec DX9_paint 5 rfl) rfl rfl ?_
    refine z_aload_n 0 (zdec DX9_paint 6 rfl) rfl rfl (by decide) ?_
    refine z_getr (rw1 := -10) (ki := 0) (r' := 1) 0 9 (zdec DX9_paint 7 rfl) rfl rfl shp0 rfl (by decide) rfl rfl fl_SixWalls_10 (zPa hP 0 rfl) ?_
    refine z_getr (rw1 := -11) (ki := 11) (r' := 13) 1 1 (zdec DX9_paint 8 rfl) rfl rfl shp1 rfl (by decide) rfl rfl fl_SixWalls_148 (zPa hP 20 rfl) ?_
    refine z_inv mX5_calmest 27 5 [.inl w, .inr (.inr 13)] (zdec DX9_paint 9 rfl) ml_SixWalls_271 okX5_calmest rfl shp27 rfl rfl rfl rfl (Nat.le_of_ble_eq_true rfl) (Nat.le_of_ble_eq_true rfl) (b' := (0, 0)) ⟨Nat.le_refl 0, Nat.le_refl 0⟩ (Nat.le_of_ble_eq_true rfl) (cX5_calmest_13 hP hG w h4) (fun rv9 S9 M19 h9 => ?_)
    obtain ⟨rfl, rfl, rfl⟩ := h9
    change zW _ _ _ _ _ 22 [(0, .inr (.inr 0)), (1, .inl w)] [.inl (zcalm (M 13) w)] M
    refine z_goto 26 (zdec DX9_paint 10 rfl) rfl ?_
    exact z_iret (zdec DX9_paint 12 rfl) rfl (⟨rfl, rfl, zri (by rw [if_pos h4])⟩)
end
section
/-! contracts of Families; empty, takes, years, image, back of SixWalls -/
/-- the first of g 0, g 1 .. g (n - 1) with p; -1: none -/
def zff (g : Int → Int) (p : Int → Prop) [DecidablePred p] (n : Int) : Int := zfo (fun a s => if a = -1 ∧ p (g s) then g s else a) (-1) n
theorem zff_no {g : Int → Int} {p : Int → Prop} [DecidablePred p] {n : Int} (h : ∀ j : Int, 0 ≤ j → j < n → ¬ p (g j)) : zff g p n = -1 := by
  have key : ∀ k : Nat, (k : Int) ≤ n → zfold (fun (a : Int) (s : Int) => if a = -1 ∧ p (g s) then g s else a) (-1) k = -1 := by
    intro k
    induction k with
    | zero => intro _; rfl
    | succ k ih =>
      intro hk
      simp only [zfold]
      rw [ih (by omega), if_neg (fun q => h k (by omega) (by omega) q.2)]
  by_cases hn : 0 ≤ n
  · exact key n.toNat (by omega)
  · unfold zff zfo
    rw [show n.toNat = 0 by omega]
    rfl
theorem zff_hit {g : Int → Int} {p : Int → Prop} [DecidablePred p] {n s : Int} (hs : 0 ≤ s ∧ s < n) (hg : g s ≠ -1) (h : ∀ j : Int, 0 ≤ j → j < s → ¬ p (g j)) (hp : p (g s)) : zff g p n = g s := by
  have key : ∀ k : Nat, s < (k : Int) → zfold (fun (a : Int) (s : Int) => if a = -1 ∧ p (g s) then g s else a) (-1) k = g s := by
    intro k
    induction k with
    | zero => intro h; omega
    | succ k ih =>
      intro hk
      simp only [zfold]
      by_cases hk2 : s < (k : Int)
      · rw [ih hk2, if_neg (fun q => hg q.1)]
      · have e : (k : Int) = s := by omega
        have e2 : zfold (fun (a : Int) (s : Int) => if a = -1 ∧ p (g s) then g s else a) (-1) k = -1 := by
          have := zff_no (g := g) (p := p) (n := s) h
          unfold zff zfo at this
          rw [show s.toNat = k by omega] at this
          exact this
        rw [e2, e, if_pos ⟨rfl, hp⟩]
  have := key n.toNat (by omega)
  exact this
/-- lived in, fires, wants, doors -/
abbrev zB : Type := (Int → Int) × (Int → Int) × (Int → Int) × (Int → Int)
def zborn (L : Int → Int) (h : Int) : Int := zff (fun s => znat (h * 6 + s)) (fun q => L q ≠ 1) (zsid h)
def zfeud (D : Int → Int) (h : Int) : Int := zff (fun s => zwat (h * 6 + s)) (fun w => D w ≠ 0) (zsid h)
def ztk (L W : Int → Int) (h : Int) : Int := zfo (fun best s => if L (znat (h * 6 + s)) = 1 ∧ (best < 0 ∨ W best < W (znat (h * 6 + s))) then znat (h * 6 + s) else best) (-1) (zsid h)
def zbirth (b : zB) (h : Int) : zB := if zborn b.1 h < 0 then b else (zpu b.1 (zborn b.1 h) 1, b.2.1, zpu b.2.2.1 (zborn b.1 h) (b.2.2.1 h), b.2.2.2)
def zquarrel (b : zB) (h : Int) : zB := if zfeud b.2.2.2 h < 0 then b else (b.1, b.2.1, b.2.2.1, zpu b.2.2.2 (zfeud b.2.2.2 h) 0)
def zbef (b : zB) (h d : Int) : zB := if d = 0 then zbirth b h else if d = 1 then zquarrel b h else if d = 2 then (b.1, zpu b.2.1 h (if b.2.1 h + 1 < 9 then b.2.1 h + 1 else 9), b.2.2) else if d = 3 then (b.1, zpu b.2.1 h (if 0 < b.2.1 h - 1 then b.2.1 h - 1 else 0), b.2.2) else b
def zdraw (z : Int) : Int := zw (zw (z * 1103515245) + 12345)
def zyear (st : zB × Int) (h : Int) : zB × Int := if st.1.1 h = 0 then st else (zbef st.1 h (zw (Int.tmod (zushr (zdraw st.2) 8) 12)), zdraw st.2)
def zgrow (st : zB × Int) (n : Int) : zB × Int := zfo (fun st _ => zfo zyear st 16) st n
def zFam (M : zMm) : zB := (M 7, M 8, M 10, M 12)
def zFm (M M2 : zMm) (b : zB) : Prop := zFam M2 = b ∧ ∀ c : Int, c ≠ 7 → c ≠ 8 → c ≠ 10 → c ≠ 12 → M2 c = M c
def zBr (b : zB) : Prop := (∀ h : Int, 0 ≤ h → h < 16 → (0 ≤ b.1 h ∧ b.1 h ≤ 1) ∧ (0 ≤ b.2.1 h ∧ b.2.1 h ≤ 9) ∧ (0 ≤ b.2.2.1 h ∧ b.2.2.1 h ≤ 9)) ∧ ∀ w : Int, 0 ≤ w → w < 33 → 0 ≤ b.2.2.2 w ∧ b.2.2.2 w ≤ 1
theorem zFm.r7 {M M2 : zMm} {b : zB} (h : zFm M M2 b) : M2 7 = b.1 := congrArg (fun b => b.1) h.1
theorem zFm.r8 {M M2 : zMm} {b : zB} (h : zFm M M2 b) : M2 8 = b.2.1 := congrArg (fun b => b.2.1) h.1
theorem zFm.r10 {M M2 : zMm} {b : zB} (h : zFm M M2 b) : M2 10 = b.2.2.1 := congrArg (fun b => b.2.2.1) h.1
theorem zFm.r12 {M M2 : zMm} {b : zB} (h : zFm M M2 b) : M2 12 = b.2.2.2 := congrArg (fun b => b.2.2.2) h.1
theorem zup_zpu {M : zMm} {c k v : Int} : zup M c k v c = zpu (M c) k v := by
  funext k'
  unfold zup zpu
  by_cases h : k' = k <;> simp [h]
theorem zBr_of {M : zMm} (h : zRg M) : zBr (zFam M) := ⟨fun k h0 h1 => ⟨(h.1 k h0 h1).1, (h.1 k h0 h1).2.1, (h.1 k h0 h1).2.2.2⟩, fun w h0 h1 => (h.2.1 w h0 h1).2.1⟩
theorem zpu_r {T : Int → Int} {k v lo hi n : Int} (h : ∀ i : Int, 0 ≤ i → i < n → lo ≤ T i ∧ T i ≤ hi) (hv : lo ≤ v ∧ v ≤ hi) : ∀ i : Int, 0 ≤ i → i < n → lo ≤ zpu T k v i ∧ zpu T k v i ≤ hi := by
  intro i h0 h1
  by_cases hi : i = k
  · subst hi; rw [zpu_s]; exact hv
  · rw [zpu_n hi]; exact h i h0 h1
theorem zBr_bef {b : zB} (hb : zBr b) {h : Int} (hh : 0 ≤ h ∧ h < 16) (d : Int) : zBr (zbef b h d) := by
  obtain ⟨h1, h2⟩ := hb
  have a1 : ∀ k : Int, 0 ≤ k → k < 16 → 0 ≤ b.1 k ∧ b.1 k ≤ 1 := fun k p q => (h1 k p q).1
  have a2 : ∀ k : Int, 0 ≤ k → k < 16 → 0 ≤ b.2.1 k ∧ b.2.1 k ≤ 9 := fun k p q => (h1 k p q).2.1
  have a3 : ∀ k : Int, 0 ≤ k → k < 16 → 0 ≤ b.2.2.1 k ∧ b.2.2.1 k ≤ 9 := fun k p q => (h1 k p q).2.2
  have a4 := (a2 h hh.1 hh.2)
  unfold zbef
  split
  · unfold zbirth
    split
    · exact ⟨h1, h2⟩
    · exact ⟨fun k p q => ⟨zpu_r a1 (by omega) k p q, a2 k p q, zpu_r a3 (a3 h hh.1 hh.2) k p q⟩, h2⟩
  · split
    · unfold zquarrel
      split
      · exact ⟨h1, h2⟩
      · exact ⟨h1, zpu_r h2 (by omega)⟩
    · split
      · exact ⟨fun k p q => ⟨a1 k p q, zpu_r a2 (by split <;> omega) k p q, a3 k p q⟩, h2⟩
      · split
        · exact ⟨fun k p q => ⟨a1 k p q, zpu_r a2 (by split <;> omega) k p q, a3 k p q⟩, h2⟩
        · exact ⟨h1, h2⟩
theorem zBr_year {st : zB × Int} (hb : zBr st.1) {h : Int} (hh : 0 ≤ h ∧ h < 16) : zBr (zyear st h).1 := by
  unfold zyear
  split
  · exact hb
  · exact zBr_bef hb hh _
set_option maxHeartbeats 4000000 in
theorem lp_X2_taker_4 {Q : zPost} {M : zMm} (hP : zP M) (hG : zG M) (h : Int) (hh : 0 ≤ h ∧ h < 16) (hx82 : ∀ (b : Int), (b = ztk (M 7) (M 10) h) → zW mX2_taker 1 Q (0, 0) zS0 82 [(2, .inl b)] [] M) : ∀ (n : Nat) (b : Int) (s : Int), (6 - s).toNat < n → (0 ≤ s ∧ s ≤ zsid h ∧ (-1 ≤ b ∧ b < 16) ∧ b = zfo (fun best s => if M 7 (znat (h * 6 + s)) = 1 ∧ (best < 0 ∨ M 10 best < M 10 (znat (h * 6 + s))) then znat (h * 6 + s) else best) (-1) s) → zW mX2_taker 1 Q (0, 0) zS0 4 [(0, .inr (.inr 34)), (1, .inl h), (2, .inl b), (3, .inl s)] [] M := by
  intro n
  induction n with
  | zero => intro b s hn; exact absurd hn (Nat.not_lt_zero _)
  | succ n ih =>
    intro b s hn hI
    have hs6 := zsid_b h
    have hsd := hG.sid hh.1 hh.2
    refine z_iload_n 3 (zdec DX2_taker 4 rfl) rfl rfl ?_
    refine z_aload_n 0 (zdec DX2_taker 5 rfl) rfl rfl (by decide) ?_
    refine z_getr (rw1 := -44) (ki := 0) (r' := 1) 34 2 (zdec DX2_taker 6 rfl) rfl rfl shp34 rfl (by decide) rfl rfl fl_SixWalls_Families_22 (zPa hP 37 rfl) ?_
    refine z_getr (rw1 := -11) (ki := 2) (r' := 4) 1 1 (zdec DX2_taker 7 rfl) rfl rfl shp1 rfl (by decide) rfl rfl fl_SixWalls_Families_26 (zPa hP 11 rfl) ?_
    refine z_iload_n 1 (zdec DX2_taker 8 rfl) rfl rfl ?_
    refine z_iald 4 (zdec DX2_taker 9 rfl) rfl shp4 ⟨by omega, by omega⟩ ?_
    refine z_icmp_ge 82 (zdec DX2_taker 10 rfl) rfl (fun h14 => ?_) (fun h14 => ?_)
    ·
      refine z_weak (L' := [(2, .inl b)]) (by simp) ?_
      exact hx82 b (by have e : s = zsid h := (by omega); rw [hI.2.2.2, e]; rfl)
    ·
      refine z_aload_n 0 (zdec DX2_taker 11 rfl) rfl rfl (by decide) ?_
      refine z_getr (rw1 := -44) (ki := 0) (r' := 1) 34 2 (zdec DX2_taker 12 rfl) rfl rfl shp34 rfl (by decide) rfl rfl fl_SixWalls_Families_22 (zPa hP 37 rfl) ?_
      refine z_getr (rw1 := -11) (ki := 4) (r' := 6) 1 1 (zdec DX2_taker 13 rfl) rfl rfl shp1 rfl (by decide) rfl rfl fl_SixWalls_Families_31 (zPa hP 13 rfl) ?_
      refine z_iload_n 1 (zdec DX2_taker 14 rfl) rfl rfl ?_
      refine z_bipush 6 (zdec DX2_taker 15 rfl) (by decide) ?_
      refine z_imul (zdec DX2_taker 16 rfl) (by unfold z32; omega) ?_
      refine z_iload_n 3 (zdec DX2_taker 17 rfl) rfl rfl ?_
      refine z_iadd (zdec DX2_taker 18 rfl) (by unfold z32; omega) ?_
      refine z_iald 6 (zdec DX2_taker 19 rfl) rfl shp6 ⟨by omega, by omega⟩ ?_
      have en := hG.nat (w := h * 6 + s) (by omega) (by omega)
      have nb := znat_b (h * 6 + s)
      rw [en]
      refine z_istore (L' := [(0, .inr (.inr 34)), (1, .inl h), (2, .inl b), (3, .inl s), (4, .inl (znat (h * 6 + s)))]) (zdec DX2_taker 20 rfl) rfl (by decide) ?_
      refine z_aload_n 0 (zdec DX2_taker 21 rfl) rfl rfl (by decide) ?_
      refine z_getr (rw1 := -44) (ki := 0) (r' := 1) 34 2 (zdec DX2_taker 22 rfl) rfl rfl shp34 rfl (by decide) rfl rfl fl_SixWalls_Families_22 (zPa hP 37 rfl) ?_
      refine z_getr (rw1 := -11) (ki := 5) (r' := 7) 1 1 (zdec DX2_taker 23 rfl) rfl rfl shp1 rfl (by decide) rfl rfl fl_SixWalls_Families_34 (zPa hP 14 rfl) ?_
      refine z_iload 4 (zdec DX2_taker 24 rfl) rfl ?_
      refine z_iald 7 (zdec DX2_taker 25 rfl) rfl shp7 ⟨by omega, by omega⟩ ?_
      refine z_iconst 1 (zdec DX2_taker 26 rfl) (by decide) ?_
      refine z_icmp_ne 76 (zdec DX2_taker 27 rfl) rfl (fun h44 => ?_) (fun h44 => ?_)
      ·
        refine z_iinc (L' := [(0, .inr (.inr 34)), (1, .inl h), (2, .inl b), (3, .inl (s + 1)), (4, .inl (znat (h * 6 + s)))]) 3 (zdec DX2_taker 43 rfl) rfl (by unfold z32; omega) rfl (by decide) ?_
        refine z_goto 4 (zdec DX2_taker 44 rfl) rfl ?_
        refine z_weak (L' := [(0, .inr (.inr 34)), (1, .inl h), (2, .inl b), (3, .inl (s + 1))]) (by simp) ?_
        exact ih b (s + 1) (by omega) ⟨by omega, by omega, by omega, by rw [zfo_s _ _ (by omega), ← hI.2.2.2]; rw [if_neg (fun q => h44 q.1)]⟩
      ·
        refine z_iload_n 2 (zdec DX2_taker 28 rfl) rfl rfl ?_
        refine z_if_lt 73 (zdec DX2_taker 29 rfl) rfl (fun h48 => ?_) (fun h48 => ?_)
        ·
          refine z_iload 4 (zdec DX2_taker 41 rfl) rfl ?_
          refine z_istore_n (L' := [(0, .inr (.inr 34)), (1, .inl h), (2, .inl (znat (h * 6 + s))), (3, .inl s), (4, .inl (znat (h * 6 + s)))]) (zdec DX2_taker 42 rfl) rfl rfl (by decide) ?_
          refine z_iinc (L' := [(0, .inr (.inr 34)), (1, .inl h), (2, .inl (znat (h * 6 + s))), (3, .inl (s + 1)), (4, .inl (znat (h * 6 + s)))]) 3 (zdec DX2_taker 43 rfl) rfl (by unfold z32; omega) rfl (by decide) ?_
          refine z_goto 4 (zdec DX2_taker 44 rfl) rfl ?_
          refine z_weak (L' := [(0, .inr (.inr 34)), (1, .inl h), (2, .inl (znat (h * 6 + s))), (3, .inl (s + 1))]) (by simp) ?_
          exact ih (znat (h * 6 + s)) (s + 1) (by omega) ⟨by omega, by omega, by omega, by rw [zfo_s _ _ (by omega), ← hI.2.2.2]; rw [if_pos ⟨by omega, by omega⟩]⟩
        ·
          refine z_aload_n 0 (zdec DX2_taker 30 rfl) rfl rfl (by decide) ?_
          refine z_getr (rw1 := -44) (ki := 0) (r' := 1) 34 2 (zdec DX2_taker 31 rfl) rfl rfl shp34 rfl (by decide) rfl rfl fl_SixWalls_Families_22 (zPa hP 37 rfl) ?_
          refine z_getr (rw1 := -11) (ki := 8) (r' := 10) 1 1 (zdec DX2_taker 32 rfl) rfl rfl shp1 rfl (by decide) rfl rfl fl_SixWalls_Families_37 (zPa hP 17 rfl) ?_
          refine z_iload 4 (zdec DX2_taker 33 rfl) rfl ?_
          refine z_iald 10 (zdec DX2_taker 34 rfl) rfl shp10 ⟨by omega, by omega⟩ ?_
          refine z_aload_n 0 (zdec DX2_taker 35 rfl) rfl rfl (by decide) ?_
          refine z_getr (rw1 := -44) (ki := 0) (r' := 1) 34 2 (zdec DX2_taker 36 rfl) rfl rfl shp34 rfl (by decide) rfl rfl fl_SixWalls_Families_22 (zPa hP 37 rfl) ?_
          refine z_getr (rw1 := -11) (ki := 8) (r' := 10) 1 1 (zdec DX2_taker 37 rfl) rfl rfl shp1 rfl (by decide) rfl rfl fl_SixWalls_Families_37 (zPa hP 17 rfl) ?_
          refine z_iload_n 2 (zdec DX2_taker 38 rfl) rfl rfl ?_
          refine z_iald 10 (zdec DX2_taker 39 rfl) rfl shp10 ⟨by omega, by omega⟩ ?_
          refine z_icmp_le 76 (zdec DX2_taker 40 rfl) rfl (fun h70 => ?_) (fun h70 => ?_)
          ·
            refine z_iinc (L' := [(0, .inr (.inr 34)), (1, .inl h), (2, .inl b), (3, .inl (s + 1)), (4, .inl (znat (h * 6 + s)))]) 3 (zdec DX2_taker 43 rfl) rfl (by unfold z32; omega) rfl (by decide) ?_
            refine z_goto 4 (zdec DX2_taker 44 rfl) rfl ?_
            refine z_weak (L' := [(0, .inr (.inr 34)), (1, .inl h), (2, .inl b), (3, .inl (s + 1))]) (by simp) ?_
            exact ih b (s + 1) (by omega) ⟨by omega, by omega, by omega, by rw [zfo_s _ _ (by omega), ← hI.2.2.2]; rw [if_neg (by omega)]⟩
          ·
            refine z_iload 4 (zdec DX2_taker 41 rfl) rfl ?_
            refine z_istore_n (L' := [(0, .inr (.inr 34)), (1, .inl h), (2, .inl (znat (h * 6 + s))), (3, .inl s), (4, .inl (znat (h * 6 + s)))]) (zdec DX2_taker 42 rfl) rfl rfl (by decide) ?_
            refine z_iinc (L' := [(0, .inr (.inr 34)), (1, .inl h), (2, .inl (znat (h * 6 + s))), (3, .inl (s + 1)), (4, .inl (znat (h * 6 + s)))]) 3 (zdec DX2_taker 43 rfl) rfl (by unfold z32; omega) rfl (by decide) ?_
            refine z_goto 4 (zdec DX2_taker 44 rfl) rfl ?_
            refine z_weak (L' := [(0, .inr (.inr 34)), (1, .inl h), (2, .inl (znat (h * 6 + s))), (3, .inl (s + 1))]) (by simp) ?_
            exact ih (znat (h * 6 + s)) (s + 1) (by omega) ⟨by omega, by omega, by omega, by rw [zfo_s _ _ (by omega), ← hI.2.2.2]; rw [if_pos ⟨by omega, by omega⟩]⟩
set_option maxHeartbeats 4000000 in
theorem cX2_taker {M : zMm} (hP : zP M) (hG : zG M) (h : Int) (hh : 0 ≤ h ∧ h < 16) : zW mX2_taker 1 (fun rv S' M' => S' = zS0 ∧ M = M' ∧ rv = some (.inl (ztk (M 7) (M 10) h))) (0, 0) zS0 0 (zargs 0 [.inr (.inr 34), .inl h]) [] M := by
  change zW _ _ _ _ _ 0 [(0, .inr (.inr 34)), (1, .inl h)] [] M
  refine z_iconst (-1) (zdec DX2_taker 0 rfl) (by decide) ?_
  refine z_istore_n (L' := [(0, .inr (.inr 34)), (1, .inl h), (2, .inl (-1))]) (zdec DX2_taker 1 rfl) rfl rfl (by decide) ?_
  refine z_iconst 0 (zdec DX2_taker 2 rfl) (by decide) ?_
  refine z_istore_n (L' := [(0, .inr (.inr 34)), (1, .inl h), (2, .inl (-1)), (3, .inl 0)]) (zdec DX2_taker 3 rfl) rfl rfl (by decide) ?_
  refine lp_X2_taker_4 hP hG h hh (hx82 := fun b hx => ?_) _ (-1) 0 (Nat.lt_succ_self _) ⟨by omega, (zsid_b h).1, by omega, rfl⟩
  refine z_iload_n 0 (zdec DX2_taker 45 rfl) rfl rfl ?_
  exact z_iret (zdec DX2_taker 46 rfl) rfl (⟨rfl, rfl, zri hx⟩)
set_option maxHeartbeats 4000000 in
theorem lp_X2_bear_2 {M : zMm} (hP : zP M) (hG : zG M) (h : Int) (hh : 0 ≤ h ∧ h < 16) (hx81 : (zborn (M 7) h = -1) → zW mX2_bear 1 (fun rv S' M' => S' = zS0 ∧ rv = none ∧ zFm M M' (zbirth (zFam M) h)) (0, 0) zS0 81 [] [] M) : ∀ (n : Nat) (s : Int), (6 - s).toNat < n → (0 ≤ s ∧ s ≤ zsid h ∧ ∀ j : Int, 0 ≤ j → j < s → ¬ M 7 (znat (h * 6 + j)) ≠ 1) → zW mX2_bear 1 (fun rv S' M' => S' = zS0 ∧ rv = none ∧ zFm M M' (zbirth (zFam M) h)) (0, 0) zS0 2 [(0, .inr (.inr 34)), (1, .inl h), (2, .inl s)] [] M := by
  intro n
  induction n with
  | zero => intro s hn; exact absurd hn (Nat.not_lt_zero _)
  | succ n ih =>
    intro s hn hI
    have hs6 := zsid_b h
    have hsd := hG.sid hh.1 hh.2
    refine z_iload_n 2 (zdec DX2_bear 2 rfl) rfl rfl ?_
    refine z_aload_n 0 (zdec DX2_bear 3 rfl) rfl rfl (by decide) ?_
    refine z_getr (rw1 := -44) (ki := 0) (r' := 1) 34 2 (zdec DX2_bear 4 rfl) rfl rfl shp34 rfl (by decide) rfl rfl fl_SixWalls_Families_22 (zPa hP 37 rfl) ?_
    refine z_getr (rw1 := -11) (ki := 2) (r' := 4) 1 1 (zdec DX2_bear 5 rfl) rfl rfl shp1 rfl (by decide) rfl rfl fl_SixWalls_Families_26 (zPa hP 11 rfl) ?_
    refine z_iload_n 1 (zdec DX2_bear 6 rfl) rfl rfl ?_
    refine z_iald 4 (zdec DX2_bear 7 rfl) rfl shp4 ⟨by omega, by omega⟩ ?_
    refine z_icmp_ge 81 (zdec DX2_bear 8 rfl) rfl (fun h12 => ?_) (fun h12 => ?_)
    ·
      refine z_weak (L' := []) (by simp) ?_
      exact hx81  (zff_no fun j h0 h1 => hI.2.2 j h0 (by omega))
    ·
      refine z_aload_n 0 (zdec DX2_bear 9 rfl) rfl rfl (by decide) ?_
      refine z_getr (rw1 := -44) (ki := 0) (r' := 1) 34 2 (zdec DX2_bear 10 rfl) rfl rfl shp34 rfl (by decide) rfl rfl fl_SixWalls_Families_22 (zPa hP 37 rfl) ?_
      refine z_getr (rw1 := -11) (ki := 4) (r' := 6) 1 1 (zdec DX2_bear 11 rfl) rfl rfl shp1 rfl (by decide) rfl rfl fl_SixWalls_Families_31 (zPa hP 13 rfl) ?_
      refine z_iload_n 1 (zdec DX2_bear 12 rfl) rfl rfl ?_
      refine z_bipush 6 (zdec DX2_bear 13 rfl) (by decide) ?_
      refine z_imul (zdec DX2_bear 14 rfl) (by unfold z32; omega) ?_
      refine z_iload_n 2 (zdec DX2_bear 15 rfl) rfl rfl ?_
      refine z_iadd (zdec DX2_bear 16 rfl) (by unfold z32; omega) ?_
      refine z_iald 6 (zdec DX2_bear 17 rfl) rfl shp6 ⟨by omega, by omega⟩ ?_
      have en := hG.nat (w := h * 6 + s) (by omega) (by omega)
      have nb := znat_b (h * 6 + s)
      rw [en]
      refine z_istore_n (L' := [(0, .inr (.inr 34)), (1, .inl h), (2, .inl s), (3, .inl (znat (h * 6 + s)))]) (zdec DX2_bear 18 rfl) rfl rfl (by decide) ?_
      refine z_aload_n 0 (zdec DX2_bear 19 rfl) rfl rfl (by decide) ?_
      refine z_getr (rw1 := -44) (ki := 0) (r' := 1) 34 2 (zdec DX2_bear 20 rfl) rfl rfl shp34 rfl (by decide) rfl rfl fl_SixWalls_Families_22 (zPa hP 37 rfl) ?_
      refine z_getr (rw1 := -11) (ki := 5) (r' := 7) 1 1 (zdec DX2_bear 21 rfl) rfl rfl shp1 rfl (by decide) rfl rfl fl_SixWalls_Families_34 (zPa hP 14 rfl) ?_
      refine z_iload_n 3 (zdec DX2_bear 22 rfl) rfl rfl ?_
      refine z_iald 7 (zdec DX2_bear 23 rfl) rfl shp7 ⟨by omega, by omega⟩ ?_
      refine z_iconst 1 (zdec DX2_bear 24 rfl) (by decide) ?_
      refine z_icmp_ne 46 (zdec DX2_bear 25 rfl) rfl (fun h40 => ?_) (fun h40 => ?_)
      ·
        refine z_aload_n 0 (zdec DX2_bear 27 rfl) rfl rfl (by decide) ?_
        refine z_getr (rw1 := -44) (ki := 0) (r' := 1) 34 2 (zdec DX2_bear 28 rfl) rfl rfl shp34 rfl (by decide) rfl rfl fl_SixWalls_Families_22 (zPa hP 37 rfl) ?_
        refine z_getr (rw1 := -11) (ki := 5) (r' := 7) 1 1 (zdec DX2_bear 29 rfl) rfl rfl shp1 rfl (by decide) rfl rfl fl_SixWalls_Families_34 (zPa hP 14 rfl) ?_
        refine z_iload_n 3 (zdec DX2_bear 30 rfl) rfl rfl ?_
        refine z_iconst 1 (zdec DX2_bear 31 rfl) (by decide) ?_
        refine z_iast 7 (zdec DX2_bear 32 rfl) rfl shp7 ⟨by omega, by omega⟩ ?_
        refine z_aload_n 0 (zdec DX2_bear 33 rfl) rfl rfl (by decide) ?_
        refine z_getr (rw1 := -44) (ki := 0) (r' := 1) 34 2 (zdec DX2_bear 34 rfl) rfl rfl shp34 rfl (by decide) rfl rfl fl_SixWalls_Families_22 (zPa (zP_up hP (by decide)) 37 rfl) ?_
        refine z_getr (rw1 := -11) (ki := 8) (r' := 10) 1 1 (zdec DX2_bear 35 rfl) rfl rfl shp1 rfl (by decide) rfl rfl fl_SixWalls_Families_37 (zPa (zP_up hP (by decide)) 17 rfl) ?_
        refine z_iload_n 3 (zdec DX2_bear 36 rfl) rfl rfl ?_
        refine z_aload_n 0 (zdec DX2_bear 37 rfl) rfl rfl (by decide) ?_
        refine z_getr (rw1 := -44) (ki := 0) (r' := 1) 34 2 (zdec DX2_bear 38 rfl) rfl rfl shp34 rfl (by decide) rfl rfl fl_SixWalls_Families_22 (zPa (zP_up hP (by decide)) 37 rfl) ?_
        refine z_getr (rw1 := -11) (ki := 8) (r' := 10) 1 1 (zdec DX2_bear 39 rfl) rfl rfl shp1 rfl (by decide) rfl rfl fl_SixWalls_Families_37 (zPa (zP_up hP (by decide)) 17 rfl) ?_
        refine z_iload_n 1 (zdec DX2_bear 40 rfl) rfl rfl ?_
        refine z_iald 10 (zdec DX2_bear 41 rfl) rfl shp10 ⟨by omega, by omega⟩ ?_
        rw [show (zup M 7 (znat (h * 6 + s)) 1) 10 h = M 10 h from by simp [zup, zcpy]]
        refine z_iast 10 (zdec DX2_bear 42 rfl) rfl shp10 ⟨by omega, by omega⟩ ?_
        exact z_vret (zdec DX2_bear 43 rfl) rfl (⟨rfl, rfl, by have e : zborn (M 7) h = znat (h * 6 + s) := (zff_hit (g := fun s => znat (h * 6 + s)) (p := fun q => M 7 q ≠ 1) (n := zsid h) ⟨hI.1, by omega⟩ (by show znat (h * 6 + s) ≠ -1; omega) hI.2.2 (by show M 7 (znat (h * 6 + s)) ≠ 1; omega)); unfold zFam zbirth; rw [show zborn (M 7, M 8, M 10, M 12).1 h = znat (h * 6 + s) from e, if_neg (by omega)]; simp only [zup_row (show (7 : Int) ≠ 10 by decide), zup_row (show (8 : Int) ≠ 10 by decide), zup_row (show (8 : Int) ≠ 7 by decide), zup_row (show (12 : Int) ≠ 10 by decide), zup_row (show (12 : Int) ≠ 7 by decide), zup_zpu, zup_row (show (10 : Int) ≠ 7 by decide)], fun c h0 h1 h2 h3 => by rw [zup_row h2, zup_row h0]⟩)
      ·
        refine z_goto 75 (zdec DX2_bear 26 rfl) rfl ?_
        refine z_iinc (L' := [(0, .inr (.inr 34)), (1, .inl h), (2, .inl (s + 1)), (3, .inl (znat (h * 6 + s)))]) 2 (zdec DX2_bear 44 rfl) rfl (by unfold z32; omega) rfl (by decide) ?_
        refine z_goto 2 (zdec DX2_bear 45 rfl) rfl ?_
        refine z_weak (L' := [(0, .inr (.inr 34)), (1, .inl h), (2, .inl (s + 1))]) (by simp) ?_
        exact ih (s + 1) (by omega) ⟨by omega, by omega, fun j h0 h1 => (by by_cases hj : j = s; (subst hj; omega); (exact hI.2.2 j h0 (by omega)))⟩
set_option maxHeartbeats 4000000 in
theorem cX2_bear {M : zMm} (hP : zP M) (hG : zG M) (h : Int) (hh : 0 ≤ h ∧ h < 16) : zW mX2_bear 1 (fun rv S' M' => S' = zS0 ∧ rv = none ∧ zFm M M' (zbirth (zFam M) h)) (0, 0) zS0 0 (zargs 0 [.inr (.inr 34), .inl h]) [] M := by
  change zW _ _ _ _ _ 0 [(0, .inr (.inr 34)), (1, .inl h)] [] M
  refine z_iconst 0 (zdec DX2_bear 0 rfl) (by decide) ?_
  refine z_istore_n (L' := [(0, .inr (.inr 34)), (1, .inl h), (2, .inl 0)]) (zdec DX2_bear 1 rfl) rfl rfl (by decide) ?_
  refine lp_X2_bear_2 hP hG h hh (hx81 := fun hx => ?_) _ 0 (Nat.lt_succ_self _) ⟨by omega, (zsid_b h).1, fun j h0 h1 => by omega⟩
  exact z_vret (zdec DX2_bear 46 rfl) rfl (⟨rfl, rfl, by have e : zborn (M 7) h = -1 := hx; unfold zbirth; rw [show zborn (zFam M).1 h = -1 from e, if_pos (by decide)], fun _ _ _ _ _ => rfl⟩)
set_option maxHeartbeats 4000000 in
theorem lp_X2_feud_2 {M : zMm} (hP : zP M) (hG : zG M) (h : Int) (hh : 0 ≤ h ∧ h < 16) (hx62 : (zfeud (M 12) h = -1) → zW mX2_feud 1 (fun rv S' M' => S' = zS0 ∧ rv = none ∧ zFm M M' (zquarrel (zFam M) h)) (0, 0) zS0 62 [] [] M) : ∀ (n : Nat) (s : Int), (6 - s).toNat < n → (0 ≤ s ∧ s ≤ zsid h ∧ ∀ j : Int, 0 ≤ j → j < s → ¬ M 12 (zwat (h * 6 + j)) ≠ 0) → zW mX2_feud 1 (fun rv S' M' => S' = zS0 ∧ rv = none ∧ zFm M M' (zquarrel (zFam M) h)) (0, 0) zS0 2 [(0, .inr (.inr 34)), (1, .inl h), (2, .inl s)] [] M := by
  intro n
  induction n with
  | zero => intro s hn; exact absurd hn (Nat.not_lt_zero _)
  | succ n ih =>
    intro s hn hI
    have hs6 := zsid_b h
    have hsd := hG.sid hh.1 hh.2
    refine z_iload_n 2 (zdec DX2_feud 2 rfl) rfl rfl ?_
    refine z_aload_n 0 (zdec DX2_feud 3 rfl) rfl rfl (by decide) ?_
    refine z_getr (rw1 := -44) (ki := 0) (r' := 1) 34 2 (zdec DX2_feud 4 rfl) rfl rfl shp34 rfl (by decide) rfl rfl fl_SixWalls_Families_22 (zPa hP 37 rfl) ?_
    refine z_getr (rw1 := -11) (ki := 2) (r' := 4) 1 1 (zdec DX2_feud 5 rfl) rfl rfl shp1 rfl (by decide) rfl rfl fl_SixWalls_Families_26 (zPa hP 11 rfl) ?_
    refine z_iload_n 1 (zdec DX2_feud 6 rfl) rfl rfl ?_
    refine z_iald 4 (zdec DX2_feud 7 rfl) rfl shp4 ⟨by omega, by omega⟩ ?_
    refine z_icmp_ge 62 (zdec DX2_feud 8 rfl) rfl (fun h12 => ?_) (fun h12 => ?_)
    ·
      refine z_weak (L' := []) (by simp) ?_
      exact hx62  (zff_no fun j h0 h1 => hI.2.2 j h0 (by omega))
    ·
      refine z_aload_n 0 (zdec DX2_feud 9 rfl) rfl rfl (by decide) ?_
      refine z_getr (rw1 := -44) (ki := 0) (r' := 1) 34 2 (zdec DX2_feud 10 rfl) rfl rfl shp34 rfl (by decide) rfl rfl fl_SixWalls_Families_22 (zPa hP 37 rfl) ?_
      refine z_getr (rw1 := -11) (ki := 3) (r' := 5) 1 1 (zdec DX2_feud 11 rfl) rfl rfl shp1 rfl (by decide) rfl rfl fl_SixWalls_Families_70 (zPa hP 12 rfl) ?_
      refine z_iload_n 1 (zdec DX2_feud 12 rfl) rfl rfl ?_
      refine z_bipush 6 (zdec DX2_feud 13 rfl) (by decide) ?_
      refine z_imul (zdec DX2_feud 14 rfl) (by unfold z32; omega) ?_
      refine z_iload_n 2 (zdec DX2_feud 15 rfl) rfl rfl ?_
      refine z_iadd (zdec DX2_feud 16 rfl) (by unfold z32; omega) ?_
      refine z_iald 5 (zdec DX2_feud 17 rfl) rfl shp5 ⟨by omega, by omega⟩ ?_
      have en := hG.wat (w := h * 6 + s) (by omega) (by omega)
      have nb := zwat_b (h * 6 + s)
      rw [en]
      refine z_istore_n (L' := [(0, .inr (.inr 34)), (1, .inl h), (2, .inl s), (3, .inl (zwat (h * 6 + s)))]) (zdec DX2_feud 18 rfl) rfl rfl (by decide) ?_
      refine z_aload_n 0 (zdec DX2_feud 19 rfl) rfl rfl (by decide) ?_
      refine z_getr (rw1 := -44) (ki := 0) (r' := 1) 34 2 (zdec DX2_feud 20 rfl) rfl rfl shp34 rfl (by decide) rfl rfl fl_SixWalls_Families_22 (zPa hP 37 rfl) ?_
      refine z_getr (rw1 := -11) (ki := 10) (r' := 12) 1 1 (zdec DX2_feud 21 rfl) rfl rfl shp1 rfl (by decide) rfl rfl fl_SixWalls_Families_44 (zPa hP 19 rfl) ?_
      refine z_iload_n 3 (zdec DX2_feud 22 rfl) rfl rfl ?_
      refine z_iald 12 (zdec DX2_feud 23 rfl) rfl shp12 ⟨by omega, by omega⟩ ?_
      refine z_if_ne 45 (zdec DX2_feud 24 rfl) rfl (fun h39 => ?_) (fun h39 => ?_)
      ·
        refine z_aload_n 0 (zdec DX2_feud 26 rfl) rfl rfl (by decide) ?_
        refine z_getr (rw1 := -44) (ki := 0) (r' := 1) 34 2 (zdec DX2_feud 27 rfl) rfl rfl shp34 rfl (by decide) rfl rfl fl_SixWalls_Families_22 (zPa hP 37 rfl) ?_
        refine z_getr (rw1 := -11) (ki := 10) (r' := 12) 1 1 (zdec DX2_feud 28 rfl) rfl rfl shp1 rfl (by decide) rfl rfl fl_SixWalls_Families_44 (zPa hP 19 rfl) ?_
        refine z_iload_n 3 (zdec DX2_feud 29 rfl) rfl rfl ?_
        refine z_iconst 0 (zdec DX2_feud 30 rfl) (by decide) ?_
        refine z_iast 12 (zdec DX2_feud 31 rfl) rfl shp12 ⟨by omega, by omega⟩ ?_
        exact z_vret (zdec DX2_feud 32 rfl) rfl (⟨rfl, rfl, by have e : zfeud (M 12) h = zwat (h * 6 + s) := (zff_hit (g := fun s => zwat (h * 6 + s)) (p := fun q => M 12 q ≠ 0) (n := zsid h) ⟨hI.1, by omega⟩ (by show zwat (h * 6 + s) ≠ -1; omega) hI.2.2 (by show M 12 (zwat (h * 6 + s)) ≠ 0; omega)); unfold zFam zquarrel; rw [show zfeud (M 7, M 8, M 10, M 12).2.2.2 h = zwat (h * 6 + s) from e, if_neg (by omega)]; simp only [zup_row (show (7 : Int) ≠ 12 by decide), zup_row (show (8 : Int) ≠ 12 by decide), zup_row (show (10 : Int) ≠ 12 by decide), zup_zpu], fun c h0 h1 h2 h3 => by rw [zup_row h3]⟩)
      ·
        refine z_goto 56 (zdec DX2_feud 25 rfl) rfl ?_
        refine z_iinc (L' := [(0, .inr (.inr 34)), (1, .inl h), (2, .inl (s + 1)), (3, .inl (zwat (h * 6 + s)))]) 2 (zdec DX2_feud 33 rfl) rfl (by unfold z32; omega) rfl (by decide) ?_
        refine z_goto 2 (zdec DX2_feud 34 rfl) rfl ?_
        refine z_weak (L' := [(0, .inr (.inr 34)), (1, .inl h), (2, .inl (s + 1))]) (by simp) ?_
        exact ih (s + 1) (by omega) ⟨by omega, by omega, fun j h0 h1 => (by by_cases hj : j = s; (subst hj; omega); (exact hI.2.2 j h0 (by omega)))⟩
set_option maxHeartbeats 4000000 in
theorem cX2_feud {M : zMm} (hP : zP M) (hG : zG M) (h : Int) (hh : 0 ≤ h ∧ h < 16) : zW mX2_feud 1 (fun rv S' M' => S' = zS0 ∧ rv = none ∧ zFm M M' (zquarrel (zFam M) h)) (0, 0) zS0 0 (zargs 0 [.inr (.inr 34), .inl h]) [] M := by
  change zW _ _ _ _ _ 0 [(0, .inr (.inr 34)), (1, .inl h)] [] M
  refine z_iconst 0 (zdec DX2_feud 0 rfl) (by decide) ?_
  refine z_istore_n (L' := [(0, .inr (.inr 34)), (1, .inl h), (2, .inl 0)]) (zdec DX2_feud 1 rfl) rfl rfl (by decide) ?_
  refine lp_X2_feud_2 hP hG h hh (hx62 := fun hx => ?_) _ 0 (Nat.lt_succ_self _) ⟨by omega, (zsid_b h).1, fun j h0 h1 => by omega⟩
  exact z_vret (zdec DX2_feud 35 rfl) rfl (⟨rfl, rfl, by have e : zfeud (M 12) h = -1 := hx; unfold zquarrel; rw [show zfeud (zFam M).2.2.2 h = -1 from e, if_pos (by decide)], fun _ _ _ _ _ => rfl⟩)
set_option maxHeartbeats 4000000 in
theorem cX2_befall {M : zMm} (hP : zP M) (hG : zG M) (hb : zBr (zFam M)) (h d : Int) (hh : 0 ≤ h ∧ h < 16) : zW mX2_befall 2 (fun rv S' M' => S' = zS0 ∧ rv = none ∧ zFm M M' (zbef (zFam M) h d)) (0, 0) zS0 0 (zargs 0 [.inr (.inr 34), .inl h, .inl d]) [] M := by
  change zW _ _ _ _ _ 0 [(0, .inr (.inr 34)), (1, .inl h), (2, .inl d)] [] M
  have hf : 0 ≤ M 8 h ∧ M 8 h ≤ 9 := (hb.1 h hh.1 hh.2).2.1
  refine z_iload_n 2 (zdec DX2_befall 0 rfl) rfl rfl ?_
  refine z_tsw (zdec DX2_befall 1 rfl) (by decide) (fun j off hj he => ?_) (fun hd => ?_)
  · match j, hj, he with
    | 0, hj, he =>
      cases hj
      refine ⟨32, rfl, ?_⟩
      have h1 : d = 0 := by simpa using he
      refine z_aload_n 0 (zdec DX2_befall 2 rfl) rfl rfl (by decide) ?_
      refine z_iload_n 1 (zdec DX2_befall 3 rfl) rfl rfl ?_
      refine z_inv mX2_bear 34 2 [.inl h] (zdec DX2_befall 4 rfl) ml_SixWalls_Families_52 okX2_bear rfl shp34 rfl rfl rfl rfl (Nat.le_of_ble_eq_true rfl) (Nat.le_of_ble_eq_true rfl) (b' := (0, 0)) ⟨Nat.le_refl 0, Nat.le_refl 0⟩ (Nat.le_of_ble_eq_true rfl) (cX2_bear hP hG h hh) (fun rv9 S9 M9 h9 => ?_)
      obtain ⟨rfl, rfl, hc⟩ := h9
      change zW _ _ _ _ _ 37 [(0, .inr (.inr 34)), (1, .inl h), (2, .inl d)] [] M9
      refine z_goto 103 (zdec DX2_befall 5 rfl) rfl ?_
      exact z_vret (zdec DX2_befall 40 rfl) rfl (⟨rfl, rfl, by unfold zbef; rw [if_pos h1]; exact hc⟩)
    | 1, hj, he =>
      cases hj
      refine ⟨40, rfl, ?_⟩
      have h1 : d = 1 := by simpa using he
      refine z_aload_n 0 (zdec DX2_befall 6 rfl) rfl rfl (by decide) ?_
      refine z_iload_n 1 (zdec DX2_befall 7 rfl) rfl rfl ?_
      refine z_inv mX2_feud 34 2 [.inl h] (zdec DX2_befall 8 rfl) ml_SixWalls_Families_56 okX2_feud rfl shp34 rfl rfl rfl rfl (Nat.le_of_ble_eq_true rfl) (Nat.le_of_ble_eq_true rfl) (b' := (0, 0)) ⟨Nat.le_refl 0, Nat.le_refl 0⟩ (Nat.le_of_ble_eq_true rfl) (cX2_feud hP hG h hh) (fun rv9 S9 M9 h9 => ?_)
      obtain ⟨rfl, rfl, hc⟩ := h9
      change zW _ _ _ _ _ 45 [(0, .inr (.inr 34)), (1, .inl h), (2, .inl d)] [] M9
      refine z_goto 103 (zdec DX2_befall 9 rfl) rfl ?_
      exact z_vret (zdec DX2_befall 40 rfl) rfl (⟨rfl, rfl, by unfold zbef; rw [if_neg (by omega), if_pos h1]; exact hc⟩)
    | 2, hj, he =>
      cases hj
      refine ⟨48, rfl, ?_⟩
      have h1 : d = 2 := by simpa using he
      refine z_aload_n 0 (zdec DX2_befall 10 rfl) rfl rfl (by decide) ?_
      refine z_getr (rw1 := -44) (ki := 0) (r' := 1) 34 2 (zdec DX2_befall 11 rfl) rfl rfl shp34 rfl (by decide) rfl rfl fl_SixWalls_Families_22 (zPa hP 37 rfl) ?_
      refine z_getr (rw1 := -11) (ki := 6) (r' := 8) 1 1 (zdec DX2_befall 12 rfl) rfl rfl shp1 rfl (by decide) rfl rfl fl_SixWalls_Families_59 (zPa hP 15 rfl) ?_
      refine z_iload_n 1 (zdec DX2_befall 13 rfl) rfl rfl ?_
      refine z_bipush 9 (zdec DX2_befall 14 rfl) (by decide) ?_
      refine z_aload_n 0 (zdec DX2_befall 15 rfl) rfl rfl (by decide) ?_
      refine z_getr (rw1 := -44) (ki := 0) (r' := 1) 34 2 (zdec DX2_befall 16 rfl) rfl rfl shp34 rfl (by decide) rfl rfl fl_SixWalls_Families_22 (zPa hP 37 rfl) ?_
      refine z_getr (rw1 := -11) (ki := 6) (r' := 8) 1 1 (zdec DX2_befall 17 rfl) rfl rfl shp1 rfl (by decide) rfl rfl fl_SixWalls_Families_59 (zPa hP 15 rfl) ?_
      refine z_iload_n 1 (zdec DX2_befall 18 rfl) rfl rfl ?_
      refine z_iald 8 (zdec DX2_befall 19 rfl) rfl shp8 ⟨by omega, by omega⟩ ?_
      refine z_iconst 1 (zdec DX2_befall 20 rfl) (by decide) ?_
      refine z_iadd (zdec DX2_befall 21 rfl) (by unfold z32; omega) ?_
      refine z_mmin (zdec DX2_befall 22 rfl) ml_SixWalls_Families_62 (by decide) (Nat.le_of_ble_eq_true rfl) ?_
      refine z_iast 8 (zdec DX2_befall 23 rfl) rfl shp8 ⟨by omega, by omega⟩ ?_
      refine z_goto 103 (zdec DX2_befall 24 rfl) rfl ?_
      exact z_vret (zdec DX2_befall 40 rfl) rfl (⟨rfl, rfl, by unfold zbef; rw [if_neg (show ¬ d = 0 by omega), if_neg (show ¬ d = 1 by omega), if_pos h1]; unfold zFam; simp only [zup_row (show (7 : Int) ≠ 8 by decide), zup_row (show (12 : Int) ≠ 8 by decide), zup_row (show (10 : Int) ≠ 8 by decide), zup_zpu], fun c h0 h1 h2 h3 => by rw [zup_row h1]⟩)
    | 3, hj, he =>
      cases hj
      refine ⟨76, rfl, ?_⟩
      have h1 : d = 3 := by simpa using he
      refine z_aload_n 0 (zdec DX2_befall 25 rfl) rfl rfl (by decide) ?_
      refine z_getr (rw1 := -44) (ki := 0) (r' := 1) 34 2 (zdec DX2_befall 26 rfl) rfl rfl shp34 rfl (by decide) rfl rfl fl_SixWalls_Families_22 (zPa hP 37 rfl) ?_
      refine z_getr (rw1 := -11) (ki := 6) (r' := 8) 1 1 (zdec DX2_befall 27 rfl) rfl rfl shp1 rfl (by decide) rfl rfl fl_SixWalls_Families_59 (zPa hP 15 rfl) ?_
      refine z_iload_n 1 (zdec DX2_befall 28 rfl) rfl rfl ?_
      refine z_iconst 0 (zdec DX2_befall 29 rfl) (by decide) ?_
      refine z_aload_n 0 (zdec DX2_befall 30 rfl) rfl rfl (by decide) ?_
      refine z_getr (rw1 := -44) (ki := 0) (r' := 1) 34 2 (zdec DX2_befall 31 rfl) rfl rfl shp34 rfl (by decide) rfl rfl fl_SixWalls_Families_22 (zPa hP 37 rfl) ?_
      refine z_getr (rw1 := -11) (ki := 6) (r' := 8) 1 1 (zdec DX2_befall 32 rfl) rfl rfl shp1 rfl (by decide) rfl rfl fl_SixWalls_Families_59 (zPa hP 15 rfl) ?_
      refine z_iload_n 1 (zdec DX2_befall 33 rfl) rfl rfl ?_
      refine z_iald 8 (zdec DX2_befall 34 rfl) rfl shp8 ⟨by omega, by omega⟩ ?_
      refine z_iconst 1 (zdec DX2_befall 35 rfl) (by decide) ?_
      refine z_isub (zdec DX2_befall 36 rfl) (by unfold z32; omega) ?_
      refine z_mmax (zdec DX2_befall 37 rfl) ml_SixWalls_Families_67 (by decide) (Nat.le_of_ble_eq_true rfl) ?_
      refine z_iast 8 (zdec DX2_befall 38 rfl) rfl shp8 ⟨by omega, by omega⟩ ?_
      refine z_goto 103 (zdec DX2_befall 39 rfl) rfl ?_
      exact z_vret (zdec DX2_befall 40 rfl) rfl (⟨rfl, rfl, by unfold zbef; rw [if_neg (show ¬ d = 0 by omega), if_neg (show ¬ d = 1 by omega), if_neg (show ¬ d = 2 by omega), if_pos h1]; unfold zFam; simp only [zup_row (show (7 : Int) ≠ 8 by decide), zup_row (show (12 : Int) ≠ 8 by decide), zup_row (show (10 : Int) ≠ 8 by decide), zup_zpu], fun c h0 h1 h2 h3 => by rw [zup_row h1]⟩)
    | j + 4, hj, he => exact absurd (List.getElem?_eq_some_iff.mp hj).1 (by simp)
  · refine ⟨103, rfl, ?_⟩
    exact z_vret (zdec DX2_befall 40 rfl) rfl (⟨rfl, rfl, by unfold zbef; rw [if_neg (by omega), if_neg (by omega), if_neg (by omega), if_neg (by omega)], fun _ _ _ _ _ => rfl⟩)
theorem zFm_tr {M M1 M2 : zMm} {b : zB} (h : ∀ c : Int, c ≠ 7 → c ≠ 8 → c ≠ 10 → c ≠ 12 → M1 c = M c) (h2 : zFm M1 M2 b) : ∀ c : Int, c ≠ 7 → c ≠ 8 → c ≠ 10 → c ≠ 12 → M2 c = M c := fun c h0 h1 h3 h4 => (h2.2 c h0 h1 h3 h4).trans (h c h0 h1 h3 h4)
set_option maxHeartbeats 4000000 in
theorem lp_X2_grow_14 {Q : zPost} {M M2 : zMm} (hP : zP M) (hG : zG M) (x0 ny y : Int) (hP2 : zP M2) (hG2 : zG M2) (hB : zBr (zFam M2)) (hF : ∀ c : Int, c ≠ 7 → c ≠ 8 → c ≠ 10 → c ≠ 12 → M2 c = M c) (hx65 : ∀ (x1 : Int) (M3 : zMm), ((zFam M3, x1) = zfo zyear (zFam M2, x0) 16 ∧ zBr (zFam M3) ∧ ∀ c : Int, c ≠ 7 → c ≠ 8 → c ≠ 10 → c ≠ 12 → M3 c = M c) → zW mX2_grow 3 Q (0, 0) zS0 65 [(0, .inr (.inr 34)), (2, .inl ny), (3, .inl x1), (4, .inl y)] [] M3) : ∀ (n : Nat) (x : Int) (h : Int) (M3 : zMm), (16 - h).toNat < n → (0 ≤ h ∧ h ≤ 16 ∧ (zFam M3, x) = zfo zyear (zFam M2, x0) h ∧ zBr (zFam M3) ∧ ∀ c : Int, c ≠ 7 → c ≠ 8 → c ≠ 10 → c ≠ 12 → M3 c = M c) → zW mX2_grow 3 Q (0, 0) zS0 14 [(0, .inr (.inr 34)), (2, .inl ny), (3, .inl x), (4, .inl y), (5, .inl h)] [] M3 := by
  intro n
  induction n with
  | zero => intro x h M3 hn; exact absurd hn (Nat.not_lt_zero _)
  | succ n ih =>
    intro x h M3 hn hI
    obtain ⟨hI1, hI2, hq1, hq4, hq5⟩ := hI
    have hq3 : zFam M3 = zFam M3 := rfl
    have hP2 : zP M3 := zP_of hP fun r hr => hq5 r (by omega) (by omega) (by omega) (by omega)
    have hG2 : zG M3 := zG_of hG fun c h0 h1 => hq5 c (by omega) (by omega) (by omega) (by omega)
    refine z_iload 4 (zdec DX2_grow 9 rfl) rfl ?_
    refine z_bipush 16 (zdec DX2_grow 10 rfl) (by decide) ?_
    refine z_icmp_ge 65 (zdec DX2_grow 11 rfl) rfl (fun h18 => ?_) (fun h18 => ?_)
    ·
      refine z_weak (L' := [(0, .inr (.inr 34)), (2, .inl ny), (3, .inl x), (4, .inl y)]) (by simp) ?_
      exact hx65 x M3 ⟨by rw [show (16 : Int) = h by omega]; exact hq1, hq4, hq5⟩
    ·
      refine z_aload_n 0 (zdec DX2_grow 12 rfl) rfl rfl (by decide) ?_
      refine z_getr (rw1 := -44) (ki := 0) (r' := 1) 34 2 (zdec DX2_grow 13 rfl) rfl rfl shp34 rfl (by decide) rfl rfl fl_SixWalls_Families_22 (zPa hP2 37 rfl) ?_
      refine z_getr (rw1 := -11) (ki := 5) (r' := 7) 1 1 (zdec DX2_grow 14 rfl) rfl rfl shp1 rfl (by decide) rfl rfl fl_SixWalls_Families_34 (zPa hP2 14 rfl) ?_
      refine z_iload 4 (zdec DX2_grow 15 rfl) rfl ?_
      refine z_iald 7 (zdec DX2_grow 16 rfl) rfl shp7 ⟨by omega, by omega⟩ ?_
      refine z_if_ne 37 (zdec DX2_grow 17 rfl) rfl (fun h31 => ?_) (fun h31 => ?_)
      ·
        refine z_iload_n 2 (zdec DX2_grow 19 rfl) rfl rfl ?_
        refine z_ldc 1103515245 (zdec DX2_grow 20 rfl) kc_SixWalls_Families_47 rfl ⟨by decide, by decide⟩ ?_
        refine z_imulw (zdec DX2_grow 21 rfl) ?_
        refine z_sipush 12345 (zdec DX2_grow 22 rfl) (by decide) ?_
        refine z_iaddw (zdec DX2_grow 23 rfl) ?_
        refine z_istore_n (L' := [(0, .inr (.inr 34)), (2, .inl ny), (3, .inl (zw ((zw (x * 1103515245)) + 12345))), (4, .inl y), (5, .inl h)]) (zdec DX2_grow 24 rfl) rfl rfl (by decide) ?_
        refine z_aload_n 0 (zdec DX2_grow 25 rfl) rfl rfl (by decide) ?_
        refine z_iload 4 (zdec DX2_grow 26 rfl) rfl ?_
        refine z_iload_n 2 (zdec DX2_grow 27 rfl) rfl rfl ?_
        refine z_bipush 8 (zdec DX2_grow 28 rfl) (by decide) ?_
        refine z_iushr (zdec DX2_grow 29 rfl) ?_
        refine z_bipush 12 (zdec DX2_grow 30 rfl) (by decide) ?_
        refine z_iremw (zdec DX2_grow 31 rfl) (by decide) ?_
        refine z_inv mX2_befall 34 2 [.inl h, .inl (zw (Int.tmod (zushr (zw ((zw (x * 1103515245)) + 12345)) 8) 12))] (zdec DX2_grow 32 rfl) ml_SixWalls_Families_48 okX2_befall rfl shp34 rfl rfl rfl rfl (Nat.le_of_ble_eq_true rfl) (Nat.le_of_ble_eq_true rfl) (b' := (0, 0)) ⟨Nat.le_refl 0, Nat.le_refl 0⟩ (Nat.le_of_ble_eq_true rfl) (cX2_befall hP2 hG2 (by rw [hq3]; exact hq4) h (zw (Int.tmod (zushr (zw ((zw (x * 1103515245)) + 12345)) 8) 12)) ⟨by omega, by omega⟩) (fun rv9 S9 M56 h9 => ?_)
        obtain ⟨rfl, rfl, hc⟩ := h9
        change zW _ _ _ _ _ 59 [(0, .inr (.inr 34)), (2, .inl ny), (3, .inl (zw ((zw (x * 1103515245)) + 12345))), (4, .inl y), (5, .inl h)] [] M56
        refine z_iinc (L' := [(0, .inr (.inr 34)), (2, .inl ny), (3, .inl (zw ((zw (x * 1103515245)) + 12345))), (4, .inl y), (5, .inl (h + 1))]) 4 (zdec DX2_grow 33 rfl) rfl (by unfold z32; omega) rfl (by decide) ?_
        refine z_goto 14 (zdec DX2_grow 34 rfl) rfl ?_
        exact ih (zw ((zw (x * 1103515245)) + 12345)) (h + 1) M56 (by omega) ⟨by omega, by omega, by rw [zfo_s _ _ (by omega), ← hq1]; unfold zyear; rw [if_neg (show ¬ (zFam M3, x).1.1 h = 0 from (by show ¬ M3 7 h = 0; omega)), hc.1]; rfl, by rw [hc.1]; exact zBr_bef hq4 ⟨by omega, by omega⟩ _, zFm_tr hq5 hc⟩
      ·
        refine z_goto 59 (zdec DX2_grow 18 rfl) rfl ?_
        refine z_iinc (L' := [(0, .inr (.inr 34)), (2, .inl ny), (3, .inl x), (4, .inl y), (5, .inl (h + 1))]) 4 (zdec DX2_grow 33 rfl) rfl (by unfold z32; omega) rfl (by decide) ?_
        refine z_goto 14 (zdec DX2_grow 34 rfl) rfl ?_
        exact ih x (h + 1) M3 (by omega) ⟨by omega, by omega, by rw [zfo_s _ _ (by omega), ← hq1]; unfold zyear; rw [if_pos (show (zFam M3, x).1.1 h = 0 from (by show M3 7 h = 0; omega))], hq4, hq5⟩
set_option maxHeartbeats 4000000 in
theorem lp_X2_grow_5 {Q : zPost} {M : zMm} (hP : zP M) (hG : zG M) (hR : zRg M) (z ny : Int) (hny : ny ≤ 20) (hx71 : ∀ (M2 : zMm), (zFm M M2 (zgrow (zFam M, z) ny).1 ∧ zBr (zgrow (zFam M, z) ny).1) → zW mX2_grow 3 Q (0, 0) zS0 71 [] [] M2) : ∀ (n : Nat) (x : Int) (y : Int) (M2 : zMm), (ny - y).toNat < n → ((0 ≤ y ∧ (y ≤ ny ∨ y = 0)) ∧ (zFam M2, x) = zgrow (zFam M, z) y ∧ zBr (zFam M2) ∧ True ∧ ∀ c : Int, c ≠ 7 → c ≠ 8 → c ≠ 10 → c ≠ 12 → M2 c = M c) → zW mX2_grow 3 Q (0, 0) zS0 5 [(0, .inr (.inr 34)), (2, .inl ny), (3, .inl x), (4, .inl y)] [] M2 := by
  intro n
  induction n with
  | zero => intro x y M2 hn; exact absurd hn (Nat.not_lt_zero _)
  | succ n ih =>
    intro x y M2 hn hI
    obtain ⟨hI1, hI2, hI3, hI4, hI5⟩ := hI
    have hP2 : zP M2 := zP_of hP fun r hr => hI5 r (by omega) (by omega) (by omega) (by omega)
    have hG2 : zG M2 := zG_of hG fun c h0 h1 => hI5 c (by omega) (by omega) (by omega) (by omega)
    refine z_iload 3 (zdec DX2_grow 4 rfl) rfl ?_
    refine z_iload_n 1 (zdec DX2_grow 5 rfl) rfl rfl ?_
    refine z_icmp_ge 71 (zdec DX2_grow 6 rfl) rfl (fun h8 => ?_) (fun h8 => ?_)
    ·
      refine z_weak (L' := []) (by simp) ?_
      exact hx71 M2 (by have e : (zgrow (zFam M, z) ny) = (zFam M2, x) := (by rw [hI2]; by_cases hy : y = ny; (rw [hy]); (have : y = 0 := (by omega); unfold zgrow zfo; rw [show ny.toNat = y.toNat by omega])); rw [e]; exact ⟨⟨rfl, hI5⟩, hI3⟩)
    ·
      refine z_iconst 0 (zdec DX2_grow 7 rfl) (by decide) ?_
      refine z_istore (L' := [(0, .inr (.inr 34)), (2, .inl ny), (3, .inl x), (4, .inl y), (5, .inl 0)]) (zdec DX2_grow 8 rfl) rfl (by decide) ?_
      refine lp_X2_grow_14 hP hG x ny y hP2 hG2 hI3 hI5 (hx65 := fun x1 M3 hx => ?_) _ x 0 M2 (Nat.lt_succ_self _) ⟨by omega, by omega, rfl, hI3, hI5⟩
      refine z_iinc (L' := [(0, .inr (.inr 34)), (2, .inl ny), (3, .inl x1), (4, .inl (y + 1))]) 3 (zdec DX2_grow 35 rfl) rfl (by unfold z32; omega) rfl (by decide) ?_
      refine z_goto 5 (zdec DX2_grow 36 rfl) rfl ?_
      exact ih x1 (y + 1) M3 (by omega) ⟨by omega, by rw [hx.1]; unfold zgrow; rw [zfo_s _ _ (by omega)]; show _ = zfo zyear (zgrow (zFam M, z) y) 16; rw [← hI2], hx.2.1, trivial, hx.2.2⟩
set_option maxHeartbeats 4000000 in
theorem cX2_grow {M : zMm} (hP : zP M) (hG : zG M) (hR : zRg M) (z ny : Int) (hny : ny ≤ 20) : zW mX2_grow 3 (fun rv S' M' => S' = zS0 ∧ rv = none ∧ zFm M M' (zgrow (zFam M, z) ny).1 ∧ zBr (zgrow (zFam M, z) ny).1) (0, 0) zS0 0 (zargs 0 [.inr (.inr 34), .inl z, .inl ny]) [] M := by
  change zW _ _ _ _ _ 0 [(0, .inr (.inr 34)), (1, .inl z), (2, .inl ny)] [] M
  refine z_iload_n 1 (zdec DX2_grow 0 rfl) rfl rfl ?_
  refine z_istore_n (L' := [(0, .inr (.inr 34)), (1, .inl z), (2, .inl ny), (3, .inl z)]) (zdec DX2_grow 1 rfl) rfl rfl (by decide) ?_
  refine z_iconst 0 (zdec DX2_grow 2 rfl) (by decide) ?_
  refine z_istore (L' := [(0, .inr (.inr 34)), (1, .inl z), (2, .inl ny), (3, .inl z), (4, .inl 0)]) (zdec DX2_grow 3 rfl) rfl (by decide) ?_
  refine z_weak (L' := [(0, .inr (.inr 34)), (2, .inl ny), (3, .inl z), (4, .inl 0)]) (by simp) ?_
  refine lp_X2_grow_5 hP hG hR z ny hny (hx71 := fun M2 hx => ?_) _ z 0 M (Nat.lt_succ_self _) ⟨by omega, rfl, zBr_of hR, trivial, fun _ _ _ _ _ => rfl⟩
  exact z_vret (zdec DX2_grow 37 rfl) rfl (⟨rfl, rfl, hx.1, hx.2⟩)
theorem zwb_lt (a b : Int) : zwb a b < 33 := by
  unfold zwb
  split
  · rename_i w hw
    have := List.mem_range.mp (List.mem_of_find?_eq_some hw)
    omega
  · decide
set_option maxHeartbeats 4000000 in
theorem cX2_takeIn {M : zMm} (hP : zP M) (hG : zG M) (h q : Int) (hh : 0 ≤ h ∧ h < 16) (hq : 0 ≤ q ∧ q < 16) : zW mX2_takeIn 2 (fun rv S' M' => S' = zS0 ∧ rv = none ∧ zFm M M' (zpu (M 7) h 1, M 8, zpu (M 10) h (M 10 q), if 0 ≤ zwb h q then zpu (M 12) (zwb h q) 1 else M 12)) (0, 0) zS0 0 (zargs 0 [.inr (.inr 34), .inl h, .inl q]) [] M := by
  change zW _ _ _ _ _ 0 [(0, .inr (.inr 34)), (1, .inl h), (2, .inl q)] [] M
  refine z_aload_n 0 (zdec DX2_takeIn 0 rfl) rfl rfl (by decide) ?_
  refine z_getr (rw1 := -44) (ki := 0) (r' := 1) 34 2 (zdec DX2_takeIn 1 rfl) rfl rfl shp34 rfl (by decide) rfl rfl fl_SixWalls_Families_22 (zPa hP 37 rfl) ?_
  refine z_getr (rw1 := -11) (ki := 5) (r' := 7) 1 1 (zdec DX2_takeIn 2 rfl) rfl rfl shp1 rfl (by decide) rfl rfl fl_SixWalls_Families_34 (zPa hP 14 rfl) ?_
  refine z_iload_n 1 (zdec DX2_takeIn 3 rfl) rfl rfl ?_
  refine z_iconst 1 (zdec DX2_takeIn 4 rfl) (by decide) ?_
  refine z_iast 7 (zdec DX2_takeIn 5 rfl) rfl shp7 ⟨by omega, by omega⟩ ?_
  refine z_aload_n 0 (zdec DX2_takeIn 6 rfl) rfl rfl (by decide) ?_
  refine z_getr (rw1 := -44) (ki := 0) (r' := 1) 34 2 (zdec DX2_takeIn 7 rfl) rfl rfl shp34 rfl (by decide) rfl rfl fl_SixWalls_Families_22 (zPa (zP_up hP (by decide)) 37 rfl) ?_
  refine z_getr (rw1 := -11) (ki := 8) (r' := 10) 1 1 (zdec DX2_takeIn 8 rfl) rfl rfl shp1 rfl (by decide) rfl rfl fl_SixWalls_Families_37 (zPa (zP_up hP (by decide)) 17 rfl) ?_
  refine z_iload_n 1 (zdec DX2_takeIn 9 rfl) rfl rfl ?_
  refine z_aload_n 0 (zdec DX2_takeIn 10 rfl) rfl rfl (by decide) ?_
  refine z_getr (rw1 := -44) (ki := 0) (r' := 1) 34 2 (zdec DX2_takeIn 11 rfl) rfl rfl shp34 rfl (by decide) rfl rfl fl_SixWalls_Families_22 (zPa (zP_up hP (by decide)) 37 rfl) ?_
  refine z_getr (rw1 := -11) (ki := 8) (r' := 10) 1 1 (zdec DX2_takeIn 12 rfl) rfl rfl shp1 rfl (by decide) rfl rfl fl_SixWalls_Families_37 (zPa (zP_up hP (by decide)) 17 rfl) ?_
  refine z_iload_n 2 (zdec DX2_takeIn 13 rfl) rfl rfl ?_
  refine z_iald 10 (zdec DX2_takeIn 14 rfl) rfl shp10 ⟨by omega, by omega⟩ ?_
  rw [show (zup M 7 h 1) 10 q = M 10 q from by simp [zup, zcpy]]
  refine z_iast 10 (zdec DX2_takeIn 15 rfl) rfl shp10 ⟨by omega, by omega⟩ ?_
  refine z_aload_n 0 (zdec DX2_takeIn 16 rfl) rfl rfl (by decide) ?_
  refine z_getr (rw1 := -44) (ki := 0) (r' := 1) 34 2 (zdec DX2_takeIn 17 rfl) rfl rfl shp34 rfl (by decide) rfl rfl fl_SixWalls_Families_22 (zPa (zP_up (zP_up hP (by decide)) (by decide)) 37 rfl) ?_
  refine z_iload_n 1 (zdec DX2_takeIn 18 rfl) rfl rfl ?_
  refine z_iload_n 2 (zdec DX2_takeIn 19 rfl) rfl rfl ?_
  refine z_inv mX1_wallBetween 1 1 [.inl h, .inl q] (zdec DX2_takeIn 20 rfl) ml_SixWalls_Families_40 okX1_wallBetween rfl shp1 rfl rfl rfl rfl (Nat.le_of_ble_eq_true rfl) (Nat.le_of_ble_eq_true rfl) (b' := (0, 0)) ⟨Nat.le_refl 0, Nat.le_refl 0⟩ (Nat.le_of_ble_eq_true rfl) (cX1_wallBetween (zP_up (zP_up hP (by decide)) (by decide)) (zG_of hG fun c h0 h1 => by rw [zup_row (by omega), zup_row (by omega)]) h q hh hq) (fun rv9 S9 M34 h9 => ?_)
  obtain ⟨rfl, e34, rfl⟩ := h9
  subst e34
  change zW _ _ _ _ _ 37 [(0, .inr (.inr 34)), (1, .inl h), (2, .inl q)] [.inl (zwb h q)] (zup (zup M 7 h 1) 10 h (M 10 q))
  refine z_istore_n (L' := [(0, .inr (.inr 34)), (1, .inl h), (2, .inl q), (3, .inl (zwb h q))]) (zdec DX2_takeIn 21 rfl) rfl rfl (by decide) ?_
  refine z_iload_n 3 (zdec DX2_takeIn 22 rfl) rfl rfl ?_
  refine z_if_lt 52 (zdec DX2_takeIn 23 rfl) rfl (fun h39 => ?_) (fun h39 => ?_)
  ·
    exact z_vret (zdec DX2_takeIn 30 rfl) rfl (⟨rfl, rfl, by unfold zFam; rw [if_neg (by omega)]; simp only [zup_row (show (7 : Int) ≠ 10 by decide), zup_row (show (8 : Int) ≠ 10 by decide), zup_row (show (8 : Int) ≠ 7 by decide), zup_row (show (12 : Int) ≠ 10 by decide), zup_row (show (12 : Int) ≠ 7 by decide), zup_zpu, zup_row (show (10 : Int) ≠ 7 by decide)], fun c h0 h1 h2 h3 => by rw [zup_row h2, zup_row h0]⟩)
  ·
    refine z_aload_n 0 (zdec DX2_takeIn 24 rfl) rfl rfl (by decide) ?_
    refine z_getr (rw1 := -44) (ki := 0) (r' := 1) 34 2 (zdec DX2_takeIn 25 rfl) rfl rfl shp34 rfl (by decide) rfl rfl fl_SixWalls_Families_22 (zPa (zP_up (zP_up hP (by decide)) (by decide)) 37 rfl) ?_
    refine z_getr (rw1 := -11) (ki := 10) (r' := 12) 1 1 (zdec DX2_takeIn 26 rfl) rfl rfl shp1 rfl (by decide) rfl rfl fl_SixWalls_Families_44 (zPa (zP_up (zP_up hP (by decide)) (by decide)) 19 rfl) ?_
    have hwb : 0 ≤ zwb h q ∧ zwb h q < 33 := ⟨by omega, zwb_lt h q⟩
    refine z_iload_n 3 (zdec DX2_takeIn 27 rfl) rfl rfl ?_
    refine z_iconst 1 (zdec DX2_takeIn 28 rfl) (by decide) ?_
    refine z_iast 12 (zdec DX2_takeIn 29 rfl) rfl shp12 ⟨by omega, by omega⟩ ?_
    exact z_vret (zdec DX2_takeIn 30 rfl) rfl (⟨rfl, rfl, by unfold zFam; rw [if_pos (by omega)]; simp only [zup_row (show (7 : Int) ≠ 12 by decide), zup_row (show (8 : Int) ≠ 12 by decide), zup_row (show (10 : Int) ≠ 12 by decide), zup_row (show (7 : Int) ≠ 10 by decide), zup_row (show (8 : Int) ≠ 10 by decide), zup_row (show (8 : Int) ≠ 7 by decide), zup_row (show (12 : Int) ≠ 10 by decide), zup_row (show (12 : Int) ≠ 7 by decide), zup_zpu, zup_row (show (10 : Int) ≠ 7 by decide)], fun c h0 h1 h2 h3 => by rw [zup_row h3, zup_row h2, zup_row h0]⟩)
set_option maxHeartbeats 4000000 in
theorem cX2_keepImage {M : zMm} (hP : zP M) : zW mX2_keepImage 1 (fun rv S' M' => S' = zS0 ∧ rv = none ∧ M' = zup (zcpy (zcpy M 9 0 35 0 16) 7 0 36 0 16) 34 3 1) (0, 0) zS0 0 (zargs 0 [.inr (.inr 34)]) [] M := by
  change zW _ _ _ _ _ 0 [(0, .inr (.inr 34))] [] M
  refine z_aload_n 0 (zdec DX2_keepImage 0 rfl) rfl rfl (by decide) ?_
  refine z_getr (rw1 := -44) (ki := 0) (r' := 1) 34 2 (zdec DX2_keepImage 1 rfl) rfl rfl shp34 rfl (by decide) rfl rfl fl_SixWalls_Families_22 (zPa hP 37 rfl) ?_
  refine z_getr (rw1 := -11) (ki := 7) (r' := 9) 1 1 (zdec DX2_keepImage 2 rfl) rfl rfl shp1 rfl (by decide) rfl rfl fl_SixWalls_Families_73 (zPa hP 16 rfl) ?_
  refine z_iconst 0 (zdec DX2_keepImage 3 rfl) (by decide) ?_
  refine z_aload_n 0 (zdec DX2_keepImage 4 rfl) rfl rfl (by decide) ?_
  refine z_getr (rw1 := -44) (ki := 1) (r' := 35) 34 2 (zdec DX2_keepImage 5 rfl) rfl rfl shp34 rfl (by decide) rfl rfl fl_SixWalls_Families_9 (zPa hP 38 rfl) ?_
  refine z_iconst 0 (zdec DX2_keepImage 6 rfl) (by decide) ?_
  refine z_bipush 16 (zdec DX2_keepImage 7 rfl) (by decide) ?_
  refine z_copyi 9 35 (zdec DX2_keepImage 8 rfl) ml_SixWalls_Families_76 zcp1 zcp2 zcp3 rfl rfl shp9 shp35 ⟨by omega, by omega, by omega⟩ ⟨by omega, by omega⟩ (by decide) rfl ?_
  refine z_aload_n 0 (zdec DX2_keepImage 9 rfl) rfl rfl (by decide) ?_
  refine z_getr (rw1 := -44) (ki := 0) (r' := 1) 34 2 (zdec DX2_keepImage 10 rfl) rfl rfl shp34 rfl (by decide) rfl rfl fl_SixWalls_Families_22 (zPa (zP_cpy hP (by decide)) 37 rfl) ?_
  refine z_getr (rw1 := -11) (ki := 5) (r' := 7) 1 1 (zdec DX2_keepImage 11 rfl) rfl rfl shp1 rfl (by decide) rfl rfl fl_SixWalls_Families_34 (zPa (zP_cpy hP (by decide)) 14 rfl) ?_
  refine z_iconst 0 (zdec DX2_keepImage 12 rfl) (by decide) ?_
  refine z_aload_n 0 (zdec DX2_keepImage 13 rfl) rfl rfl (by decide) ?_
  refine z_getr (rw1 := -44) (ki := 2) (r' := 36) 34 2 (zdec DX2_keepImage 14 rfl) rfl rfl shp34 rfl (by decide) rfl rfl fl_SixWalls_Families_15 (zPa (zP_cpy hP (by decide)) 39 rfl) ?_
  refine z_iconst 0 (zdec DX2_keepImage 15 rfl) (by decide) ?_
  refine z_bipush 16 (zdec DX2_keepImage 16 rfl) (by decide) ?_
  refine z_copyi 7 36 (zdec DX2_keepImage 17 rfl) ml_SixWalls_Families_76 zcp1 zcp2 zcp3 rfl rfl shp7 shp36 ⟨by omega, by omega, by omega⟩ ⟨by omega, by omega⟩ (by decide) rfl ?_
  refine z_aload_n 0 (zdec DX2_keepImage 18 rfl) rfl rfl (by decide) ?_
  refine z_iconst 1 (zdec DX2_keepImage 19 rfl) (by decide) ?_
  refine z_putz (ki := 3) 34 2 (zdec DX2_keepImage 20 rfl) rfl shp34 rfl (by decide) rfl rfl fl_SixWalls_Families_18 (Or.inl rfl) (by omega) ?_
  exact z_vret (zdec DX2_keepImage 21 rfl) rfl (⟨rfl, rfl, rfl⟩)
set_option maxHeartbeats 4000000 in
theorem cX2_layBack {M : zMm} (hP : zP M) : zW mX2_layBack 1 (fun rv S' M' => S' = zS0 ∧ ((M 34 3 = 0 ∧ rv = some (.inl 0) ∧ M = M') ∨ (M 34 3 ≠ 0 ∧ rv = some (.inl 1) ∧ M' = zcpy (zcpy M 35 0 9 0 16) 36 0 7 0 16))) (0, 0) zS0 0 (zargs 0 [.inr (.inr 34)]) [] M := by
  change zW _ _ _ _ _ 0 [(0, .inr (.inr 34))] [] M
  refine z_aload_n 0 (zdec DX2_layBack 0 rfl) rfl rfl (by decide) ?_
  refine z_geti (ki := 3) 34 2 (zdec DX2_layBack 1 rfl) rfl shp34 rfl (by decide) rfl rfl fl_SixWalls_Families_18 ?_
  refine z_if_ne 9 (zdec DX2_layBack 2 rfl) rfl (fun h4 => ?_) (fun h4 => ?_)
  ·
    refine z_aload_n 0 (zdec DX2_layBack 5 rfl) rfl rfl (by decide) ?_
    refine z_getr (rw1 := -44) (ki := 1) (r' := 35) 34 2 (zdec DX2_layBack 6 rfl) rfl rfl shp34 rfl (by decide) rfl rfl fl_SixWalls_Families_9 (zPa hP 38 rfl) ?_
    refine z_iconst 0 (zdec DX2_layBack 7 rfl) (by decide) ?_
    refine z_aload_n 0 (zdec DX2_layBack 8 rfl) rfl rfl (by decide) ?_
    refine z_getr (rw1 := -44) (ki := 0) (r' := 1) 34 2 (zdec DX2_layBack 9 rfl) rfl rfl shp34 rfl (by decide) rfl rfl fl_SixWalls_Families_22 (zPa hP 37 rfl) ?_
    refine z_getr (rw1 := -11) (ki := 7) (r' := 9) 1 1 (zdec DX2_layBack 10 rfl) rfl rfl shp1 rfl (by decide) rfl rfl fl_SixWalls_Families_73 (zPa hP 16 rfl) ?_
    refine z_iconst 0 (zdec DX2_layBack 11 rfl) (by decide) ?_
    refine z_bipush 16 (zdec DX2_layBack 12 rfl) (by decide) ?_
    refine z_copyi 35 9 (zdec DX2_layBack 13 rfl) ml_SixWalls_Families_76 zcp1 zcp2 zcp3 rfl rfl shp35 shp9 ⟨by omega, by omega, by omega⟩ ⟨by omega, by omega⟩ (by decide) rfl ?_
    refine z_aload_n 0 (zdec DX2_layBack 14 rfl) rfl rfl (by decide) ?_
    refine z_getr (rw1 := -44) (ki := 2) (r' := 36) 34 2 (zdec DX2_layBack 15 rfl) rfl rfl shp34 rfl (by decide) rfl rfl fl_SixWalls_Families_15 (zPa (zP_cpy hP (by decide)) 39 rfl) ?_
    refine z_iconst 0 (zdec DX2_layBack 16 rfl) (by decide) ?_
    refine z_aload_n 0 (zdec DX2_layBack 17 rfl) rfl rfl (by decide) ?_
    refine z_getr (rw1 := -44) (ki := 0) (r' := 1) 34 2 (zdec DX2_layBack 18 rfl) rfl rfl shp34 rfl (by decide) rfl rfl fl_SixWalls_Families_22 (zPa (zP_cpy hP (by decide)) 37 rfl) ?_
    refine z_getr (rw1 := -11) (ki := 5) (r' := 7) 1 1 (zdec DX2_layBack 19 rfl) rfl rfl shp1 rfl (by decide) rfl rfl fl_SixWalls_Families_34 (zPa (zP_cpy hP (by decide)) 14 rfl) ?_
    refine z_iconst 0 (zdec DX2_layBack 20 rfl) (by decide) ?_
    refine z_bipush 16 (zdec DX2_layBack 21 rfl) (by decide) ?_
    refine z_copyi 36 7 (zdec DX2_layBack 22 rfl) ml_SixWalls_Families_76 zcp1 zcp2 zcp3 rfl rfl shp36 shp7 ⟨by omega, by omega, by omega⟩ ⟨by omega, by omega⟩ (by decide) rfl ?_
    refine z_iconst 1 (zdec DX2_layBack 23 rfl) (by decide) ?_
    exact z_zret (zdec DX2_layBack 24 rfl) rfl (by omega) (⟨rfl, Or.inr ⟨h4, rfl, rfl⟩⟩)
  ·
    refine z_iconst 0 (zdec DX2_layBack 3 rfl) (by decide) ?_
    exact z_zret (zdec DX2_layBack 4 rfl) rfl (by omega) (⟨rfl, Or.inl ⟨by omega, rfl, rfl⟩⟩)
theorem zsum7 {T : Int → Int} (h : ∀ i : Int, 0 ≤ i → i < 16 → 0 ≤ T i ∧ T i ≤ 1) (k : Int) : ∀ i : Int, 0 ≤ i → i < 16 → 0 ≤ zpu T k 0 i ∧ zpu T k 0 i ≤ 1 := zpu_r h (by omega)
set_option maxHeartbeats 4000000 in
theorem cX9_empty {M : zMm} (hP : zP M) (hR : zRg M) (h : Int) : zW mX9_empty 3 (fun rv S' M' => S' = zS0 ∧ ((¬ (0 ≤ h ∧ h < 16) ∧ rv = some (.inl (-1)) ∧ M = M') ∨ ((0 ≤ h ∧ h < 16) ∧ M 7 h = 0 ∧ rv = some (.inl (-5)) ∧ M = M') ∨ ((0 ≤ h ∧ h < 16) ∧ M 7 h ≠ 0 ∧ rv = some (.inl (zsum (zpu (M 7) h 0) 16)) ∧ M' = zup (zup M 7 h 0) 8 h 0))) (0, 0) zS0 0 (zargs 0 [.inr (.inr 0), .inl h]) [] M := by
  change zW _ _ _ _ _ 0 [(0, .inr (.inr 0)), (1, .inl h)] [] M
  refine z_iload_n 1 (zdec DX9_empty 0 rfl) rfl rfl ?_
  refine z_invs mX9_isHouse [.inl h] (zdec DX9_empty 1 rfl) (Or.inl ml_SixWalls_80) okX9_isHouse rfl rfl (Nat.le_of_ble_eq_true rfl) (Nat.le_of_ble_eq_true rfl) (b' := (0, 0)) ⟨Nat.le_refl 0, Nat.le_refl 0⟩ (Nat.le_of_ble_eq_true rfl) (cX9_isHouse h) (fun rv9 S9 M1 h9 => ?_)
  obtain ⟨rfl, rfl, rfl⟩ := h9
  change zW _ _ _ _ _ 4 [(0, .inr (.inr 0)), (1, .inl h)] [.inl (zb (0 ≤ h ∧ h < 16))] M
  refine z_if_ne 9 (zdec DX9_empty 2 rfl) rfl (fun h4 => ?_) (fun h4 => ?_)
  ·
    rw [zb_ne0] at h4
    refine z_aload_n 0 (zdec DX9_empty 5 rfl) rfl rfl (by decide) ?_
    refine z_getr (rw1 := -10) (ki := 0) (r' := 1) 0 9 (zdec DX9_empty 6 rfl) rfl rfl shp0 rfl (by decide) rfl rfl fl_SixWalls_10 (zPa hP 0 rfl) ?_
    refine z_getr (rw1 := -11) (ki := 5) (r' := 7) 1 1 (zdec DX9_empty 7 rfl) rfl rfl shp1 rfl (by decide) rfl rfl fl_SixWalls_132 (zPa hP 14 rfl) ?_
    refine z_iload_n 1 (zdec DX9_empty 8 rfl) rfl rfl ?_
    refine z_iald 7 (zdec DX9_empty 9 rfl) rfl shp7 ⟨by omega, by omega⟩ ?_
    refine z_if_ne 24 (zdec DX9_empty 10 rfl) rfl (fun h18 => ?_) (fun h18 => ?_)
    ·
      refine z_aload_n 0 (zdec DX9_empty 13 rfl) rfl rfl (by decide) ?_
      refine z_getr (rw1 := -10) (ki := 0) (r' := 1) 0 9 (zdec DX9_empty 14 rfl) rfl rfl shp0 rfl (by decide) rfl rfl fl_SixWalls_10 (zPa hP 0 rfl) ?_
      refine z_getr (rw1 := -11) (ki := 5) (r' := 7) 1 1 (zdec DX9_empty 15 rfl) rfl rfl shp1 rfl (by decide) rfl rfl fl_SixWalls_132 (zPa hP 14 rfl) ?_
      refine z_iload_n 1 (zdec DX9_empty 16 rfl) rfl rfl ?_
      refine z_iconst 0 (zdec DX9_empty 17 rfl) (by decide) ?_
      refine z_iast 7 (zdec DX9_empty 18 rfl) rfl shp7 ⟨by omega, by omega⟩ ?_
      refine z_aload_n 0 (zdec DX9_empty 19 rfl) rfl rfl (by decide) ?_
      refine z_getr (rw1 := -10) (ki := 0) (r' := 1) 0 9 (zdec DX9_empty 20 rfl) rfl rfl shp0 rfl (by decide) rfl rfl fl_SixWalls_10 (zPa (zP_up hP (by decide)) 0 rfl) ?_
      refine z_getr (rw1 := -11) (ki := 6) (r' := 8) 1 1 (zdec DX9_empty 21 rfl) rfl rfl shp1 rfl (by decide) rfl rfl fl_SixWalls_122 (zPa (zP_up hP (by decide)) 15 rfl) ?_
      refine z_iload_n 1 (zdec DX9_empty 22 rfl) rfl rfl ?_
      refine z_iconst 0 (zdec DX9_empty 23 rfl) (by decide) ?_
      refine z_iast 8 (zdec DX9_empty 24 rfl) rfl shp8 ⟨by omega, by omega⟩ ?_
      refine z_aload_n 0 (zdec DX9_empty 25 rfl) rfl rfl (by decide) ?_
      refine z_getr (rw1 := -10) (ki := 0) (r' := 1) 0 9 (zdec DX9_empty 26 rfl) rfl rfl shp0 rfl (by decide) rfl rfl fl_SixWalls_10 (zPa (zP_up (zP_up hP (by decide)) (by decide)) 0 rfl) ?_
      refine z_getr (rw1 := -11) (ki := 5) (r' := 7) 1 1 (zdec DX9_empty 27 rfl) rfl rfl shp1 rfl (by decide) rfl rfl fl_SixWalls_132 (zPa (zP_up (zP_up hP (by decide)) (by decide)) 14 rfl) ?_
      refine z_invs mX9_sum [.inr (.inr 7)] (zdec DX9_empty 28 rfl) (Or.inl ml_SixWalls_204) okX9_sum rfl rfl (Nat.le_of_ble_eq_true rfl) (Nat.le_of_ble_eq_true rfl) (b' := (0, 0)) ⟨Nat.le_refl 0, Nat.le_refl 0⟩ (Nat.le_of_ble_eq_true rfl) (cX9_sum_7 (by rw [zup_row (by decide), zup_zpu]; exact zsum7 (fun i h0 h1 => (hR.1 i h0 h1).1) h)) (fun rv9 S9 M51 h9 => ?_)
      obtain ⟨rfl, e51, rfl⟩ := h9
      subst e51
      change zW _ _ _ _ _ 54 [(0, .inr (.inr 0)), (1, .inl h)] [.inl (zsum (zup (zup M 7 h 0) 8 h 0 7) 16)] (zup (zup M 7 h 0) 8 h 0)
      exact z_iret (zdec DX9_empty 29 rfl) rfl (⟨rfl, Or.inr (Or.inr ⟨h4, h18, by rw [zup_row (show (7 : Int) ≠ 8 by decide), zup_zpu], rfl⟩)⟩)
    ·
      refine z_bipush (-5) (zdec DX9_empty 11 rfl) (by decide) ?_
      exact z_iret (zdec DX9_empty 12 rfl) rfl (⟨rfl, Or.inr (Or.inl ⟨h4, by omega, rfl, rfl⟩)⟩)
  ·
    refine z_iconst (-1) (zdec DX9_empty 3 rfl) (by decide) ?_
    exact z_iret (zdec DX9_empty 4 rfl) rfl (⟨rfl, Or.inl ⟨fun q => h4 (zb_ne0.mpr q), rfl, rfl⟩⟩)
theorem ztk_b (L W : Int → Int) (h : Int) : -1 ≤ ztk L W h ∧ ztk L W h < 16 := by
  have key : ∀ n : Nat, -1 ≤ zfold (fun (best : Int) (s : Int) => if L (znat (h * 6 + s)) = 1 ∧ (best < 0 ∨ W best < W (znat (h * 6 + s))) then znat (h * 6 + s) else best) (-1) n ∧ zfold (fun (best : Int) (s : Int) => if L (znat (h * 6 + s)) = 1 ∧ (best < 0 ∨ W best < W (znat (h * 6 + s))) then znat (h * 6 + s) else best) (-1) n < 16 := by
    intro n
    induction n with
    | zero => exact ⟨show (-1 : Int) ≤ -1 by decide, show (-1 : Int) < 16 by decide⟩
    | succ n ih =>
      simp only [zfold]
      have := znat_b (h * 6 + (n : Int))
      split <;> omega
  exact key (zsid h).toNat
set_option maxHeartbeats 4000000 in
theorem cX9_takes {M : zMm} (hP : zP M) (hG : zG M) (h w : Int) : zW mX9_takes 3 (fun rv S' M' => S' = zS0 ∧ ((¬ ((0 ≤ h ∧ h < 16) ∧ 0 ≤ w ∧ w ≤ 1) ∧ rv = some (.inl (-1)) ∧ M = M') ∨ (((0 ≤ h ∧ h < 16) ∧ 0 ≤ w ∧ w ≤ 1) ∧ M 7 h = 1 ∧ rv = some (.inl (-5)) ∧ M = M') ∨ (((0 ≤ h ∧ h < 16) ∧ 0 ≤ w ∧ w ≤ 1) ∧ M 7 h ≠ 1 ∧ ztk (M 7) (M 10) h < 0 ∧ rv = some (.inl (-2)) ∧ M = M') ∨ (((0 ≤ h ∧ h < 16) ∧ 0 ≤ w ∧ w ≤ 1) ∧ M 7 h ≠ 1 ∧ 0 ≤ ztk (M 7) (M 10) h ∧ rv = some (.inl (ztk (M 7) (M 10) h)) ∧ ((w = 0 ∧ M = M') ∨ (w = 1 ∧ zFm M M' (zpu (M 7) h 1, M 8, zpu (M 10) h (M 10 (ztk (M 7) (M 10) h)), if 0 ≤ zwb h (ztk (M 7) (M 10) h) then zpu (M 12) (zwb h (ztk (M 7) (M 10) h)) 1 else M 12)))))) (0, 0) zS0 0 (zargs 0 [.inr (.inr 0), .inl h, .inl w]) [] M := by
  change zW _ _ _ _ _ 0 [(0, .inr (.inr 0)), (1, .inl h), (2, .inl w)] [] M
  refine z_iload_n 1 (zdec DX9_takes 0 rfl) rfl rfl ?_
  refine z_invs mX9_isHouse [.inl h] (zdec DX9_takes 1 rfl) (Or.inl ml_SixWalls_80) okX9_isHouse rfl rfl (Nat.le_of_ble_eq_true rfl) (Nat.le_of_ble_eq_true rfl) (b' := (0, 0)) ⟨Nat.le_refl 0, Nat.le_refl 0⟩ (Nat.le_of_ble_eq_true rfl) (cX9_isHouse h) (fun rv9 S9 M1 h9 => ?_)
  obtain ⟨rfl, rfl, rfl⟩ := h9
  change zW _ _ _ _ _ 4 [(0, .inr (.inr 0)), (1, .inl h), (2, .inl w)] [.inl (zb (0 ≤ h ∧ h < 16))] M
  refine z_if_eq 16 (zdec DX9_takes 2 rfl) rfl (fun h4 => ?_) (fun h4 => ?_)
  ·
    refine z_iconst (-1) (zdec DX9_takes 8 rfl) (by decide) ?_
    exact z_iret (zdec DX9_takes 9 rfl) rfl (⟨rfl, Or.inl ⟨fun q => (zb_eq0.mp h4) q.1, rfl, rfl⟩⟩)
  ·
    rw [zb_eq0, Classical.not_not] at h4
    refine z_iload_n 2 (zdec DX9_takes 3 rfl) rfl rfl ?_
    refine z_iconst 0 (zdec DX9_takes 4 rfl) (by decide) ?_
    refine z_iconst 1 (zdec DX9_takes 5 rfl) (by decide) ?_
    refine z_invs mX9_within [.inl w, .inl 0, .inl 1] (zdec DX9_takes 6 rfl) (Or.inl ml_SixWalls_76) okX9_within rfl rfl (Nat.le_of_ble_eq_true rfl) (Nat.le_of_ble_eq_true rfl) (b' := (0, 0)) ⟨Nat.le_refl 0, Nat.le_refl 0⟩ (Nat.le_of_ble_eq_true rfl) (cX9_within w 0 1) (fun rv9 S9 M10 h9 => ?_)
    obtain ⟨rfl, rfl, rfl⟩ := h9
    change zW _ _ _ _ _ 13 [(0, .inr (.inr 0)), (1, .inl h), (2, .inl w)] [.inl (zb (0 ≤ w ∧ w ≤ 1))] M
    refine z_if_ne 18 (zdec DX9_takes 7 rfl) rfl (fun h13 => ?_) (fun h13 => ?_)
    ·
      rw [zb_ne0] at h13
      refine z_aload_n 0 (zdec DX9_takes 10 rfl) rfl rfl (by decide) ?_
      refine z_getr (rw1 := -10) (ki := 0) (r' := 1) 0 9 (zdec DX9_takes 11 rfl) rfl rfl shp0 rfl (by decide) rfl rfl fl_SixWalls_10 (zPa hP 0 rfl) ?_
      refine z_getr (rw1 := -11) (ki := 5) (r' := 7) 1 1 (zdec DX9_takes 12 rfl) rfl rfl shp1 rfl (by decide) rfl rfl fl_SixWalls_132 (zPa hP 14 rfl) ?_
      refine z_iload_n 1 (zdec DX9_takes 13 rfl) rfl rfl ?_
      refine z_iald 7 (zdec DX9_takes 14 rfl) rfl shp7 ⟨by omega, by omega⟩ ?_
      refine z_iconst 1 (zdec DX9_takes 15 rfl) (by decide) ?_
      refine z_icmp_ne 34 (zdec DX9_takes 16 rfl) rfl (fun h28 => ?_) (fun h28 => ?_)
      ·
        refine z_aload_n 0 (zdec DX9_takes 19 rfl) rfl rfl (by decide) ?_
        refine z_getr (rw1 := -10) (ki := 5) (r' := 34) 0 9 (zdec DX9_takes 20 rfl) rfl rfl shp0 rfl (by decide) rfl rfl fl_SixWalls_51 (zPa hP 5 rfl) ?_
        refine z_iload_n 1 (zdec DX9_takes 21 rfl) rfl rfl ?_
        refine z_inv mX2_taker 34 2 [.inl h] (zdec DX9_takes 22 rfl) ml_SixWalls_274 okX2_taker rfl shp34 rfl rfl rfl rfl (Nat.le_of_ble_eq_true rfl) (Nat.le_of_ble_eq_true rfl) (b' := (0, 0)) ⟨Nat.le_refl 0, Nat.le_refl 0⟩ (Nat.le_of_ble_eq_true rfl) (cX2_taker hP hG h h4) (fun rv9 S9 M39 h9 => ?_)
        obtain ⟨rfl, rfl, rfl⟩ := h9
        change zW _ _ _ _ _ 42 [(0, .inr (.inr 0)), (1, .inl h), (2, .inl w)] [.inl (ztk (M 7) (M 10) h)] M
        refine z_istore_n (L' := [(0, .inr (.inr 0)), (1, .inl h), (2, .inl w), (3, .inl (ztk (M 7) (M 10) h))]) (zdec DX9_takes 23 rfl) rfl rfl (by decide) ?_
        refine z_iload_n 3 (zdec DX9_takes 24 rfl) rfl rfl ?_
        refine z_if_ge 50 (zdec DX9_takes 25 rfl) rfl (fun h44 => ?_) (fun h44 => ?_)
        ·
          refine z_iload_n 2 (zdec DX9_takes 28 rfl) rfl rfl ?_
          refine z_iconst 1 (zdec DX9_takes 29 rfl) (by decide) ?_
          refine z_icmp_ne 64 (zdec DX9_takes 30 rfl) rfl (fun h52 => ?_) (fun h52 => ?_)
          ·
            refine z_iload_n 3 (zdec DX9_takes 36 rfl) rfl rfl ?_
            exact z_iret (zdec DX9_takes 37 rfl) rfl (⟨rfl, Or.inr (Or.inr (Or.inr ⟨⟨h4, h13⟩, h28, h44, rfl, Or.inl ⟨by omega, rfl⟩⟩))⟩)
          ·
            refine z_aload_n 0 (zdec DX9_takes 31 rfl) rfl rfl (by decide) ?_
            refine z_getr (rw1 := -10) (ki := 5) (r' := 34) 0 9 (zdec DX9_takes 32 rfl) rfl rfl shp0 rfl (by decide) rfl rfl fl_SixWalls_51 (zPa hP 5 rfl) ?_
            refine z_iload_n 1 (zdec DX9_takes 33 rfl) rfl rfl ?_
            refine z_iload_n 3 (zdec DX9_takes 34 rfl) rfl rfl ?_
            refine z_inv mX2_takeIn 34 2 [.inl h, .inl (ztk (M 7) (M 10) h)] (zdec DX9_takes 35 rfl) ml_SixWalls_277 okX2_takeIn rfl shp34 rfl rfl rfl rfl (Nat.le_of_ble_eq_true rfl) (Nat.le_of_ble_eq_true rfl) (b' := (0, 0)) ⟨Nat.le_refl 0, Nat.le_refl 0⟩ (Nat.le_of_ble_eq_true rfl) (cX2_takeIn hP hG h (ztk (M 7) (M 10) h) h4 ⟨by omega, (ztk_b _ _ _).2⟩) (fun rv9 S9 M61 h9 => ?_)
            obtain ⟨rfl, rfl, hc⟩ := h9
            change zW _ _ _ _ _ 64 [(0, .inr (.inr 0)), (1, .inl h), (2, .inl w), (3, .inl (ztk (M 7) (M 10) h))] [] M61
            refine z_iload_n 3 (zdec DX9_takes 36 rfl) rfl rfl ?_
            exact z_iret (zdec DX9_takes 37 rfl) rfl (⟨rfl, Or.inr (Or.inr (Or.inr ⟨⟨h4, h13⟩, h28, h44, rfl, Or.inr ⟨by omega, hc⟩⟩))⟩)
        ·
          refine z_bipush (-2) (zdec DX9_takes 26 rfl) (by decide) ?_
          exact z_iret (zdec DX9_takes 27 rfl) rfl (⟨rfl, Or.inr (Or.inr (Or.inl ⟨⟨h4, h13⟩, h28, by omega, rfl, rfl⟩))⟩)
      ·
        refine z_bipush (-5) (zdec DX9_takes 17 rfl) (by decide) ?_
        exact z_iret (zdec DX9_takes 18 rfl) rfl (⟨rfl, Or.inr (Or.inl ⟨⟨h4, h13⟩, by omega, rfl, rfl⟩)⟩)
    ·
      refine z_iconst (-1) (zdec DX9_takes 8 rfl) (by decide) ?_
      exact z_iret (zdec DX9_takes 9 rfl) rfl (⟨rfl, Or.inl ⟨fun q => h13 (zb_ne0.mpr q.2), rfl, rfl⟩⟩)
set_option maxHeartbeats 4000000 in
theorem cX9_years {M : zMm} (hP : zP M) (hG : zG M) (hR : zRg M) (z n : Int) : zW mX9_years 4 (fun rv S' M' => S' = zS0 ∧ ((¬ (1 ≤ n ∧ n ≤ 20) ∧ rv = some (.inl (-1)) ∧ M = M') ∨ ((1 ≤ n ∧ n ≤ 20) ∧ rv = some (.inl (zsum (zgrow (zFam M, z) n).1.1 16)) ∧ zFm M M' (zgrow (zFam M, z) n).1 ∧ zBr (zgrow (zFam M, z) n).1))) (0, 0) zS0 0 (zargs 0 [.inr (.inr 0), .inl z, .inl n]) [] M := by
  change zW _ _ _ _ _ 0 [(0, .inr (.inr 0)), (1, .inl z), (2, .inl n)] [] M
  refine z_iload_n 2 (zdec DX9_years 0 rfl) rfl rfl ?_
  refine z_iconst 1 (zdec DX9_years 1 rfl) (by decide) ?_
  refine z_bipush 20 (zdec DX9_years 2 rfl) (by decide) ?_
  refine z_invs mX9_within [.inl n, .inl 1, .inl 20] (zdec DX9_years 3 rfl) (Or.inl ml_SixWalls_76) okX9_within rfl rfl (Nat.le_of_ble_eq_true rfl) (Nat.le_of_ble_eq_true rfl) (b' := (0, 0)) ⟨Nat.le_refl 0, Nat.le_refl 0⟩ (Nat.le_of_ble_eq_true rfl) (cX9_within n 1 20) (fun rv9 S9 M4 h9 => ?_)
  obtain ⟨rfl, rfl, rfl⟩ := h9
  change zW _ _ _ _ _ 7 [(0, .inr (.inr 0)), (1, .inl z), (2, .inl n)] [.inl (zb (1 ≤ n ∧ n ≤ 20))] M
  refine z_if_ne 12 (zdec DX9_years 4 rfl) rfl (fun h7 => ?_) (fun h7 => ?_)
  ·
    rw [zb_ne0] at h7
    refine z_aload_n 0 (zdec DX9_years 7 rfl) rfl rfl (by decide) ?_
    refine z_getr (rw1 := -10) (ki := 5) (r' := 34) 0 9 (zdec DX9_years 8 rfl) rfl rfl shp0 rfl (by decide) rfl rfl fl_SixWalls_51 (zPa hP 5 rfl) ?_
    refine z_iload_n 1 (zdec DX9_years 9 rfl) rfl rfl ?_
    refine z_iload_n 2 (zdec DX9_years 10 rfl) rfl rfl ?_
    refine z_inv mX2_grow 34 2 [.inl z, .inl n] (zdec DX9_years 11 rfl) ml_SixWalls_281 okX2_grow rfl shp34 rfl rfl rfl rfl (Nat.le_of_ble_eq_true rfl) (Nat.le_of_ble_eq_true rfl) (b' := (0, 0)) ⟨Nat.le_refl 0, Nat.le_refl 0⟩ (Nat.le_of_ble_eq_true rfl) (cX2_grow hP hG hR z n h7.2) (fun rv9 S9 M18 h9 => ?_)
    obtain ⟨rfl, rfl, hc, hb⟩ := h9
    have hPM18 : zP M18 := zP_of hP fun r hr => hc.2 r (by omega) (by omega) (by omega) (by omega)
    change zW _ _ _ _ _ 21 [(0, .inr (.inr 0)), (1, .inl z), (2, .inl n)] [] M18
    refine z_aload_n 0 (zdec DX9_years 12 rfl) rfl rfl (by decide) ?_
    refine z_getr (rw1 := -10) (ki := 0) (r' := 1) 0 9 (zdec DX9_years 13 rfl) rfl rfl shp0 rfl (by decide) rfl rfl fl_SixWalls_10 (zPa hPM18 0 rfl) ?_
    refine z_getr (rw1 := -11) (ki := 5) (r' := 7) 1 1 (zdec DX9_years 14 rfl) rfl rfl shp1 rfl (by decide) rfl rfl fl_SixWalls_132 (zPa hPM18 14 rfl) ?_
    refine z_invs mX9_sum [.inr (.inr 7)] (zdec DX9_years 15 rfl) (Or.inl ml_SixWalls_204) okX9_sum rfl rfl (Nat.le_of_ble_eq_true rfl) (Nat.le_of_ble_eq_true rfl) (b' := (0, 0)) ⟨Nat.le_refl 0, Nat.le_refl 0⟩ (Nat.le_of_ble_eq_true rfl) (cX9_sum_7 (by rw [hc.r7]; exact fun i h0 h1 => (hb.1 i h0 h1).1)) (fun rv9 S9 M28 h9 => ?_)
    obtain ⟨rfl, e28, rfl⟩ := h9
    subst e28
    change zW _ _ _ _ _ 31 [(0, .inr (.inr 0)), (1, .inl z), (2, .inl n)] [.inl (zsum (M18 7) 16)] M18
    exact z_iret (zdec DX9_years 16 rfl) rfl (⟨rfl, Or.inr ⟨h7, by rw [hc.r7], hc, hb⟩⟩)
  ·
    refine z_iconst (-1) (zdec DX9_years 5 rfl) (by decide) ?_
    exact z_iret (zdec DX9_years 6 rfl) rfl (⟨rfl, Or.inl ⟨fun q => h7 (zb_ne0.mpr q), rfl, rfl⟩⟩)
theorem zki_9 {M : zMm} : (zup (zcpy (zcpy M 9 0 35 0 16) 7 0 36 0 16) 34 3 1) 9 = M 9 := by rw [zup_row (by decide), zcpy_row (by decide), zcpy_row (by decide)]
set_option maxHeartbeats 4000000 in
theorem cX9_image {M : zMm} (hP : zP M) (hR : zRg M) : zW mX9_image 3 (fun rv S' M' => S' = zS0 ∧ rv = some (.inl (zsum (M 9) 16)) ∧ M' = zup (zcpy (zcpy M 9 0 35 0 16) 7 0 36 0 16) 34 3 1) (0, 0) zS0 0 (zargs 0 [.inr (.inr 0)]) [] M := by
  change zW _ _ _ _ _ 0 [(0, .inr (.inr 0))] [] M
  refine z_aload_n 0 (zdec DX9_image 0 rfl) rfl rfl (by decide) ?_
  refine z_getr (rw1 := -10) (ki := 5) (r' := 34) 0 9 (zdec DX9_image 1 rfl) rfl rfl shp0 rfl (by decide) rfl rfl fl_SixWalls_51 (zPa hP 5 rfl) ?_
  refine z_inv mX2_keepImage 34 2 [] (zdec DX9_image 2 rfl) ml_SixWalls_284 okX2_keepImage rfl shp34 rfl rfl rfl rfl (Nat.le_of_ble_eq_true rfl) (Nat.le_of_ble_eq_true rfl) (b' := (0, 0)) ⟨Nat.le_refl 0, Nat.le_refl 0⟩ (Nat.le_of_ble_eq_true rfl) (cX2_keepImage hP) (fun rv9 S9 M4 h9 => ?_)
  obtain ⟨rfl, rfl, e4⟩ := h9
  have hPM4 : zP M4 := by rw [e4]; exact zP_up (zP_cpy (zP_cpy hP (by decide)) (by decide)) (by decide)
  change zW _ _ _ _ _ 7 [(0, .inr (.inr 0))] [] M4
  refine z_aload_n 0 (zdec DX9_image 3 rfl) rfl rfl (by decide) ?_
  refine z_getr (rw1 := -10) (ki := 0) (r' := 1) 0 9 (zdec DX9_image 4 rfl) rfl rfl shp0 rfl (by decide) rfl rfl fl_SixWalls_10 (zPa hPM4 0 rfl) ?_
  refine z_getr (rw1 := -11) (ki := 7) (r' := 9) 1 1 (zdec DX9_image 5 rfl) rfl rfl shp1 rfl (by decide) rfl rfl fl_SixWalls_129 (zPa hPM4 16 rfl) ?_
  refine z_invs mX9_sum [.inr (.inr 9)] (zdec DX9_image 6 rfl) (Or.inl ml_SixWalls_204) okX9_sum rfl rfl (Nat.le_of_ble_eq_true rfl) (Nat.le_of_ble_eq_true rfl) (b' := (0, 0)) ⟨Nat.le_refl 0, Nat.le_refl 0⟩ (Nat.le_of_ble_eq_true rfl) (cX9_sum_9 (by rw [e4, zki_9]; exact fun i h0 h1 => (hR.1 i h0 h1).2.2.1)) (fun rv9 S9 M14 h9 => ?_)
  obtain ⟨rfl, e14, rfl⟩ := h9
  subst e14
  change zW _ _ _ _ _ 17 [(0, .inr (.inr 0))] [.inl (zsum (M4 9) 16)] M4
  exact z_iret (zdec DX9_image 7 rfl) rfl (⟨rfl, zri (by rw [e4, zki_9]), e4⟩)
/-- the image, in its bounds -/
def zImB (M : zMm) : Prop := ∀ h : Int, 0 ≤ h → h < 16 → (0 ≤ M 35 h ∧ M 35 h ≤ 99) ∧ (0 ≤ M 36 h ∧ M 36 h ≤ 1)
theorem zlb_9 {M : zMm} {i : Int} (h0 : 0 ≤ i) (h1 : i < 16) : (zcpy (zcpy M 35 0 9 0 16) 36 0 7 0 16) 9 i = M 35 i := by
  rw [zcpy_row (by decide)]
  unfold zcpy
  rw [if_pos ⟨rfl, by omega, by omega⟩, show 0 + (i - 0) = i by omega]
set_option maxHeartbeats 4000000 in
theorem cX9_back {M : zMm} (hP : zP M) (hB : zImB M) : zW mX9_back 3 (fun rv S' M' => S' = zS0 ∧ ((M 34 3 = 0 ∧ rv = some (.inl (-5)) ∧ M = M') ∨ (M 34 3 ≠ 0 ∧ rv = some (.inl (zsum (M 35) 16)) ∧ M' = zcpy (zcpy M 35 0 9 0 16) 36 0 7 0 16))) (0, 0) zS0 0 (zargs 0 [.inr (.inr 0)]) [] M := by
  change zW _ _ _ _ _ 0 [(0, .inr (.inr 0))] [] M
  refine z_aload_n 0 (zdec DX9_back 0 rfl) rfl rfl (by decide) ?_
  refine z_getr (rw1 := -10) (ki := 5) (r' := 34) 0 9 (zdec DX9_back 1 rfl) rfl rfl shp0 rfl (by decide) rfl rfl fl_SixWalls_51 (zPa hP 5 rfl) ?_
  refine z_inv mX2_layBack 34 2 [] (zdec DX9_back 2 rfl) ml_SixWalls_287 okX2_layBack rfl shp34 rfl rfl rfl rfl (Nat.le_of_ble_eq_true rfl) (Nat.le_of_ble_eq_true rfl) (b' := (0, 0)) ⟨Nat.le_refl 0, Nat.le_refl 0⟩ (Nat.le_of_ble_eq_true rfl) (cX2_layBack hP) (fun rv9 S9 M4 h9 => ?_)
  obtain ⟨rfl, h4⟩ := h9
  obtain ⟨r4, rfl⟩ : ∃ r, rv9 = some (.inl r) := by rcases h4 with h | h <;> exact ⟨_, h.2.1⟩
  change zW _ _ _ _ _ 7 [(0, .inr (.inr 0))] [.inl r4] M4
  refine z_if_eq 23 (zdec DX9_back 3 rfl) rfl (fun h7 => ?_) (fun h7 => ?_)
  ·
    refine z_bipush (-5) (zdec DX9_back 9 rfl) (by decide) ?_
    exact z_iret (zdec DX9_back 10 rfl) rfl (⟨rfl, by rcases h4 with ⟨h, _, e⟩ | ⟨h, h2, e⟩; exact Or.inl ⟨h, rfl, e⟩; (exfalso; have h3 : r4 = 1 := by simpa using h2); omega⟩)
  ·
    have hz : M 34 3 ≠ 0 ∧ M4 = zcpy (zcpy M 35 0 9 0 16) 36 0 7 0 16 := by rcases h4 with ⟨_, h, _⟩ | ⟨h, _, e⟩; (exfalso; apply h7; simpa using h); exact ⟨h, e⟩
    obtain ⟨hz, e4⟩ := hz
    have hP4 : zP M4 := by rw [e4]; exact zP_cpy (zP_cpy hP (by decide)) (by decide)
    refine z_aload_n 0 (zdec DX9_back 4 rfl) rfl rfl (by decide) ?_
    refine z_getr (rw1 := -10) (ki := 0) (r' := 1) 0 9 (zdec DX9_back 5 rfl) rfl rfl shp0 rfl (by decide) rfl rfl fl_SixWalls_10 (zPa hP4 0 rfl) ?_
    refine z_getr (rw1 := -11) (ki := 7) (r' := 9) 1 1 (zdec DX9_back 6 rfl) rfl rfl shp1 rfl (by decide) rfl rfl fl_SixWalls_129 (zPa hP4 16 rfl) ?_
    refine z_invs mX9_sum [.inr (.inr 9)] (zdec DX9_back 7 rfl) (Or.inl ml_SixWalls_204) okX9_sum rfl rfl (Nat.le_of_ble_eq_true rfl) (Nat.le_of_ble_eq_true rfl) (b' := (0, 0)) ⟨Nat.le_refl 0, Nat.le_refl 0⟩ (Nat.le_of_ble_eq_true rfl) (cX9_sum_9 (by rw [e4]; exact fun i h0 h1 => by rw [zlb_9 h0 h1]; exact (hB i h0 h1).1)) (fun rv9 S9 M17 h9 => ?_)
    obtain ⟨rfl, e14, rfl⟩ := h9
    subst e14
    change zW _ _ _ _ _ 20 [(0, .inr (.inr 0))] [.inl (zsum (M4 9) 16)] M4
    refine z_goto 25 (zdec DX9_back 8 rfl) rfl ?_
    exact z_iret (zdec DX9_back 10 rfl) rfl (⟨rfl, Or.inr ⟨hz, by rw [e4, zsum_c fun i h0 h1 => zlb_9 h0 h1], e4⟩⟩)
end
