section
/-! tables: PART A of the given skeleton, then the classes of the worlds -/
/-- a private method of a class that the tables say can be made, by its rows of tables_1 -/
def lw_okq (q : MethodName × Nat) : Prop := (q.1.cls ≠ "java/lang/invoke/MethodHandle" ∧ q.1.cls ≠ "java/lang/invoke/VarHandle") ∧ Cond.instantiable q.1.cls q.2 ∈ tables_1 ∧ Cond.privateMethod q.1 ∈ tables_1 ∧ Cond.instanceMethod q.1 ∈ tables_1
theorem lw_p0 : lw_okq (⟨"SixWalls$Comb", "layWalls", "()V"⟩, 14) := ⟨⟨by decide +kernel, by decide +kernel⟩, List.mem_of_getElem? (i := 25) (by decide +kernel), List.mem_of_getElem? (i := 31) (by decide +kernel), List.mem_of_getElem? (i := 32) (by decide +kernel)⟩
theorem lw_p1 : lw_okq (⟨"SixWalls$Comb", "addSide", "(III)V"⟩, 14) := ⟨⟨by decide +kernel, by decide +kernel⟩, List.mem_of_getElem? (i := 25) (by decide +kernel), List.mem_of_getElem? (i := 41) (by decide +kernel), List.mem_of_getElem? (i := 42) (by decide +kernel)⟩
theorem lw_p2 : lw_okq (⟨"SixWalls", "ofHouse", "(II)I"⟩, 9) := ⟨⟨by decide +kernel, by decide +kernel⟩, List.mem_of_getElem? (i := 17) (by decide +kernel), List.mem_of_getElem? (i := 411) (by decide +kernel), List.mem_of_getElem? (i := 412) (by decide +kernel)⟩
theorem lw_p3 : lw_okq (⟨"SixWalls", "ofWall", "(II)I"⟩, 9) := ⟨⟨by decide +kernel, by decide +kernel⟩, List.mem_of_getElem? (i := 17) (by decide +kernel), List.mem_of_getElem? (i := 421) (by decide +kernel), List.mem_of_getElem? (i := 422) (by decide +kernel)⟩
theorem lw_p4 : lw_okq (⟨"SixWalls$Winter", "lawful", "(IIII)I"⟩, 8) := ⟨⟨by decide +kernel, by decide +kernel⟩, List.mem_of_getElem? (i := 171) (by decide +kernel), List.mem_of_getElem? (i := 440) (by decide +kernel), List.mem_of_getElem? (i := 441) (by decide +kernel)⟩
theorem lw_p5 : lw_okq (⟨"SixWalls$LawText", "readLines", "()V"⟩, 11) := ⟨⟨by decide +kernel, by decide +kernel⟩, List.mem_of_getElem? (i := 131) (by decide +kernel), List.mem_of_getElem? (i := 507) (by decide +kernel), List.mem_of_getElem? (i := 508) (by decide +kernel)⟩
theorem lw_p6 : lw_okq (⟨"SixWalls$LawText", "readLine", "()V"⟩, 11) := ⟨⟨by decide +kernel, by decide +kernel⟩, List.mem_of_getElem? (i := 131) (by decide +kernel), List.mem_of_getElem? (i := 511) (by decide +kernel), List.mem_of_getElem? (i := 512) (by decide +kernel)⟩
theorem lw_p7 : lw_okq (⟨"SixWalls$LawText", "readLevel", "(II)V"⟩, 11) := ⟨⟨by decide +kernel, by decide +kernel⟩, List.mem_of_getElem? (i := 131) (by decide +kernel), List.mem_of_getElem? (i := 515) (by decide +kernel), List.mem_of_getElem? (i := 516) (by decide +kernel)⟩
theorem lw_p8 : lw_okq (⟨"SixWalls$LawText", "readOperand", "(I)V"⟩, 11) := ⟨⟨by decide +kernel, by decide +kernel⟩, List.mem_of_getElem? (i := 131) (by decide +kernel), List.mem_of_getElem? (i := 519) (by decide +kernel), List.mem_of_getElem? (i := 520) (by decide +kernel)⟩
theorem lw_p9 : lw_okq (⟨"SixWalls$LawText", "peek", "()I"⟩, 11) := ⟨⟨by decide +kernel, by decide +kernel⟩, List.mem_of_getElem? (i := 131) (by decide +kernel), List.mem_of_getElem? (i := 523) (by decide +kernel), List.mem_of_getElem? (i := 524) (by decide +kernel)⟩
theorem lw_p10 : lw_okq (⟨"SixWalls$LawText", "readNumber", "()V"⟩, 11) := ⟨⟨by decide +kernel, by decide +kernel⟩, List.mem_of_getElem? (i := 131) (by decide +kernel), List.mem_of_getElem? (i := 531) (by decide +kernel), List.mem_of_getElem? (i := 532) (by decide +kernel)⟩
theorem lw_p11 : lw_okq (⟨"SixWalls$LawText", "emit", "(II)I"⟩, 11) := ⟨⟨by decide +kernel, by decide +kernel⟩, List.mem_of_getElem? (i := 131) (by decide +kernel), List.mem_of_getElem? (i := 535) (by decide +kernel), List.mem_of_getElem? (i := 536) (by decide +kernel)⟩
theorem lw_p12 : lw_okq (⟨"SixWalls$Winter", "begin", "()V"⟩, 8) := ⟨⟨by decide +kernel, by decide +kernel⟩, List.mem_of_getElem? (i := 171) (by decide +kernel), List.mem_of_getElem? (i := 554) (by decide +kernel), List.mem_of_getElem? (i := 555) (by decide +kernel)⟩
theorem lw_p13 : lw_okq (⟨"SixWalls$Winter", "passAll", "(I)V"⟩, 8) := ⟨⟨by decide +kernel, by decide +kernel⟩, List.mem_of_getElem? (i := 171) (by decide +kernel), List.mem_of_getElem? (i := 559) (by decide +kernel), List.mem_of_getElem? (i := 560) (by decide +kernel)⟩
theorem lw_p14 : lw_okq (⟨"SixWalls$Winter", "pass", "()Z"⟩, 8) := ⟨⟨by decide +kernel, by decide +kernel⟩, List.mem_of_getElem? (i := 171) (by decide +kernel), List.mem_of_getElem? (i := 563) (by decide +kernel), List.mem_of_getElem? (i := 564) (by decide +kernel)⟩
theorem lw_p15 : lw_okq (⟨"SixWalls$Masonry", "goRound", "()Z"⟩, 4) := ⟨⟨by decide +kernel, by decide +kernel⟩, List.mem_of_getElem? (i := 205) (by decide +kernel), List.mem_of_getElem? (i := 622) (by decide +kernel), List.mem_of_getElem? (i := 623) (by decide +kernel)⟩
def lw_privs_1 : List (MethodName × Nat) := [(⟨"SixWalls$Comb", "layWalls", "()V"⟩, 14), (⟨"SixWalls$Comb", "addSide", "(III)V"⟩, 14), (⟨"SixWalls", "ofHouse", "(II)I"⟩, 9), (⟨"SixWalls", "ofWall", "(II)I"⟩, 9), (⟨"SixWalls$Winter", "lawful", "(IIII)I"⟩, 8), (⟨"SixWalls$LawText", "readLines", "()V"⟩, 11), (⟨"SixWalls$LawText", "readLine", "()V"⟩, 11), (⟨"SixWalls$LawText", "readLevel", "(II)V"⟩, 11), (⟨"SixWalls$LawText", "readOperand", "(I)V"⟩, 11), (⟨"SixWalls$LawText", "peek", "()I"⟩, 11), (⟨"SixWalls$LawText", "readNumber", "()V"⟩, 11), (⟨"SixWalls$LawText", "emit", "(II)I"⟩, 11), (⟨"SixWalls$Winter", "begin", "()V"⟩, 8), (⟨"SixWalls$Winter", "passAll", "(I)V"⟩, 8), (⟨"SixWalls$Winter", "pass", "()Z"⟩, 8), (⟨"SixWalls$Masonry", "goRound", "()Z"⟩, 4)]
theorem lw_r1 : ∀ q ∈ lw_privs_1, lw_okq q := List.forall_mem_cons.mpr ⟨lw_p0, List.forall_mem_cons.mpr ⟨lw_p1, List.forall_mem_cons.mpr ⟨lw_p2, List.forall_mem_cons.mpr ⟨lw_p3, List.forall_mem_cons.mpr ⟨lw_p4, List.forall_mem_cons.mpr ⟨lw_p5, List.forall_mem_cons.mpr ⟨lw_p6, List.forall_mem_cons.mpr ⟨lw_p7, List.forall_mem_cons.mpr ⟨lw_p8, List.forall_mem_cons.mpr ⟨lw_p9, List.forall_mem_cons.mpr ⟨lw_p10, List.forall_mem_cons.mpr ⟨lw_p11, List.forall_mem_cons.mpr ⟨lw_p12, List.forall_mem_cons.mpr ⟨lw_p13, List.forall_mem_cons.mpr ⟨lw_p14, List.forall_mem_cons.mpr ⟨lw_p15, fun _ h => absurd h List.not_mem_nil⟩⟩⟩⟩⟩⟩⟩⟩⟩⟩⟩⟩⟩⟩⟩⟩
theorem lw_p16 : lw_okq (⟨"SixWalls$Ways", "besides", "(I)I"⟩, 3) := ⟨⟨by decide +kernel, by decide +kernel⟩, List.mem_of_getElem? (i := 224) (by decide +kernel), List.mem_of_getElem? (i := 642) (by decide +kernel), List.mem_of_getElem? (i := 643) (by decide +kernel)⟩
theorem lw_p17 : lw_okq (⟨"SixWalls$Ways", "gather", "()V"⟩, 3) := ⟨⟨by decide +kernel, by decide +kernel⟩, List.mem_of_getElem? (i := 224) (by decide +kernel), List.mem_of_getElem? (i := 654) (by decide +kernel), List.mem_of_getElem? (i := 655) (by decide +kernel)⟩
theorem lw_p18 : lw_okq (⟨"SixWalls$Ways", "join", "(II)V"⟩, 3) := ⟨⟨by decide +kernel, by decide +kernel⟩, List.mem_of_getElem? (i := 224) (by decide +kernel), List.mem_of_getElem? (i := 662) (by decide +kernel), List.mem_of_getElem? (i := 663) (by decide +kernel)⟩
theorem lw_p19 : lw_okq (⟨"SixWalls$Ways", "listen", "(I)V"⟩, 3) := ⟨⟨by decide +kernel, by decide +kernel⟩, List.mem_of_getElem? (i := 224) (by decide +kernel), List.mem_of_getElem? (i := 695) (by decide +kernel), List.mem_of_getElem? (i := 696) (by decide +kernel)⟩
theorem lw_p20 : lw_okq (⟨"SixWalls$Ways", "pass", "(III)Z"⟩, 3) := ⟨⟨by decide +kernel, by decide +kernel⟩, List.mem_of_getElem? (i := 224) (by decide +kernel), List.mem_of_getElem? (i := 700) (by decide +kernel), List.mem_of_getElem? (i := 701) (by decide +kernel)⟩
theorem lw_p21 : lw_okq (⟨"SixWalls$Ways", "hearers", "(II)I"⟩, 3) := ⟨⟨by decide +kernel, by decide +kernel⟩, List.mem_of_getElem? (i := 224) (by decide +kernel), List.mem_of_getElem? (i := 713) (by decide +kernel), List.mem_of_getElem? (i := 714) (by decide +kernel)⟩
theorem lw_p22 : lw_okq (⟨"SixWalls$Masonry", "clashesOf", "([I)I"⟩, 4) := ⟨⟨by decide +kernel, by decide +kernel⟩, List.mem_of_getElem? (i := 205) (by decide +kernel), List.mem_of_getElem? (i := 725) (by decide +kernel), List.mem_of_getElem? (i := 726) (by decide +kernel)⟩
theorem lw_p23 : lw_okq (⟨"SixWalls$Masonry", "alike", "(II[I)I"⟩, 4) := ⟨⟨by decide +kernel, by decide +kernel⟩, List.mem_of_getElem? (i := 205) (by decide +kernel), List.mem_of_getElem? (i := 729) (by decide +kernel), List.mem_of_getElem? (i := 730) (by decide +kernel)⟩
theorem lw_p24 : lw_okq (⟨"SixWalls$Masonry", "alikeIn", "(III[I)I"⟩, 4) := ⟨⟨by decide +kernel, by decide +kernel⟩, List.mem_of_getElem? (i := 205) (by decide +kernel), List.mem_of_getElem? (i := 733) (by decide +kernel), List.mem_of_getElem? (i := 734) (by decide +kernel)⟩
theorem lw_p25 : lw_okq (⟨"SixWalls$Families", "befall", "(II)V"⟩, 4) := ⟨⟨by decide +kernel, by decide +kernel⟩, List.mem_of_getElem? (i := 240) (by decide +kernel), List.mem_of_getElem? (i := 790) (by decide +kernel), List.mem_of_getElem? (i := 791) (by decide +kernel)⟩
theorem lw_p26 : lw_okq (⟨"SixWalls$Families", "bear", "(I)V"⟩, 4) := ⟨⟨by decide +kernel, by decide +kernel⟩, List.mem_of_getElem? (i := 240) (by decide +kernel), List.mem_of_getElem? (i := 794) (by decide +kernel), List.mem_of_getElem? (i := 795) (by decide +kernel)⟩
theorem lw_p27 : lw_okq (⟨"SixWalls$Families", "feud", "(I)V"⟩, 4) := ⟨⟨by decide +kernel, by decide +kernel⟩, List.mem_of_getElem? (i := 240) (by decide +kernel), List.mem_of_getElem? (i := 798) (by decide +kernel), List.mem_of_getElem? (i := 799) (by decide +kernel)⟩
theorem lw_p28 : lw_okq (⟨"SixWalls$Cells", "from", "(IIII)I"⟩, 5) := ⟨⟨by decide +kernel, by decide +kernel⟩, List.mem_of_getElem? (i := 287) (by decide +kernel), List.mem_of_getElem? (i := 864) (by decide +kernel), List.mem_of_getElem? (i := 865) (by decide +kernel)⟩
theorem lw_p29 : lw_okq (⟨"SixWalls$Cells", "perform", "(IIII)I"⟩, 5) := ⟨⟨by decide +kernel, by decide +kernel⟩, List.mem_of_getElem? (i := 287) (by decide +kernel), List.mem_of_getElem? (i := 870) (by decide +kernel), List.mem_of_getElem? (i := 871) (by decide +kernel)⟩
theorem lw_p30 : lw_okq (⟨"SixWalls$Cells", "own", "(III)I"⟩, 5) := ⟨⟨by decide +kernel, by decide +kernel⟩, List.mem_of_getElem? (i := 287) (by decide +kernel), List.mem_of_getElem? (i := 874) (by decide +kernel), List.mem_of_getElem? (i := 875) (by decide +kernel)⟩
theorem lw_p31 : lw_okq (⟨"SixWalls$Shelves", "refusalOfRow", "(I)I"⟩, 4) := ⟨⟨by decide +kernel, by decide +kernel⟩, List.mem_of_getElem? (i := 309) (by decide +kernel), List.mem_of_getElem? (i := 916) (by decide +kernel), List.mem_of_getElem? (i := 917) (by decide +kernel)⟩
def lw_privs_2 : List (MethodName × Nat) := [(⟨"SixWalls$Ways", "besides", "(I)I"⟩, 3), (⟨"SixWalls$Ways", "gather", "()V"⟩, 3), (⟨"SixWalls$Ways", "join", "(II)V"⟩, 3), (⟨"SixWalls$Ways", "listen", "(I)V"⟩, 3), (⟨"SixWalls$Ways", "pass", "(III)Z"⟩, 3), (⟨"SixWalls$Ways", "hearers", "(II)I"⟩, 3), (⟨"SixWalls$Masonry", "clashesOf", "([I)I"⟩, 4), (⟨"SixWalls$Masonry", "alike", "(II[I)I"⟩, 4), (⟨"SixWalls$Masonry", "alikeIn", "(III[I)I"⟩, 4), (⟨"SixWalls$Families", "befall", "(II)V"⟩, 4), (⟨"SixWalls$Families", "bear", "(I)V"⟩, 4), (⟨"SixWalls$Families", "feud", "(I)V"⟩, 4), (⟨"SixWalls$Cells", "from", "(IIII)I"⟩, 5), (⟨"SixWalls$Cells", "perform", "(IIII)I"⟩, 5), (⟨"SixWalls$Cells", "own", "(III)I"⟩, 5), (⟨"SixWalls$Shelves", "refusalOfRow", "(I)I"⟩, 4)]
theorem lw_r2 : ∀ q ∈ lw_privs_2, lw_okq q := List.forall_mem_cons.mpr ⟨lw_p16, List.forall_mem_cons.mpr ⟨lw_p17, List.forall_mem_cons.mpr ⟨lw_p18, List.forall_mem_cons.mpr ⟨lw_p19, List.forall_mem_cons.mpr ⟨lw_p20, List.forall_mem_cons.mpr ⟨lw_p21, List.forall_mem_cons.mpr ⟨lw_p22, List.forall_mem_cons.mpr ⟨lw_p23, List.forall_mem_cons.mpr ⟨lw_p24, List.forall_mem_cons.mpr ⟨lw_p25, List.forall_mem_cons.mpr ⟨lw_p26, List.forall_mem_cons.mpr ⟨lw_p27, List.forall_mem_cons.mpr ⟨lw_p28, List.forall_mem_cons.mpr ⟨lw_p29, List.forall_mem_cons.mpr ⟨lw_p30, List.forall_mem_cons.mpr ⟨lw_p31, fun _ h => absurd h List.not_mem_nil⟩⟩⟩⟩⟩⟩⟩⟩⟩⟩⟩⟩⟩⟩⟩⟩
theorem lw_p32 : lw_okq (⟨"SixWallsModel", "wallOf", "(II)I"⟩, 44) := ⟨⟨by decide +kernel, by decide +kernel⟩, List.mem_of_getElem? (i := 987) (by decide +kernel), List.mem_of_getElem? (i := 1152) (by decide +kernel), List.mem_of_getElem? (i := 1153) (by decide +kernel)⟩
theorem lw_p33 : lw_okq (⟨"SixWallsModel", "becomes", "(II)I"⟩, 44) := ⟨⟨by decide +kernel, by decide +kernel⟩, List.mem_of_getElem? (i := 987) (by decide +kernel), List.mem_of_getElem? (i := 1161) (by decide +kernel), List.mem_of_getElem? (i := 1162) (by decide +kernel)⟩
theorem lw_p34 : lw_okq (⟨"SixWallsModel", "ofHouse", "(II)I"⟩, 44) := ⟨⟨by decide +kernel, by decide +kernel⟩, List.mem_of_getElem? (i := 987) (by decide +kernel), List.mem_of_getElem? (i := 1176) (by decide +kernel), List.mem_of_getElem? (i := 1177) (by decide +kernel)⟩
theorem lw_p35 : lw_okq (⟨"SixWallsModel", "neighboursOf", "(I)I"⟩, 44) := ⟨⟨by decide +kernel, by decide +kernel⟩, List.mem_of_getElem? (i := 987) (by decide +kernel), List.mem_of_getElem? (i := 1180) (by decide +kernel), List.mem_of_getElem? (i := 1181) (by decide +kernel)⟩
theorem lw_p36 : lw_okq (⟨"SixWallsModel", "asksThick", "()V"⟩, 44) := ⟨⟨by decide +kernel, by decide +kernel⟩, List.mem_of_getElem? (i := 987) (by decide +kernel), List.mem_of_getElem? (i := 1184) (by decide +kernel), List.mem_of_getElem? (i := 1185) (by decide +kernel)⟩
theorem lw_p37 : lw_okq (⟨"SixWallsModel", "borne", "(I)I"⟩, 44) := ⟨⟨by decide +kernel, by decide +kernel⟩, List.mem_of_getElem? (i := 987) (by decide +kernel), List.mem_of_getElem? (i := 1188) (by decide +kernel), List.mem_of_getElem? (i := 1189) (by decide +kernel)⟩
theorem lw_p38 : lw_okq (⟨"SixWallsModel", "ofWall", "(II)I"⟩, 44) := ⟨⟨by decide +kernel, by decide +kernel⟩, List.mem_of_getElem? (i := 987) (by decide +kernel), List.mem_of_getElem? (i := 1194) (by decide +kernel), List.mem_of_getElem? (i := 1195) (by decide +kernel)⟩
theorem lw_p39 : lw_okq (⟨"SixWallsModel", "agreedOf", "(I)I"⟩, 44) := ⟨⟨by decide +kernel, by decide +kernel⟩, List.mem_of_getElem? (i := 987) (by decide +kernel), List.mem_of_getElem? (i := 1198) (by decide +kernel), List.mem_of_getElem? (i := 1199) (by decide +kernel)⟩
theorem lw_p40 : lw_okq (⟨"SixWallsModel", "begins1", "()V"⟩, 44) := ⟨⟨by decide +kernel, by decide +kernel⟩, List.mem_of_getElem? (i := 987) (by decide +kernel), List.mem_of_getElem? (i := 1202) (by decide +kernel), List.mem_of_getElem? (i := 1203) (by decide +kernel)⟩
theorem lw_p41 : lw_okq (⟨"SixWallsModel", "flowOf", "(I)I"⟩, 44) := ⟨⟨by decide +kernel, by decide +kernel⟩, List.mem_of_getElem? (i := 987) (by decide +kernel), List.mem_of_getElem? (i := 1206) (by decide +kernel), List.mem_of_getElem? (i := 1207) (by decide +kernel)⟩
theorem lw_p42 : lw_okq (⟨"SixWallsModel", "throughOf", "(III)I"⟩, 44) := ⟨⟨by decide +kernel, by decide +kernel⟩, List.mem_of_getElem? (i := 987) (by decide +kernel), List.mem_of_getElem? (i := 1210) (by decide +kernel), List.mem_of_getElem? (i := 1211) (by decide +kernel)⟩
theorem lw_p43 : lw_okq (⟨"SixWallsModel", "workOut", "(II)I"⟩, 44) := ⟨⟨by decide +kernel, by decide +kernel⟩, List.mem_of_getElem? (i := 987) (by decide +kernel), List.mem_of_getElem? (i := 1214) (by decide +kernel), List.mem_of_getElem? (i := 1215) (by decide +kernel)⟩
theorem lw_p44 : lw_okq (⟨"SixWallsModel", "either", "()I"⟩, 44) := ⟨⟨by decide +kernel, by decide +kernel⟩, List.mem_of_getElem? (i := 987) (by decide +kernel), List.mem_of_getElem? (i := 1218) (by decide +kernel), List.mem_of_getElem? (i := 1219) (by decide +kernel)⟩
theorem lw_p45 : lw_okq (⟨"SixWallsModel", "both", "()I"⟩, 44) := ⟨⟨by decide +kernel, by decide +kernel⟩, List.mem_of_getElem? (i := 987) (by decide +kernel), List.mem_of_getElem? (i := 1222) (by decide +kernel), List.mem_of_getElem? (i := 1223) (by decide +kernel)⟩
theorem lw_p46 : lw_okq (⟨"SixWallsModel", "compared", "()I"⟩, 44) := ⟨⟨by decide +kernel, by decide +kernel⟩, List.mem_of_getElem? (i := 987) (by decide +kernel), List.mem_of_getElem? (i := 1226) (by decide +kernel), List.mem_of_getElem? (i := 1227) (by decide +kernel)⟩
theorem lw_p47 : lw_okq (⟨"SixWallsModel", "sums", "()I"⟩, 44) := ⟨⟨by decide +kernel, by decide +kernel⟩, List.mem_of_getElem? (i := 987) (by decide +kernel), List.mem_of_getElem? (i := 1230) (by decide +kernel), List.mem_of_getElem? (i := 1231) (by decide +kernel)⟩
def lw_privs_3 : List (MethodName × Nat) := [(⟨"SixWallsModel", "wallOf", "(II)I"⟩, 44), (⟨"SixWallsModel", "becomes", "(II)I"⟩, 44), (⟨"SixWallsModel", "ofHouse", "(II)I"⟩, 44), (⟨"SixWallsModel", "neighboursOf", "(I)I"⟩, 44), (⟨"SixWallsModel", "asksThick", "()V"⟩, 44), (⟨"SixWallsModel", "borne", "(I)I"⟩, 44), (⟨"SixWallsModel", "ofWall", "(II)I"⟩, 44), (⟨"SixWallsModel", "agreedOf", "(I)I"⟩, 44), (⟨"SixWallsModel", "begins1", "()V"⟩, 44), (⟨"SixWallsModel", "flowOf", "(I)I"⟩, 44), (⟨"SixWallsModel", "throughOf", "(III)I"⟩, 44), (⟨"SixWallsModel", "workOut", "(II)I"⟩, 44), (⟨"SixWallsModel", "either", "()I"⟩, 44), (⟨"SixWallsModel", "both", "()I"⟩, 44), (⟨"SixWallsModel", "compared", "()I"⟩, 44), (⟨"SixWallsModel", "sums", "()I"⟩, 44)]
theorem lw_r3 : ∀ q ∈ lw_privs_3, lw_okq q := List.forall_mem_cons.mpr ⟨lw_p32, List.forall_mem_cons.mpr ⟨lw_p33, List.forall_mem_cons.mpr ⟨lw_p34, List.forall_mem_cons.mpr ⟨lw_p35, List.forall_mem_cons.mpr ⟨lw_p36, List.forall_mem_cons.mpr ⟨lw_p37, List.forall_mem_cons.mpr ⟨lw_p38, List.forall_mem_cons.mpr ⟨lw_p39, List.forall_mem_cons.mpr ⟨lw_p40, List.forall_mem_cons.mpr ⟨lw_p41, List.forall_mem_cons.mpr ⟨lw_p42, List.forall_mem_cons.mpr ⟨lw_p43, List.forall_mem_cons.mpr ⟨lw_p44, List.forall_mem_cons.mpr ⟨lw_p45, List.forall_mem_cons.mpr ⟨lw_p46, List.forall_mem_cons.mpr ⟨lw_p47, fun _ h => absurd h List.not_mem_nil⟩⟩⟩⟩⟩⟩⟩⟩⟩⟩⟩⟩⟩⟩⟩⟩
theorem lw_p48 : lw_okq (⟨"SixWallsModel", "product", "()I"⟩, 44) := ⟨⟨by decide +kernel, by decide +kernel⟩, List.mem_of_getElem? (i := 987) (by decide +kernel), List.mem_of_getElem? (i := 1234) (by decide +kernel), List.mem_of_getElem? (i := 1235) (by decide +kernel)⟩
theorem lw_p49 : lw_okq (⟨"SixWallsModel", "oneOf", "()I"⟩, 44) := ⟨⟨by decide +kernel, by decide +kernel⟩, List.mem_of_getElem? (i := 987) (by decide +kernel), List.mem_of_getElem? (i := 1238) (by decide +kernel), List.mem_of_getElem? (i := 1239) (by decide +kernel)⟩
theorem lw_p50 : lw_okq (⟨"SixWallsModel", "byteAt", "()I"⟩, 44) := ⟨⟨by decide +kernel, by decide +kernel⟩, List.mem_of_getElem? (i := 987) (by decide +kernel), List.mem_of_getElem? (i := 1242) (by decide +kernel), List.mem_of_getElem? (i := 1243) (by decide +kernel)⟩
theorem lw_p51 : lw_okq (⟨"SixWallsModel", "wrong", "()I"⟩, 44) := ⟨⟨by decide +kernel, by decide +kernel⟩, List.mem_of_getElem? (i := 987) (by decide +kernel), List.mem_of_getElem? (i := 1246) (by decide +kernel), List.mem_of_getElem? (i := 1247) (by decide +kernel)⟩
theorem lw_p52 : lw_okq (⟨"SixWallsModel", "takesByte", "(I)Z"⟩, 44) := ⟨⟨by decide +kernel, by decide +kernel⟩, List.mem_of_getElem? (i := 987) (by decide +kernel), List.mem_of_getElem? (i := 1250) (by decide +kernel), List.mem_of_getElem? (i := 1251) (by decide +kernel)⟩
theorem lw_p53 : lw_okq (⟨"SixWallsModel", "winter", "(I)V"⟩, 44) := ⟨⟨by decide +kernel, by decide +kernel⟩, List.mem_of_getElem? (i := 987) (by decide +kernel), List.mem_of_getElem? (i := 1281) (by decide +kernel), List.mem_of_getElem? (i := 1282) (by decide +kernel)⟩
theorem lw_p54 : lw_okq (⟨"SixWallsModel", "dayGoes", "()Z"⟩, 44) := ⟨⟨by decide +kernel, by decide +kernel⟩, List.mem_of_getElem? (i := 987) (by decide +kernel), List.mem_of_getElem? (i := 1285) (by decide +kernel), List.mem_of_getElem? (i := 1286) (by decide +kernel)⟩
theorem lw_p55 : lw_okq (⟨"SixWallsModel", "allThen", "()I"⟩, 44) := ⟨⟨by decide +kernel, by decide +kernel⟩, List.mem_of_getElem? (i := 987) (by decide +kernel), List.mem_of_getElem? (i := 1289) (by decide +kernel), List.mem_of_getElem? (i := 1290) (by decide +kernel)⟩
theorem lw_p56 : lw_okq (⟨"SixWallsModel", "roundGoes", "()Z"⟩, 44) := ⟨⟨by decide +kernel, by decide +kernel⟩, List.mem_of_getElem? (i := 987) (by decide +kernel), List.mem_of_getElem? (i := 1322) (by decide +kernel), List.mem_of_getElem? (i := 1323) (by decide +kernel)⟩
theorem lw_p57 : lw_okq (⟨"SixWallsModel", "measures", "(IZ)V"⟩, 44) := ⟨⟨by decide +kernel, by decide +kernel⟩, List.mem_of_getElem? (i := 987) (by decide +kernel), List.mem_of_getElem? (i := 1330) (by decide +kernel), List.mem_of_getElem? (i := 1331) (by decide +kernel)⟩
theorem lw_p58 : lw_okq (⟨"SixWallsModel", "comesTo", "(II)Z"⟩, 44) := ⟨⟨by decide +kernel, by decide +kernel⟩, List.mem_of_getElem? (i := 987) (by decide +kernel), List.mem_of_getElem? (i := 1334) (by decide +kernel), List.mem_of_getElem? (i := 1335) (by decide +kernel)⟩
theorem lw_p59 : lw_okq (⟨"SixWallsModel", "livedIn", "()I"⟩, 44) := ⟨⟨by decide +kernel, by decide +kernel⟩, List.mem_of_getElem? (i := 987) (by decide +kernel), List.mem_of_getElem? (i := 1342) (by decide +kernel), List.mem_of_getElem? (i := 1343) (by decide +kernel)⟩
theorem lw_p60 : lw_okq (⟨"SixWallsModel", "outWith", "(J)I"⟩, 44) := ⟨⟨by decide +kernel, by decide +kernel⟩, List.mem_of_getElem? (i := 987) (by decide +kernel), List.mem_of_getElem? (i := 1346) (by decide +kernel), List.mem_of_getElem? (i := 1347) (by decide +kernel)⟩
theorem lw_p61 : lw_okq (⟨"SixWallsModel", "opens", "(IIJ)V"⟩, 44) := ⟨⟨by decide +kernel, by decide +kernel⟩, List.mem_of_getElem? (i := 987) (by decide +kernel), List.mem_of_getElem? (i := 1362) (by decide +kernel), List.mem_of_getElem? (i := 1363) (by decide +kernel)⟩
theorem lw_p62 : lw_okq (⟨"SixWallsModel", "asksColours", "()V"⟩, 44) := ⟨⟨by decide +kernel, by decide +kernel⟩, List.mem_of_getElem? (i := 987) (by decide +kernel), List.mem_of_getElem? (i := 1379) (by decide +kernel), List.mem_of_getElem? (i := 1380) (by decide +kernel)⟩
theorem lw_p63 : lw_okq (⟨"SixWallsModel", "bestColour", "(I)I"⟩, 44) := ⟨⟨by decide +kernel, by decide +kernel⟩, List.mem_of_getElem? (i := 987) (by decide +kernel), List.mem_of_getElem? (i := 1383) (by decide +kernel), List.mem_of_getElem? (i := 1384) (by decide +kernel)⟩
def lw_privs_4 : List (MethodName × Nat) := [(⟨"SixWallsModel", "product", "()I"⟩, 44), (⟨"SixWallsModel", "oneOf", "()I"⟩, 44), (⟨"SixWallsModel", "byteAt", "()I"⟩, 44), (⟨"SixWallsModel", "wrong", "()I"⟩, 44), (⟨"SixWallsModel", "takesByte", "(I)Z"⟩, 44), (⟨"SixWallsModel", "winter", "(I)V"⟩, 44), (⟨"SixWallsModel", "dayGoes", "()Z"⟩, 44), (⟨"SixWallsModel", "allThen", "()I"⟩, 44), (⟨"SixWallsModel", "roundGoes", "()Z"⟩, 44), (⟨"SixWallsModel", "measures", "(IZ)V"⟩, 44), (⟨"SixWallsModel", "comesTo", "(II)Z"⟩, 44), (⟨"SixWallsModel", "livedIn", "()I"⟩, 44), (⟨"SixWallsModel", "outWith", "(J)I"⟩, 44), (⟨"SixWallsModel", "opens", "(IIJ)V"⟩, 44), (⟨"SixWallsModel", "asksColours", "()V"⟩, 44), (⟨"SixWallsModel", "bestColour", "(I)I"⟩, 44)]
theorem lw_r4 : ∀ q ∈ lw_privs_4, lw_okq q := List.forall_mem_cons.mpr ⟨lw_p48, List.forall_mem_cons.mpr ⟨lw_p49, List.forall_mem_cons.mpr ⟨lw_p50, List.forall_mem_cons.mpr ⟨lw_p51, List.forall_mem_cons.mpr ⟨lw_p52, List.forall_mem_cons.mpr ⟨lw_p53, List.forall_mem_cons.mpr ⟨lw_p54, List.forall_mem_cons.mpr ⟨lw_p55, List.forall_mem_cons.mpr ⟨lw_p56, List.forall_mem_cons.mpr ⟨lw_p57, List.forall_mem_cons.mpr ⟨lw_p58, List.forall_mem_cons.mpr ⟨lw_p59, List.forall_mem_cons.mpr ⟨lw_p60, List.forall_mem_cons.mpr ⟨lw_p61, List.forall_mem_cons.mpr ⟨lw_p62, List.forall_mem_cons.mpr ⟨lw_p63, fun _ h => absurd h List.not_mem_nil⟩⟩⟩⟩⟩⟩⟩⟩⟩⟩⟩⟩⟩⟩⟩⟩
theorem lw_p64 : lw_okq (⟨"SixWallsModel", "clashes", "()I"⟩, 44) := ⟨⟨by decide +kernel, by decide +kernel⟩, List.mem_of_getElem? (i := 987) (by decide +kernel), List.mem_of_getElem? (i := 1387) (by decide +kernel), List.mem_of_getElem? (i := 1388) (by decide +kernel)⟩
theorem lw_p65 : lw_okq (⟨"SixWallsModel", "whoTakes", "(I)I"⟩, 44) := ⟨⟨by decide +kernel, by decide +kernel⟩, List.mem_of_getElem? (i := 987) (by decide +kernel), List.mem_of_getElem? (i := 1403) (by decide +kernel), List.mem_of_getElem? (i := 1404) (by decide +kernel)⟩
theorem lw_p66 : lw_okq (⟨"SixWallsModel", "isBorn", "(I)V"⟩, 44) := ⟨⟨by decide +kernel, by decide +kernel⟩, List.mem_of_getElem? (i := 987) (by decide +kernel), List.mem_of_getElem? (i := 1416) (by decide +kernel), List.mem_of_getElem? (i := 1417) (by decide +kernel)⟩
theorem lw_p67 : lw_okq (⟨"SixWallsModel", "feuds", "(I)V"⟩, 44) := ⟨⟨by decide +kernel, by decide +kernel⟩, List.mem_of_getElem? (i := 987) (by decide +kernel), List.mem_of_getElem? (i := 1420) (by decide +kernel), List.mem_of_getElem? (i := 1421) (by decide +kernel)⟩
theorem lw_p68 : lw_okq (⟨"SixWallsModel", "allWarmth", "()I"⟩, 44) := ⟨⟨by decide +kernel, by decide +kernel⟩, List.mem_of_getElem? (i := 987) (by decide +kernel), List.mem_of_getElem? (i := 1428) (by decide +kernel), List.mem_of_getElem? (i := 1429) (by decide +kernel)⟩
theorem lw_p69 : lw_okq (⟨"SixWallsModel", "isBody", "(I)Z"⟩, 44) := ⟨⟨by decide +kernel, by decide +kernel⟩, List.mem_of_getElem? (i := 987) (by decide +kernel), List.mem_of_getElem? (i := 1445) (by decide +kernel), List.mem_of_getElem? (i := 1446) (by decide +kernel)⟩
theorem lw_p70 : lw_okq (⟨"SixWallsModel", "warmsAs", "(II)I"⟩, 44) := ⟨⟨by decide +kernel, by decide +kernel⟩, List.mem_of_getElem? (i := 987) (by decide +kernel), List.mem_of_getElem? (i := 1449) (by decide +kernel), List.mem_of_getElem? (i := 1450) (by decide +kernel)⟩
theorem lw_p71 : lw_okq (⟨"SixWallsModel", "begins", "(I)V"⟩, 44) := ⟨⟨by decide +kernel, by decide +kernel⟩, List.mem_of_getElem? (i := 987) (by decide +kernel), List.mem_of_getElem? (i := 1453) (by decide +kernel), List.mem_of_getElem? (i := 1454) (by decide +kernel)⟩
theorem lw_p72 : lw_okq (⟨"SixWallsModel", "wallsAs", "(II)I"⟩, 44) := ⟨⟨by decide +kernel, by decide +kernel⟩, List.mem_of_getElem? (i := 987) (by decide +kernel), List.mem_of_getElem? (i := 1457) (by decide +kernel), List.mem_of_getElem? (i := 1458) (by decide +kernel)⟩
theorem lw_p73 : lw_okq (⟨"SixWallsModel", "pipesAs", "(II)I"⟩, 44) := ⟨⟨by decide +kernel, by decide +kernel⟩, List.mem_of_getElem? (i := 987) (by decide +kernel), List.mem_of_getElem? (i := 1461) (by decide +kernel), List.mem_of_getElem? (i := 1462) (by decide +kernel)⟩
theorem lw_p74 : lw_okq (⟨"SixWallsModel", "tellsAs", "(II)I"⟩, 44) := ⟨⟨by decide +kernel, by decide +kernel⟩, List.mem_of_getElem? (i := 987) (by decide +kernel), List.mem_of_getElem? (i := 1465) (by decide +kernel), List.mem_of_getElem? (i := 1466) (by decide +kernel)⟩
theorem lw_p75 : lw_okq (⟨"SixWallsModel", "refusal", "(II)I"⟩, 44) := ⟨⟨by decide +kernel, by decide +kernel⟩, List.mem_of_getElem? (i := 987) (by decide +kernel), List.mem_of_getElem? (i := 1486) (by decide +kernel), List.mem_of_getElem? (i := 1487) (by decide +kernel)⟩
theorem lw_p76 : lw_okq (⟨"SixWallsModel", "kindOf", "(I)I"⟩, 44) := ⟨⟨by decide +kernel, by decide +kernel⟩, List.mem_of_getElem? (i := 987) (by decide +kernel), List.mem_of_getElem? (i := 1505) (by decide +kernel), List.mem_of_getElem? (i := 1506) (by decide +kernel)⟩
theorem lw_p77 : lw_okq (⟨"SixWallsModel", "doorMany", "()I"⟩, 44) := ⟨⟨by decide +kernel, by decide +kernel⟩, List.mem_of_getElem? (i := 987) (by decide +kernel), List.mem_of_getElem? (i := 1516) (by decide +kernel), List.mem_of_getElem? (i := 1517) (by decide +kernel)⟩
def lw_privs_5 : List (MethodName × Nat) := [(⟨"SixWallsModel", "clashes", "()I"⟩, 44), (⟨"SixWallsModel", "whoTakes", "(I)I"⟩, 44), (⟨"SixWallsModel", "isBorn", "(I)V"⟩, 44), (⟨"SixWallsModel", "feuds", "(I)V"⟩, 44), (⟨"SixWallsModel", "allWarmth", "()I"⟩, 44), (⟨"SixWallsModel", "isBody", "(I)Z"⟩, 44), (⟨"SixWallsModel", "warmsAs", "(II)I"⟩, 44), (⟨"SixWallsModel", "begins", "(I)V"⟩, 44), (⟨"SixWallsModel", "wallsAs", "(II)I"⟩, 44), (⟨"SixWallsModel", "pipesAs", "(II)I"⟩, 44), (⟨"SixWallsModel", "tellsAs", "(II)I"⟩, 44), (⟨"SixWallsModel", "refusal", "(II)I"⟩, 44), (⟨"SixWallsModel", "kindOf", "(I)I"⟩, 44), (⟨"SixWallsModel", "doorMany", "()I"⟩, 44)]
theorem lw_r5 : ∀ q ∈ lw_privs_5, lw_okq q := List.forall_mem_cons.mpr ⟨lw_p64, List.forall_mem_cons.mpr ⟨lw_p65, List.forall_mem_cons.mpr ⟨lw_p66, List.forall_mem_cons.mpr ⟨lw_p67, List.forall_mem_cons.mpr ⟨lw_p68, List.forall_mem_cons.mpr ⟨lw_p69, List.forall_mem_cons.mpr ⟨lw_p70, List.forall_mem_cons.mpr ⟨lw_p71, List.forall_mem_cons.mpr ⟨lw_p72, List.forall_mem_cons.mpr ⟨lw_p73, List.forall_mem_cons.mpr ⟨lw_p74, List.forall_mem_cons.mpr ⟨lw_p75, List.forall_mem_cons.mpr ⟨lw_p76, List.forall_mem_cons.mpr ⟨lw_p77, fun _ h => absurd h List.not_mem_nil⟩⟩⟩⟩⟩⟩⟩⟩⟩⟩⟩⟩⟩⟩
def lw_privs : List (MethodName × Nat) := lw_privs_1 ++ (lw_privs_2 ++ (lw_privs_3 ++ (lw_privs_4 ++ (lw_privs_5))))
def lw_tbl : List Cond := k2_sels lw_privs ++ tables_1
theorem lw_privs_ok : ∀ q ∈ lw_privs, lw_okq q := by
  show ∀ q ∈ lw_privs_1 ++ (lw_privs_2 ++ (lw_privs_3 ++ (lw_privs_4 ++ (lw_privs_5)))), lw_okq q
  exact List.forall_mem_append.mpr ⟨lw_r1, List.forall_mem_append.mpr ⟨lw_r2, List.forall_mem_append.mpr ⟨lw_r3, List.forall_mem_append.mpr ⟨lw_r4, lw_r5⟩⟩⟩⟩
def zR0 : String := "SixWalls$Cells"
def zT0 : u_T := fun k => match k with
  | 0 => ("SixWalls$Cells", "kinds", "[I", true)
  | 1 => ("SixWalls$Cells", "many", "I", false)
  | 2 => ("SixWalls$Cells", "traced", "[I", true)
  | 3 => ("SixWalls$Cells", "ran", "I", false)
  | _ => ("SixWalls$Cells", "self", "I", false)
def zty0 : Nat → FieldType := fun k => match k with
  | 0 => .array .int
  | 1 => .int
  | 2 => .array .int
  | 3 => .int
  | _ => .int
theorem znm0 : ∀ a, a < 5 → ∀ b, b < 5 → a ≠ b → (zT0 a).2.1 ≠ (zT0 b).2.1 := by decide +kernel
theorem zty0_ok : ∀ k, k < 5 → parseFieldDescriptor (zT0 k).2.2.1 = some (zty0 k) := by decide +kernel
theorem zin0 : ∀ w ∈ u_ws zR0 zT0 5, w ∈ lw_tbl := by decide +kernel
def zR1 : String := "SixWalls$Comb"
def zT1 : u_T := fun k => match k with
  | 0 => ("SixWalls$Comb", "low", "[I", true)
  | 1 => ("SixWalls$Comb", "high", "[I", true)
  | 2 => ("SixWalls$Comb", "sides", "[I", true)
  | 3 => ("SixWalls$Comb", "wallAt", "[I", true)
  | 4 => ("SixWalls$Comb", "nextAt", "[I", true)
  | 5 => ("SixWalls$Comb", "lived", "[I", true)
  | 6 => ("SixWalls$Comb", "fire", "[I", true)
  | 7 => ("SixWalls$Comb", "warm", "[I", true)
  | 8 => ("SixWalls$Comb", "want", "[I", true)
  | 9 => ("SixWalls$Comb", "thick", "[I", true)
  | 10 => ("SixWalls$Comb", "door", "[I", true)
  | 11 => ("SixWalls$Comb", "colour", "[I", true)
  | 12 => ("SixWalls$Comb", "frost", "I", false)
  | _ => ("SixWalls$Comb", "bear", "I", false)
def zty1 : Nat → FieldType := fun k => match k with
  | 0 => .array .int
  | 1 => .array .int
  | 2 => .array .int
  | 3 => .array .int
  | 4 => .array .int
  | 5 => .array .int
  | 6 => .array .int
  | 7 => .array .int
  | 8 => .array .int
  | 9 => .array .int
  | 10 => .array .int
  | 11 => .array .int
  | 12 => .int
  | _ => .int
theorem znm1 : ∀ a, a < 14 → ∀ b, b < 14 → a ≠ b → (zT1 a).2.1 ≠ (zT1 b).2.1 := by decide +kernel
theorem zty1_ok : ∀ k, k < 14 → parseFieldDescriptor (zT1 k).2.2.1 = some (zty1 k) := by decide +kernel
theorem zin1 : ∀ w ∈ u_ws zR1 zT1 14, w ∈ lw_tbl := by decide +kernel
def zR2 : String := "SixWalls$Families"
def zT2 : u_T := fun k => match k with
  | 0 => ("SixWalls$Families", "comb", "LSixWalls$Comb;", true)
  | 1 => ("SixWalls$Families", "imageWarm", "[I", true)
  | 2 => ("SixWalls$Families", "imageLived", "[I", true)
  | _ => ("SixWalls$Families", "imaged", "Z", false)
def zty2 : Nat → FieldType := fun k => match k with
  | 0 => .object "SixWalls$Comb"
  | 1 => .array .int
  | 2 => .array .int
  | _ => .boolean
theorem znm2 : ∀ a, a < 4 → ∀ b, b < 4 → a ≠ b → (zT2 a).2.1 ≠ (zT2 b).2.1 := by decide +kernel
theorem zty2_ok : ∀ k, k < 4 → parseFieldDescriptor (zT2 k).2.2.1 = some (zty2 k) := by decide +kernel
theorem zin2 : ∀ w ∈ u_ws zR2 zT2 4, w ∈ lw_tbl := by decide +kernel
def zR3 : String := "SixWalls$History"
def zT3 : u_T := fun k => match k with
  | 0 => ("SixWalls$History", "comb", "LSixWalls$Comb;", true)
  | 1 => ("SixWalls$History", "number", "[I", true)
  | 2 => ("SixWalls$History", "what", "[I", true)
  | 3 => ("SixWalls$History", "before", "[I", true)
  | 4 => ("SixWalls$History", "after", "[I", true)
  | 5 => ("SixWalls$History", "standing", "I", false)
  | _ => ("SixWalls$History", "kept", "I", false)
def zty3 : Nat → FieldType := fun k => match k with
  | 0 => .object "SixWalls$Comb"
  | 1 => .array .int
  | 2 => .array .int
  | 3 => .array .int
  | 4 => .array .int
  | 5 => .int
  | _ => .int
theorem znm3 : ∀ a, a < 7 → ∀ b, b < 7 → a ≠ b → (zT3 a).2.1 ≠ (zT3 b).2.1 := by decide +kernel
theorem zty3_ok : ∀ k, k < 7 → parseFieldDescriptor (zT3 k).2.2.1 = some (zty3 k) := by decide +kernel
theorem zin3 : ∀ w ∈ u_ws zR3 zT3 7, w ∈ lw_tbl := by decide +kernel
def zR4 : String := "SixWalls$LawText"
def zT4 : u_T := fun k => match k with
  | 0 => ("SixWalls$LawText", "tape", "[I", true)
  | 1 => ("SixWalls$LawText", "fed", "I", false)
  | 2 => ("SixWalls$LawText", "at", "I", false)
  | 3 => ("SixWalls$LawText", "wrong", "Z", false)
  | 4 => ("SixWalls$LawText", "signs", "[I", false)
  | 5 => ("SixWalls$LawText", "numbers", "[I", false)
  | 6 => ("SixWalls$LawText", "size", "I", false)
  | 7 => ("SixWalls$LawText", "newSigns", "[I", false)
  | 8 => ("SixWalls$LawText", "newNumbers", "[I", false)
  | 9 => ("SixWalls$LawText", "newSize", "I", false)
  | _ => ("SixWalls$LawText", "stack", "[I", true)
def zty4 : Nat → FieldType := fun k => match k with
  | 0 => .array .int
  | 1 => .int
  | 2 => .int
  | 3 => .boolean
  | 4 => .array .int
  | 5 => .array .int
  | 6 => .int
  | 7 => .array .int
  | 8 => .array .int
  | 9 => .int
  | _ => .array .int
theorem znm4 : ∀ a, a < 11 → ∀ b, b < 11 → a ≠ b → (zT4 a).2.1 ≠ (zT4 b).2.1 := by decide +kernel
theorem zty4_ok : ∀ k, k < 11 → parseFieldDescriptor (zT4 k).2.2.1 = some (zty4 k) := by decide +kernel
theorem zin4 : ∀ w ∈ u_ws zR4 zT4 11, w ∈ lw_tbl := by decide +kernel
def zR5 : String := "SixWalls$Masonry"
def zT5 : u_T := fun k => match k with
  | 0 => ("SixWalls$Masonry", "comb", "LSixWalls$Comb;", true)
  | 1 => ("SixWalls$Masonry", "thick", "[I", true)
  | 2 => ("SixWalls$Masonry", "load", "[I", true)
  | _ => ("SixWalls$Masonry", "paints", "[I", true)
def zty5 : Nat → FieldType := fun k => match k with
  | 0 => .object "SixWalls$Comb"
  | 1 => .array .int
  | 2 => .array .int
  | _ => .array .int
theorem znm5 : ∀ a, a < 4 → ∀ b, b < 4 → a ≠ b → (zT5 a).2.1 ≠ (zT5 b).2.1 := by decide +kernel
theorem zty5_ok : ∀ k, k < 4 → parseFieldDescriptor (zT5 k).2.2.1 = some (zty5 k) := by decide +kernel
theorem zin5 : ∀ w ∈ u_ws zR5 zT5 4, w ∈ lw_tbl := by decide +kernel
def zR6 : String := "SixWalls$Shelves"
def zT6 : u_T := fun k => match k with
  | 0 => ("SixWalls$Shelves", "held", "[I", true)
  | 1 => ("SixWalls$Shelves", "cell", "[I", true)
  | 2 => ("SixWalls$Shelves", "size", "[I", true)
  | _ => ("SixWalls$Shelves", "rows", "[[J", true)
def zty6 : Nat → FieldType := fun k => match k with
  | 0 => .array .int
  | 1 => .array .int
  | 2 => .array .int
  | _ => .array (.array .long)
theorem znm6 : ∀ a, a < 4 → ∀ b, b < 4 → a ≠ b → (zT6 a).2.1 ≠ (zT6 b).2.1 := by decide +kernel
theorem zty6_ok : ∀ k, k < 4 → parseFieldDescriptor (zT6 k).2.2.1 = some (zty6 k) := by decide +kernel
theorem zin6 : ∀ w ∈ u_ws zR6 zT6 4, w ∈ lw_tbl := by decide +kernel
def zR7 : String := "SixWalls$Ways"
def zT7 : u_T := fun k => match k with
  | 0 => ("SixWalls$Ways", "comb", "LSixWalls$Comb;", true)
  | 1 => ("SixWalls$Ways", "company", "[I", true)
  | _ => ("SixWalls$Ways", "loss", "[I", true)
def zty7 : Nat → FieldType := fun k => match k with
  | 0 => .object "SixWalls$Comb"
  | 1 => .array .int
  | _ => .array .int
theorem znm7 : ∀ a, a < 3 → ∀ b, b < 3 → a ≠ b → (zT7 a).2.1 ≠ (zT7 b).2.1 := by decide +kernel
theorem zty7_ok : ∀ k, k < 3 → parseFieldDescriptor (zT7 k).2.2.1 = some (zty7 k) := by decide +kernel
theorem zin7 : ∀ w ∈ u_ws zR7 zT7 3, w ∈ lw_tbl := by decide +kernel
def zR8 : String := "SixWalls$Winter"
def zT8 : u_T := fun k => match k with
  | 0 => ("SixWalls$Winter", "comb", "LSixWalls$Comb;", true)
  | 1 => ("SixWalls$Winter", "text", "LSixWalls$LawText;", true)
  | 2 => ("SixWalls$Winter", "thought", "[I", true)
  | 3 => ("SixWalls$Winter", "hearth", "[I", true)
  | 4 => ("SixWalls$Winter", "went", "[I", true)
  | 5 => ("SixWalls$Winter", "gain", "[I", true)
  | 6 => ("SixWalls$Winter", "latest", "[I", true)
  | _ => ("SixWalls$Winter", "passed", "I", false)
def zty8 : Nat → FieldType := fun k => match k with
  | 0 => .object "SixWalls$Comb"
  | 1 => .object "SixWalls$LawText"
  | 2 => .array .int
  | 3 => .array .int
  | 4 => .array .int
  | 5 => .array .int
  | 6 => .array .int
  | _ => .int
theorem znm8 : ∀ a, a < 8 → ∀ b, b < 8 → a ≠ b → (zT8 a).2.1 ≠ (zT8 b).2.1 := by decide +kernel
theorem zty8_ok : ∀ k, k < 8 → parseFieldDescriptor (zT8 k).2.2.1 = some (zty8 k) := by decide +kernel
theorem zin8 : ∀ w ∈ u_ws zR8 zT8 8, w ∈ lw_tbl := by decide +kernel
def zR9 : String := "SixWalls"
def zT9 : u_T := fun k => match k with
  | 0 => ("SixWalls", "comb", "LSixWalls$Comb;", true)
  | 1 => ("SixWalls", "text", "LSixWalls$LawText;", true)
  | 2 => ("SixWalls", "winter", "LSixWalls$Winter;", true)
  | 3 => ("SixWalls", "masonry", "LSixWalls$Masonry;", true)
  | 4 => ("SixWalls", "ways", "LSixWalls$Ways;", true)
  | 5 => ("SixWalls", "families", "LSixWalls$Families;", true)
  | 6 => ("SixWalls", "history", "LSixWalls$History;", true)
  | 7 => ("SixWalls", "cells", "LSixWalls$Cells;", true)
  | _ => ("SixWalls", "shelves", "LSixWalls$Shelves;", true)
def zty9 : Nat → FieldType := fun k => match k with
  | 0 => .object "SixWalls$Comb"
  | 1 => .object "SixWalls$LawText"
  | 2 => .object "SixWalls$Winter"
  | 3 => .object "SixWalls$Masonry"
  | 4 => .object "SixWalls$Ways"
  | 5 => .object "SixWalls$Families"
  | 6 => .object "SixWalls$History"
  | 7 => .object "SixWalls$Cells"
  | _ => .object "SixWalls$Shelves"
theorem znm9 : ∀ a, a < 9 → ∀ b, b < 9 → a ≠ b → (zT9 a).2.1 ≠ (zT9 b).2.1 := by decide +kernel
theorem zty9_ok : ∀ k, k < 9 → parseFieldDescriptor (zT9 k).2.2.1 = some (zty9 k) := by decide +kernel
theorem zin9 : ∀ w ∈ u_ws zR9 zT9 9, w ∈ lw_tbl := by decide +kernel
def zR10 : String := "SixWallsModel"
def zT10 : u_T := fun k => match k with
  | 0 => ("SixWallsModel", "may", "[I", true)
  | 1 => ("SixWallsModel", "changeAt", "[I", true)
  | 2 => ("SixWallsModel", "changeWas", "[I", true)
  | 3 => ("SixWallsModel", "changeIs", "[I", true)
  | 4 => ("SixWallsModel", "keptMany", "I", false)
  | 5 => ("SixWallsModel", "done", "I", false)
  | 6 => ("SixWallsModel", "walls", "I", false)
  | 7 => ("SixWallsModel", "one", "[I", true)
  | 8 => ("SixWallsModel", "other", "[I", true)
  | 9 => ("SixWallsModel", "warmth", "[I", true)
  | 10 => ("SixWallsModel", "lives", "[Z", true)
  | 11 => ("SixWallsModel", "tape", "[I", true)
  | 12 => ("SixWallsModel", "tapeMany", "I", false)
  | 13 => ("SixWallsModel", "text", "[I", true)
  | 14 => ("SixWallsModel", "textMany", "I", false)
  | 15 => ("SixWallsModel", "base", "I", false)
  | 16 => ("SixWallsModel", "at", "I", false)
  | 17 => ("SixWallsModel", "ends", "I", false)
  | 18 => ("SixWallsModel", "fault", "I", false)
  | 19 => ("SixWallsModel", "opened1", "I", false)
  | 20 => ("SixWallsModel", "names", "[I", true)
  | 21 => ("SixWallsModel", "then", "[I", true)
  | 22 => ("SixWallsModel", "next", "[I", true)
  | 23 => ("SixWallsModel", "flows", "[I", true)
  | 24 => ("SixWallsModel", "gone", "[I", true)
  | 25 => ("SixWallsModel", "daysDone", "I", false)
  | 26 => ("SixWallsModel", "ledFlow", "[I", true)
  | 27 => ("SixWallsModel", "thick", "[I", true)
  | 28 => ("SixWallsModel", "far", "[I", true)
  | 29 => ("SixWallsModel", "openBest", "J", false)
  | 30 => ("SixWallsModel", "colour", "[I", true)
  | 31 => ("SixWallsModel", "isKept", "Z", false)
  | 32 => ("SixWallsModel", "imageWarmth", "[I", true)
  | 33 => ("SixWallsModel", "imageLives", "[Z", true)
  | 34 => ("SixWallsModel", "bodies", "I", false)
  | 35 => ("SixWallsModel", "bodyKind", "[I", true)
  | 36 => ("SixWallsModel", "trace", "[I", true)
  | 37 => ("SixWallsModel", "ran", "I", false)
  | 38 => ("SixWallsModel", "ownKind", "I", false)
  | 39 => ("SixWallsModel", "ownNumber", "I", false)
  | 40 => ("SixWallsModel", "shelf", "[I", true)
  | 41 => ("SixWallsModel", "many", "[I", true)
  | 42 => ("SixWallsModel", "items", "[J", true)
  | _ => ("SixWallsModel", "carried", "[J", true)
def zty10 : Nat → FieldType := fun k => match k with
  | 0 => .array .int
  | 1 => .array .int
  | 2 => .array .int
  | 3 => .array .int
  | 4 => .int
  | 5 => .int
  | 6 => .int
  | 7 => .array .int
  | 8 => .array .int
  | 9 => .array .int
  | 10 => .array .boolean
  | 11 => .array .int
  | 12 => .int
  | 13 => .array .int
  | 14 => .int
  | 15 => .int
  | 16 => .int
  | 17 => .int
  | 18 => .int
  | 19 => .int
  | 20 => .array .int
  | 21 => .array .int
  | 22 => .array .int
  | 23 => .array .int
  | 24 => .array .int
  | 25 => .int
  | 26 => .array .int
  | 27 => .array .int
  | 28 => .array .int
  | 29 => .long
  | 30 => .array .int
  | 31 => .boolean
  | 32 => .array .int
  | 33 => .array .boolean
  | 34 => .int
  | 35 => .array .int
  | 36 => .array .int
  | 37 => .int
  | 38 => .int
  | 39 => .int
  | 40 => .array .int
  | 41 => .array .int
  | 42 => .array .long
  | _ => .array .long
theorem znm10 : ∀ a, a < 44 → ∀ b, b < 44 → a ≠ b → (zT10 a).2.1 ≠ (zT10 b).2.1 := by decide +kernel
theorem zty10_ok : ∀ k, k < 44 → parseFieldDescriptor (zT10 k).2.2.1 = some (zty10 k) := by decide +kernel
theorem zin10 : ∀ w ∈ u_ws zR10 zT10 44, w ∈ lw_tbl := by decide +kernel
def zcl : List vw_C := [(zR0, zT0, 5), (zR1, zT1, 14), (zR2, zT2, 4), (zR3, zT3, 7), (zR4, zT4, 11), (zR5, zT5, 4), (zR6, zT6, 4), (zR7, zT7, 3), (zR8, zT8, 8), (zR9, zT9, 9), (zR10, zT10, 44)]
def zty : Nat → Nat → FieldType := fun c => match c with
  | 0 => zty0
  | 1 => zty1
  | 2 => zty2
  | 3 => zty3
  | 4 => zty4
  | 5 => zty5
  | 6 => zty6
  | 7 => zty7
  | 8 => zty8
  | 9 => zty9
  | _ => zty10
theorem zcl_ok : ∀ (ci : Nat) (q : vw_C), zcl[ci]? = some q → (∀ w ∈ u_ws q.1 q.2.1 q.2.2, w ∈ lw_tbl) ∧ (∀ k, k < q.2.2 → parseFieldDescriptor (q.2.1 k).2.2.1 = some (zty ci k)) ∧ (∀ a, a < q.2.2 → ∀ b, b < q.2.2 → a ≠ b → (q.2.1 a).2.1 ≠ (q.2.1 b).2.1) := by
  intro ci q h
  match ci, h with
  | 0, h => cases h; exact ⟨zin0, zty0_ok, znm0⟩
  | 1, h => cases h; exact ⟨zin1, zty1_ok, znm1⟩
  | 2, h => cases h; exact ⟨zin2, zty2_ok, znm2⟩
  | 3, h => cases h; exact ⟨zin3, zty3_ok, znm3⟩
  | 4, h => cases h; exact ⟨zin4, zty4_ok, znm4⟩
  | 5, h => cases h; exact ⟨zin5, zty5_ok, znm5⟩
  | 6, h => cases h; exact ⟨zin6, zty6_ok, znm6⟩
  | 7, h => cases h; exact ⟨zin7, zty7_ok, znm7⟩
  | 8, h => cases h; exact ⟨zin8, zty8_ok, znm8⟩
  | 9, h => cases h; exact ⟨zin9, zty9_ok, znm9⟩
  | 10, h => cases h; exact ⟨zin10, zty10_ok, znm10⟩
  | k + 11, h => simp [zcl] at h
theorem zgood : GoodIn lw_tbl (lw_tbl.filter goodWord) := by
  intro w hw
  obtain ⟨h1, h2⟩ := List.mem_filter.mp hw
  exact ⟨h1, good_of_word h2⟩
end
section
/-! a small machine of whole numbers over the kit's machine: values, shapes, a memory, and the judgement zW over them -/
abbrev zV : Type := Int ⊕ Int ⊕ Int
abbrev zSh : Type := Nat × Nat
abbrev zMm : Type := Int → Int → Int
abbrev zM : Type := MethodName × ByteArray × Nat × Option FieldType
def zrf (ad : Int → Nat) (r : Int) : Value := if r = -1 then .null else .ref (ad r)
def zc (ad : Int → Nat) (v : zV) : Value := match v with
  | .inl x => .int (Int32.ofInt x)
  | .inr (.inl x) => .long (Int64.ofInt x)
  | .inr (.inr r) => zrf ad r
def zisr (ty : FieldType) : Bool := match ty with
  | .object _ => true
  | .array _ => true
  | _ => false
def zfv (ad : Int → Nat) (ty : FieldType) (x g : Int) : Value := match ty with
  | .long => .long (Int64.ofInt x)
  | .object _ => zrf ad g
  | .array _ => zrf ad g
  | _ => .int (Int32.ofInt x)
/-- a cell: its shape (0 ints, 1 booleans, 2 longs, 3 rows of longs, ci + 4 an object of class ci), its row of numbers, its row of references -/
def zE (ad : Int → Nat) (cA : FieldType → ClassId) (sh : zSh) (f g : Int → Int) : va_E := match sh.1 with
  | 0 => .inl (cA .int, sh.2, .inl (fun (j : Nat) => Int32.ofInt (f j)))
  | 1 => .inl (cA .boolean, sh.2, .inl (fun (j : Nat) => Int32.ofInt (f j)))
  | 2 => .inl (cA .long, sh.2, .inr (.inl (fun (j : Nat) => Int64.ofInt (f j))))
  | 3 => .inl (cA (.array .long), sh.2, .inr (.inr (.inr (.inr (fun (j : Nat) => if j < sh.2 then (if g j = -1 then none else some (ad (g j))) else none)))))
  | ci + 4 => .inr (ci, (List.range sh.2).map (fun (j : Nat) => zfv ad (zty ci j) (f j) (g j)))
/-- the references of cell r lie in row -10 - r -/
def zWs (ad : Int → Nat) (cA : FieldType → ClassId) (S : List zSh) (M : zMm) : va_W := (List.range S.length).map (fun (i : Nat) => (ad i, zE ad cA (S.getD i (0, 0)) (M i) (M (-10 - (i : Int)))))
def ztys (cA : FieldType → ClassId) : List (ClassId × FieldType) := [(cA .int, .int), (cA .boolean, .boolean), (cA .long, .long), (cA (.array .long), .array .long)]
def zup (M : zMm) (c k v : Int) : zMm := fun c' k' => if c' = c ∧ k' = k then v else M c' k'
def z32 (x : Int) : Prop := -2147483648 ≤ x ∧ x < 2147483648
def z64 (x : Int) : Prop := -9223372036854775808 ≤ x ∧ x < 9223372036854775808
def zrr (n : Nat) (r : Int) : Prop := -4 ≤ r ∧ r < n
def zok1 (n : Nat) (ty : FieldType) (x g : Int) : Prop := match ty with
  | .boolean => 0 ≤ x ∧ x ≤ 1
  | .long => z64 x
  | .object _ => zrr n g
  | .array _ => zrr n g
  | _ => z32 x
def zokE (n : Nat) (sh : zSh) (j : Nat) (x g : Int) : Prop := match sh.1 with
  | 0 => z32 x
  | 1 => 0 ≤ x ∧ x ≤ 1
  | 2 => z64 x
  | 3 => zrr n g
  | ci + 4 => zok1 n (zty ci j) x g
def zcM (S : List zSh) (M : zMm) : Prop := ∀ (i : Nat) (sh : zSh), S[i]? = some sh → ∀ j : Nat, j < sh.2 → zokE S.length sh j (M i j) (M (-10 - (i : Int)) j)
def zcV (n : Nat) (v : zV) : Prop := match v with
  | .inl x => z32 x
  | .inr (.inl x) => z64 x
  | .inr (.inr r) => zrr n r
def zw (x : Int) : Int := (x + 2147483648) % 4294967296 - 2147483648
theorem zw_id {x : Int} (h : z32 x) : zw x = x := by unfold z32 at h; unfold zw; omega
theorem zw_32 (x : Int) : z32 (zw x) := by unfold z32 zw; omega
theorem z32_of (v : Int32) : z32 v.toInt := by
  have h1 := v.le_toInt
  have h2 := v.toInt_lt
  unfold z32; omega
theorem z64_of (v : Int64) : z64 v.toInt := by
  have h1 := v.le_toInt
  have h2 := v.toInt_lt
  unfold z64; omega
theorem zi_to {x : Int} (h : z32 x) : (Int32.ofInt x).toInt = x := Int32.toInt_ofInt_of_le (by unfold z32 at h; omega) (by unfold z32 at h; omega)
theorem zl_to {x : Int} (h : z64 x) : (Int64.ofInt x).toInt = x := Int64.toInt_ofInt_of_le (by unfold z64 at h; omega) (by unfold z64 at h; omega)
theorem zi_w (x : Int) : (Int32.ofInt x).toInt = zw x := by
  rw [Int32.toInt_ofInt]
  have h := Int.bmod_def x Int32.size
  rw [h]
  show _ = (x + 2147483648) % 4294967296 - 2147483648
  have e : ((Int32.size : Nat) : Int) = 4294967296 := by decide
  rw [e]
  split <;> omega
theorem zi_ofw (x : Int) : Int32.ofInt (zw x) = Int32.ofInt x := by rw [← zi_w, Int32.ofInt_toInt]
theorem zi_inj {x y : Int} (hx : z32 x) (hy : z32 y) : Int32.ofInt x = Int32.ofInt y ↔ x = y := ⟨fun h => by rw [← zi_to hx, ← zi_to hy, h], fun h => by rw [h]⟩
theorem zi_lt {x y : Int} (hx : z32 x) (hy : z32 y) : Int32.ofInt x < Int32.ofInt y ↔ x < y := by rw [Int32.lt_iff_toInt_lt, zi_to hx, zi_to hy]
theorem zi_le {x y : Int} (hx : z32 x) (hy : z32 y) : Int32.ofInt x ≤ Int32.ofInt y ↔ x ≤ y := by rw [Int32.le_iff_toInt_le, zi_to hx, zi_to hy]
theorem zi_nat {x : Int} (hx : z32 x) : (Int32.ofInt x).toNatClampNeg = x.toNat := by
  show (Int32.ofInt x).toInt.toNat = _
  rw [zi_to hx]
theorem zi_in {x : Int} {n : Nat} (h0 : 0 ≤ x) (h1 : x < n) (hx : z32 x) : vp_in (Int32.ofInt x) n := by
  unfold vp_in
  rw [zi_nat hx]
  rintro (h | h)
  · rw [show (0 : Int32) = Int32.ofInt 0 from rfl, zi_lt hx (by unfold z32; omega)] at h
    omega
  · omega
-- the static part of a walk of method y: the machine, the tables, the classes, the row of numbers outside (script -2, ABOVE -3, BODIES -4), and how a return ends
def zSt (ad0 : Int → Nat) (Mn : zMm) (A : Nat → Prop) (s : State) (H : Heap) : Prop :=
  (∀ r : Int, r = -2 ∨ r = -3 ∨ r = -4 → va_T .int (ad0 r) (Mn r (-1)).toNat (fun (j : Nat) => .int (Int32.ofInt (Mn r j))) A s H ∧ 0 ≤ Mn r (-1) ∧ Mn r (-1) < 2147483648 ∧ ∀ j : Int, 0 ≤ j → j < Mn r (-1) → z32 (Mn r j)) ∧
  va_Z "SixWalls$Cells" "ABOVE" "[I" (.ref (ad0 (-3))) A s H ∧ va_Z "SixWalls$Cells" "BODIES" "[I" (.ref (ad0 (-4))) A s H
def zret (rv : Option zV) : Instr := match rv with
  | none => .return_
  | some (.inl _) => .ireturn
  | some (.inr (.inl _)) => .lreturn
  | some (.inr (.inr _)) => .areturn
def zretOk (ret : Option FieldType) (rv : Option zV) : Prop := match ret, rv with
  | none, none => True
  | some .int, some (.inl x) => z32 x
  | some .boolean, some (.inl x) => 0 ≤ x ∧ x ≤ 1
  | some .long, some (.inr (.inl x)) => z64 x
  | _, _ => False
/-- the world of a walk: what the memory says is in the heap; nothing else has changed -/
def zWd (b : Nat × Nat) (S : List zSh) (M : zMm) (D : va_G) (cA : FieldType → ClassId) (ad0 : Int → Nat) (n0 : Nat) (Mn : zMm) (A : Nat → Prop) (R : Room) (s : State) (ad : Int → Nat) (H : Heap) (locs : List Loc) (cells slots : Nat) : Prop :=
  (∀ r : Int, r < n0 → ad r = ad0 r) ∧ n0 ≤ S.length ∧ (∀ r : Int, -5 < r → r < 0 → M r = Mn r) ∧ va_P D zcl (zWs ad cA S M) H ∧ va_D A (zWs ad cA S M) ∧ va_S A s.heap H locs ∧ cells + b.1 ≤ R.cells ∧ slots + b.2 ≤ R.slots ∧ zcM S M
def zLs (nL : Nat) (n : Nat) (L : List (Nat × zV)) (ad : Int → Nat) (ls : Array Slot) : Prop := lv_has ls nL (L.map (fun q => (q.1, zc ad q.2))) ∧ ∀ q ∈ L, zcV n q.2
def zPost : Type := Option zV → List zSh → zMm → Prop
def zEnv (y : zM) (d : Nat) (p : Program) (R : Room) (s : State) (m : MethodId) (args : Array Value) (meth : Method) (c : Code) (D : va_G) (cA : FieldType → ClassId) (ad0 : Int → Nat) (Mn : zMm) (A : Nat → Prop) : Prop :=
  p.tables.exec = Jvm.exec ∧ c.code = y.2.1 ∧ c.maxLocals = y.2.2.1 ∧ s.vm.findClass y.1.cls = some m.cls ∧ (∀ w ∈ lw_tbl, w.before args s = true) ∧ d ≤ R.frames ∧ 40 * d ≤ R.locals ∧ (y.1.name = "<init>" → meth.name = "<init>") ∧ va_K D zcl (ztys cA) s ∧ zSt ad0 Mn A s s.heap ∧ (∀ q, s.heap.size ≤ q → A q)
def zRet (y : zM) (Q : zPost) (p : Program) (l : Launch) (e : Env) (R : Room) (s : State) (m : MethodId) (args : Array Value) (below : List Frame) (meth : Method) (c : Code) (D : va_G) (cA : FieldType → ClassId) (ad0 : Int → Nat) (n0 : Nat) (Mn : zMm) (A : Nat → Prop) (Z : State → Prop) : Prop :=
  ∀ (rv : Option zV) (S : List zSh) (M : zMm) (ad : Int → Nat) (H : Heap) (locs : List Loc) (cells slots pc : Nat) (ls : Array Slot), zWd (0, 0) S M D cA ad0 n0 Mn A R s ad H locs cells slots → (∀ v ∈ rv, zcV S.length v) → Q rv S M → zretOk y.2.2.2 rv → decode y.2.1 pc = .ok (zret rv, 1) →
    W p l e R s m args below meth c H locs cells slots Z (F0 m pc ls (rv.toList.map (zc ad)))
/-- THE JUDGEMENT: from the frame at pc with these locals and stack and this memory, method y (in room for d frames, b cells and slots more) returns with Q -/
def zW (y : zM) (d : Nat) (Q : zPost) (b : Nat × Nat) (S : List zSh) (pc : Nat) (L : List (Nat × zV)) (st : List zV) (M : zMm) : Prop :=
  ∀ (p : Program) (l : Launch) (e : Env) (R : Room) (s : State) (m : MethodId) (args : Array Value) (below : List Frame) (meth : Method) (c : Code) (D : va_G) (cA : FieldType → ClassId) (ad0 : Int → Nat) (n0 : Nat) (Mn : zMm) (A : Nat → Prop) (Z : State → Prop),
    zEnv y d p R s m args meth c D cA ad0 Mn A → zRet y Q p l e R s m args below meth c D cA ad0 n0 Mn A Z →
    ∀ (ad : Int → Nat) (H : Heap) (locs : List Loc) (cells slots : Nat) (ls : Array Slot), zWd b S M D cA ad0 n0 Mn A R s ad H locs cells slots → zLs y.2.2.1 S.length L ad ls → (∀ v ∈ st, zcV S.length v) →
      W p l e R s m args below meth c H locs cells slots Z (F0 m pc ls (st.map (zc ad)))
theorem zWs_len {ad : Int → Nat} {cA : FieldType → ClassId} {S : List zSh} {M : zMm} : (zWs ad cA S M).length = S.length := by simp [zWs]
theorem zWs_at {ad : Int → Nat} {cA : FieldType → ClassId} {S : List zSh} {M : zMm} {i : Nat} {sh : zSh} (h : S[i]? = some sh) : (zWs ad cA S M)[i]? = some (ad i, zE ad cA sh (M i) (M (-10 - (i : Int)))) := by
  have hi : i < S.length := (List.getElem?_eq_some_iff.mp h).1
  unfold zWs
  rw [List.getElem?_map, List.getElem?_range hi]
  simp only [Option.map_some, List.getD_eq_getElem?_getD, h, Option.getD_some]
theorem zWs_ext {ad' : Int → Nat} {cA : FieldType → ClassId} {S : List zSh} {M' : zMm} {ws : va_W} (hl : ws.length = S.length) (h : ∀ (i : Nat) (sh : zSh), S[i]? = some sh → ws[i]? = some (ad' i, zE ad' cA sh (M' i) (M' (-10 - (i : Int))))) : ws = zWs ad' cA S M' := by
  apply List.ext_getElem?
  intro i
  by_cases hi : i < S.length
  · obtain ⟨sh, hs⟩ : ∃ sh, S[i]? = some sh := ⟨S[i], List.getElem?_eq_getElem hi⟩
    rw [h i sh hs, zWs_at hs]
  · rw [List.getElem?_eq_none (by omega), List.getElem?_eq_none (by rw [zWs_len]; omega)]
theorem zWs_set {ad : Int → Nat} {cA : FieldType → ClassId} {S : List zSh} {M M' : zMm} {r : Nat} {sh : zSh} {e : va_E} (hr : S[r]? = some sh) (he : e = zE ad cA sh (M' r) (M' (-10 - (r : Int)))) (hk : ∀ i : Nat, i < S.length → i ≠ r → M' i = M i ∧ M' (-10 - (i : Int)) = M (-10 - (i : Int))) : (zWs ad cA S M).set r (ad r, e) = zWs ad cA S M' := by
  refine zWs_ext (by rw [List.length_set, zWs_len]) fun i sh' hi => ?_
  have hi' : i < S.length := (List.getElem?_eq_some_iff.mp hi).1
  rw [List.getElem?_set]
  by_cases hir : r = i
  · subst hir
    rw [hr] at hi
    cases hi
    rw [if_pos rfl, if_pos (by rw [zWs_len]; exact hi'), he]
  · rw [if_neg hir, zWs_at hi, (hk i hi' (fun h => hir h.symm)).1, (hk i hi' (fun h => hir h.symm)).2]
end
section
/-! the rules of zW: constants, locals, numbers, branches, returns -/
def zcat2 (v : zV) : Bool := match v with
  | .inr (.inl _) => true
  | _ => false
def zkeep1 (i : Nat) (q : Nat × zV) : Bool := !(q.1 == i) && !(q.1 + 1 == i && zcat2 q.2)
def zkeep2 (i : Nat) (q : Nat × zV) : Bool := !(q.1 == i) && (!(q.1 == i + 1) && !(q.1 + 1 == i && zcat2 q.2))
def zins (i : Nat) (v : zV) : List (Nat × zV) → List (Nat × zV)
  | [] => [(i, v)]
  | q :: t => if Nat.ble i q.1 then (i, v) :: q :: t else q :: zins i v t
def zput (i : Nat) (v : zV) (L : List (Nat × zV)) : List (Nat × zV) := zins i v (L.filter (zkeep1 i))
def zput2 (i : Nat) (v : zV) (L : List (Nat × zV)) : List (Nat × zV) := zins i v (L.filter (zkeep2 i))
theorem zins_mem {i : Nat} {v : zV} {q : Nat × zV} : ∀ {L : List (Nat × zV)}, q ∈ zins i v L → q = (i, v) ∨ q ∈ L
  | [], h => by simpa [zins] using h
  | a :: t, h => by
    unfold zins at h
    split at h
    · simpa using h
    · rcases List.mem_cons.mp h with h | h
      · exact Or.inr (by simp [h])
      · rcases zins_mem h with h | h
        · exact Or.inl h
        · exact Or.inr (by simp [h])
theorem zcat_of (ad : Int → Nat) (v : zV) : ((zc ad v).category == 2) = zcat2 v := by
  rcases v with x | x | x
  · rfl
  · rfl
  · show ((zrf ad x).category == 2) = false
    unfold zrf
    split <;> rfl
theorem lv_mono {ls : Array Slot} {n : Nat} {l l' : List (Nat × Value)} (h : lv_has ls n l) (hs : ∀ q ∈ l', q ∈ l) : lv_has ls n l' := ⟨h.1, h.2.1, fun q hq => h.2.2 q (hs q hq)⟩
theorem zLs_at {nL n : Nat} {L : List (Nat × zV)} {ad : Int → Nat} {ls : Array Slot} (h : zLs nL n L ad ls) {j i : Nat} {v : zV} (hj : L[j]? = some (i, v)) : ls[i]? = some (.val (zc ad v)) := h.1.2.2 (i, zc ad v) (List.mem_map.mpr ⟨(i, v), List.mem_of_getElem? hj, rfl⟩)
theorem zLs_cat {nL n : Nat} {L : List (Nat × zV)} {ad : Int → Nat} {ls : Array Slot} (h : zLs nL n L ad ls) {j i : Nat} {v : zV} (hj : L[j]? = some (i, v)) : zcV n v := h.2 (i, v) (List.mem_of_getElem? hj)
theorem zLs_put {nL n : Nat} {L : List (Nat × zV)} {ad : Int → Nat} {ls ls' : Array Slot} (h : zLs nL n L ad ls) {i : Nat} {v : zV} (hv : zcV n v) (h' : lv_has ls' nL ((i, zc ad v) :: (L.map (fun q => (q.1, zc ad q.2))).filter (fun q => !(q.1 == i) && !(q.1 + 1 == i && q.2.category == 2)))) : zLs nL n (zput i v L) ad ls' := by
  refine ⟨lv_mono h' fun q hq => ?_, fun q hq => ?_⟩
  · obtain ⟨q0, h0, rfl⟩ := List.mem_map.mp hq
    rcases zins_mem h0 with h0 | h0
    · subst h0; exact List.mem_cons_self
    · obtain ⟨h1, h2⟩ := List.mem_filter.mp h0
      refine List.mem_cons_of_mem _ (List.mem_filter.mpr ⟨List.mem_map.mpr ⟨q0, h1, rfl⟩, ?_⟩)
      show (!(q0.1 == i) && !(q0.1 + 1 == i && (zc ad q0.2).category == 2)) = true
      rw [zcat_of]; exact h2
  · rcases zins_mem hq with h0 | h0
    · subst h0; exact hv
    · exact h.2 q (List.mem_filter.mp h0).1
theorem zLs_put2 {nL n : Nat} {L : List (Nat × zV)} {ad : Int → Nat} {ls ls' : Array Slot} (h : zLs nL n L ad ls) {i : Nat} {v : zV} (hv : zcV n v) (h' : lv_has ls' nL ((i, zc ad v) :: (L.map (fun q => (q.1, zc ad q.2))).filter (fun q => !(q.1 == i) && (!(q.1 == i + 1) && !(q.1 + 1 == i && q.2.category == 2))))) : zLs nL n (zput2 i v L) ad ls' := by
  refine ⟨lv_mono h' fun q hq => ?_, fun q hq => ?_⟩
  · obtain ⟨q0, h0, rfl⟩ := List.mem_map.mp hq
    rcases zins_mem h0 with h0 | h0
    · subst h0; exact List.mem_cons_self
    · obtain ⟨h1, h2⟩ := List.mem_filter.mp h0
      refine List.mem_cons_of_mem _ (List.mem_filter.mpr ⟨List.mem_map.mpr ⟨q0, h1, rfl⟩, ?_⟩)
      show (!(q0.1 == i) && (!(q0.1 == i + 1) && !(q0.1 + 1 == i && (zc ad q0.2).category == 2))) = true
      rw [zcat_of]; exact h2
  · rcases zins_mem hq with h0 | h0
    · subst h0; exact hv
    · exact h.2 q (List.mem_filter.mp h0).1
section
variable {y : zM} {d : Nat} {Q : zPost} {b : Nat × Nat} {S : List zSh} {pc : Nat} {L : List (Nat × zV)} {st : List zV} {M : zMm}
theorem zStep {pc' : Nat} {st0 st' : List zV} (h : ∀ (p : Program) (l : Launch) (e : Env) (R : Room) (s : State) (m : MethodId) (args : Array Value) (below : List Frame) (meth : Method) (c : Code) (Z : State → Prop) (ad : Int → Nat) (H : Heap) (locs : List Loc) (cells slots : Nat) (ls : Array Slot), p.tables.exec = Jvm.exec → c.code = y.2.1 → (s.vm.findClass y.1.cls = some m.cls ∧ ∀ w ∈ lw_tbl, w.before args s = true) → zLs y.2.2.1 S.length L ad ls → (∀ v ∈ st0, zcV S.length v) → W p l e R s m args below meth c H locs cells slots Z (F0 m pc' ls (st'.map (zc ad))) → W p l e R s m args below meth c H locs cells slots Z (F0 m pc ls (st0.map (zc ad))))
    (hc : (∀ q ∈ L, zcV S.length q.2) → (∀ v ∈ st0, zcV S.length v) → ∀ v ∈ st', zcV S.length v) (k : zW y d Q b S pc' L st' M) : zW y d Q b S pc L st0 M :=
  fun p l e R s m args below meth c D cA ad0 n0 Mn A Z hE hR ad H locs cells slots ls hW hL hs =>
    h p l e R s m args below meth c Z ad H locs cells slots ls hE.1 hE.2.1 ⟨hE.2.2.2.1, hE.2.2.2.2.1⟩ hL hs (k p l e R s m args below meth c D cA ad0 n0 Mn A Z hE hR ad H locs cells slots ls hW hL (hc hL.2 hs))
theorem zStoreG {pc' : Nat} {L' : List (Nat × zV)} {st0 st' : List zV} (h : ∀ (p : Program) (l : Launch) (e : Env) (R : Room) (s : State) (m : MethodId) (args : Array Value) (below : List Frame) (meth : Method) (c : Code) (Z : State → Prop) (ad : Int → Nat) (H : Heap) (locs : List Loc) (cells slots : Nat) (ls : Array Slot), p.tables.exec = Jvm.exec → c.code = y.2.1 → zLs y.2.2.1 S.length L ad ls → (∀ v ∈ st0, zcV S.length v) → (∀ ls', zLs y.2.2.1 S.length L' ad ls' → W p l e R s m args below meth c H locs cells slots Z (F0 m pc' ls' (st'.map (zc ad)))) → W p l e R s m args below meth c H locs cells slots Z (F0 m pc ls (st0.map (zc ad))))
    (hc : (∀ v ∈ st0, zcV S.length v) → ∀ v ∈ st', zcV S.length v) (k : zW y d Q b S pc' L' st' M) : zW y d Q b S pc L st0 M :=
  fun p l e R s m args below meth c D cA ad0 n0 Mn A Z hE hR ad H locs cells slots ls hW hL hs =>
    h p l e R s m args below meth c Z ad H locs cells slots ls hE.1 hE.2.1 hL hs (fun ls' hL' => k p l e R s m args below meth c D cA ad0 n0 Mn A Z hE hR ad H locs cells slots ls' hW hL' (hc hs))
/-- what the walk knows of its numbers -/
theorem z_can (k : zcM S M → (∀ q ∈ L, zcV S.length q.2) → (∀ v ∈ st, zcV S.length v) → zW y d Q b S pc L st M) : zW y d Q b S pc L st M :=
  fun p l e R s m args below meth c D cA ad0 n0 Mn A Z hE hR ad H locs cells slots ls hW hL hs => k hW.2.2.2.2.2.2.2.2 hL.2 hs p l e R s m args below meth c D cA ad0 n0 Mn A Z hE hR ad H locs cells slots ls hW hL hs
theorem z_cM (k : zcM S M → zW y d Q b S pc L st M) : zW y d Q b S pc L st M := z_can fun h _ _ => k h
/-- fewer locals -/
theorem z_weak {L' : List (Nat × zV)} (h : ∀ q ∈ L', q ∈ L) (k : zW y d Q b S pc L' st M) : zW y d Q b S pc L st M :=
  fun p l e R s m args below meth c D cA ad0 n0 Mn A Z hE hR ad H locs cells slots ls hW hL hs => k p l e R s m args below meth c D cA ad0 n0 Mn A Z hE hR ad H locs cells slots ls hW ⟨lv_mono hL.1 fun q hq => by
    obtain ⟨q0, h0, rfl⟩ := List.mem_map.mp hq
    exact List.mem_map.mpr ⟨q0, h q0 h0, rfl⟩, fun q hq => hL.2 q (h q hq)⟩ hs
theorem z_mono {Q' : zPost} (h : ∀ rv S' M', Q' rv S' M' → Q rv S' M') (k : zW y d Q' b S pc L st M) : zW y d Q b S pc L st M :=
  fun p l e R s m args below meth c D cA ad0 n0 Mn A Z hE hR => k p l e R s m args below meth c D cA ad0 n0 Mn A Z hE (fun rv S' M' ad H locs cells slots pc ls hw hv hq => hR rv S' M' ad H locs cells slots pc ls hw hv (h _ _ _ hq))
theorem z_deep {d' : Nat} (hd : d' ≤ d) (k : zW y d' Q b S pc L st M) : zW y d Q b S pc L st M :=
  fun p l e R s m args below meth c D cA ad0 n0 Mn A Z hE hR => k p l e R s m args below meth c D cA ad0 n0 Mn A Z ⟨hE.1, hE.2.1, hE.2.2.1, hE.2.2.2.1, hE.2.2.2.2.1, Nat.le_trans hd hE.2.2.2.2.2.1, Nat.le_trans (Nat.mul_le_mul_left 40 hd) hE.2.2.2.2.2.2.1, hE.2.2.2.2.2.2.2⟩ hR
theorem zc_hd {n : Nat} {v : zV} {l : List zV} (h : ∀ w ∈ v :: l, zcV n w) : zcV n v := h v List.mem_cons_self
theorem zc_tl {n : Nat} {v : zV} {l : List zV} (h : ∀ w ∈ v :: l, zcV n w) : ∀ w ∈ l, zcV n w := fun w hw => h w (List.mem_cons_of_mem _ hw)
theorem zc_cons {n : Nat} {v : zV} {l : List zV} (hv : zcV n v) (h : ∀ w ∈ l, zcV n w) : ∀ w ∈ v :: l, zcV n w := List.forall_mem_cons.mpr ⟨hv, h⟩

theorem z_iconst (n : Int) (hd : decode y.2.1 pc = .ok (.iconst n, 1)) (hn : z32 n) (kk : zW y d Q b S (pc + 1) L (.inl n :: st) M) : zW y d Q b S pc L st M :=
  zStep (st0 := st) (st' := (.inl n :: st)) (fun p l e R s m args below meth c Z ad H locs cells slots ls hx hb ho hL hs k => lv_iconst hx hb hd rfl k) (fun hQ hs => zc_cons hn hs) kk
theorem zi8 {n : Int} (h : -128 ≤ n ∧ n < 128) : (Int8.ofInt n).toInt32 = Int32.ofInt n := by
  apply Int32.toInt_inj.mp
  rw [Int8.toInt_toInt32, Int8.toInt_ofInt_of_le (by omega) (by omega), zi_to (by unfold z32; omega)]
theorem zi16 {n : Int} (h : -32768 ≤ n ∧ n < 32768) : (Int16.ofInt n).toInt32 = Int32.ofInt n := by
  apply Int32.toInt_inj.mp
  rw [Int16.toInt_toInt32, Int16.toInt_ofInt_of_le (by omega) (by omega), zi_to (by unfold z32; omega)]
theorem z_bipush (n : Int) (hd : decode y.2.1 pc = .ok (.bipush n, 2)) (hn : -128 ≤ n ∧ n < 128) (kk : zW y d Q b S (pc + 2) L (.inl n :: st) M) : zW y d Q b S pc L st M :=
  zStep (st0 := st) (st' := (.inl n :: st)) (fun p l e R s m args below meth c Z ad H locs cells slots ls hx hb ho hL hs k => lv_bipush hx hb hd (zi8 hn) k) (fun hQ hs => zc_cons (show z32 n by unfold z32; omega) hs) kk
theorem z_sipush (n : Int) (hd : decode y.2.1 pc = .ok (.sipush n, 3)) (hn : -32768 ≤ n ∧ n < 32768) (kk : zW y d Q b S (pc + 3) L (.inl n :: st) M) : zW y d Q b S pc L st M :=
  zStep (st0 := st) (st' := (.inl n :: st)) (fun p l e R s m args below meth c Z ad H locs cells slots ls hx hb ho hL hs k => lv_sipush hx hb hd (zi16 hn) k) (fun hQ hs => zc_cons (show z32 n by unfold z32; omega) hs) kk
theorem z_lconst {n : Fin 2} (v : Int) (hd : decode y.2.1 pc = .ok (.lconst n, 1)) (hn : v = ((n : Nat) : Int)) (kk : zW y d Q b S (pc + 1) L (.inr (.inl v) :: st) M) : zW y d Q b S pc L st M :=
  zStep (st0 := st) (st' := (.inr (.inl v) :: st)) (fun p l e R s m args below meth c Z ad H locs cells slots ls hx hb ho hL hs k => lv_lconst hx hb hd (by rw [hn]; exact Int64.ofInt_eq_ofNat.symm) k) (fun hQ hs => zc_cons (show z64 v by have := n.isLt; unfold z64; omega) hs) kk
theorem z_ldc {idx : Nat} {w : Int32} (n : Int) (hd : decode y.2.1 pc = .ok (.ldc idx, 2)) (hw : Cond.constant y.1.cls idx w ∈ lw_tbl) (hn : Int32.ofInt n = w) (h32 : z32 n) (kk : zW y d Q b S (pc + 2) L (.inl n :: st) M) : zW y d Q b S pc L st M :=
  zStep (st0 := st) (st' := (.inl n :: st)) (fun p l e R s m args below meth c Z ad H locs cells slots ls hx hb ho hL hs k => lv_ldc hx hb ho.1 (ho.2 _ hw) hd (by subst hn; exact k)) (fun hQ hs => zc_cons h32 hs) kk
theorem z_ldcw {idx : Nat} {w : Int32} (n : Int) (hd : decode y.2.1 pc = .ok (.ldc_w idx, 3)) (hw : Cond.constant y.1.cls idx w ∈ lw_tbl) (hn : Int32.ofInt n = w) (h32 : z32 n) (kk : zW y d Q b S (pc + 3) L (.inl n :: st) M) : zW y d Q b S pc L st M :=
  zStep (st0 := st) (st' := (.inl n :: st)) (fun p l e R s m args below meth c Z ad H locs cells slots ls hx hb ho hL hs k => lv_ldcw hx hb ho.1 (ho.2 _ hw) hd (by subst hn; exact k)) (fun hQ hs => zc_cons h32 hs) kk
theorem z_ldc2 {idx : Nat} {w : Int64} (n : Int) (hd : decode y.2.1 pc = .ok (.ldc2_w idx, 3)) (hw : Cond.constantLong y.1.cls idx w ∈ lw_tbl) (hn : Int64.ofInt n = w) (h64 : z64 n) (kk : zW y d Q b S (pc + 3) L (.inr (.inl n) :: st) M) : zW y d Q b S pc L st M :=
  zStep (st0 := st) (st' := (.inr (.inl n) :: st)) (fun p l e R s m args below meth c Z ad H locs cells slots ls hx hb ho hL hs k => lv_ldc2 hx hb ho.1 (ho.2 _ hw) hd (by subst hn; exact k)) (fun hQ hs => zc_cons h64 hs) kk
theorem z_iload_n (j : Nat) {kf : Fin 4} {i : Nat} {x : Int} (hd : decode y.2.1 pc = .ok (.iload_n kf, 1)) (hi : (kf : Nat) = i) (hl : L[j]? = some (i, (.inl x))) (kk : zW y d Q b S (pc + 1) L ((.inl x) :: st) M) : zW y d Q b S pc L st M :=
  zStep (st0 := st) (st' := ((.inl x) :: st)) (fun p l e R s m args below meth c Z ad H locs cells slots ls hx hb ho hL hs k => lv_iload_n hx hb hd hi (zLs_at hL hl) k) (fun hQ hs => zc_cons (hQ _ (List.mem_of_getElem? hl)) hs) kk
theorem z_iload (j : Nat) {i : Nat} {x : Int} (hd : decode y.2.1 pc = .ok (.iload i, 2)) (hl : L[j]? = some (i, (.inl x))) (kk : zW y d Q b S (pc + 2) L ((.inl x) :: st) M) : zW y d Q b S pc L st M :=
  zStep (st0 := st) (st' := ((.inl x) :: st)) (fun p l e R s m args below meth c Z ad H locs cells slots ls hx hb ho hL hs k => lv_iload hx hb hd (zLs_at hL hl) k) (fun hQ hs => zc_cons (hQ _ (List.mem_of_getElem? hl)) hs) kk
theorem z_lload_n (j : Nat) {kf : Fin 4} {i : Nat} {x : Int} (hd : decode y.2.1 pc = .ok (.lload_n kf, 1)) (hi : (kf : Nat) = i) (hl : L[j]? = some (i, (.inr (.inl x)))) (kk : zW y d Q b S (pc + 1) L ((.inr (.inl x)) :: st) M) : zW y d Q b S pc L st M :=
  zStep (st0 := st) (st' := ((.inr (.inl x)) :: st)) (fun p l e R s m args below meth c Z ad H locs cells slots ls hx hb ho hL hs k => lv_lload_n hx hb hd hi (zLs_at hL hl) k) (fun hQ hs => zc_cons (hQ _ (List.mem_of_getElem? hl)) hs) kk
theorem z_lload (j : Nat) {i : Nat} {x : Int} (hd : decode y.2.1 pc = .ok (.lload i, 2)) (hl : L[j]? = some (i, (.inr (.inl x)))) (kk : zW y d Q b S (pc + 2) L ((.inr (.inl x)) :: st) M) : zW y d Q b S pc L st M :=
  zStep (st0 := st) (st' := ((.inr (.inl x)) :: st)) (fun p l e R s m args below meth c Z ad H locs cells slots ls hx hb ho hL hs k => lv_lload hx hb hd (zLs_at hL hl) k) (fun hQ hs => zc_cons (hQ _ (List.mem_of_getElem? hl)) hs) kk
theorem zrf_ne {ad : Int → Nat} {r : Int} (h : r ≠ -1) : zrf ad r = .ref (ad r) := by unfold zrf; rw [if_neg h]
theorem z_aload_n (j : Nat) {kf : Fin 4} {i : Nat} {x : Int} (hd : decode y.2.1 pc = .ok (.aload_n kf, 1)) (hi : (kf : Nat) = i) (hl : L[j]? = some (i, .inr (.inr x))) (hx1 : x ≠ -1) (kk : zW y d Q b S (pc + 1) L (.inr (.inr x) :: st) M) : zW y d Q b S pc L st M :=
  zStep (st0 := st) (st' := (.inr (.inr x) :: st)) (fun p l e R s m args below meth c Z ad H locs cells slots ls hx hb ho hL hs k => lv_aload_n (x := ad x) hx hb hd hi (by rw [zLs_at hL hl]; show some (Slot.val (zrf ad x)) = _; rw [zrf_ne hx1]) (by rw [List.map_cons] at k; rw [show zc ad (.inr (.inr x)) = .ref (ad x) from zrf_ne hx1] at k; exact k)) (fun hQ hs => zc_cons (hQ _ (List.mem_of_getElem? hl)) hs) kk
theorem z_aload (j : Nat) {i : Nat} {x : Int} (hd : decode y.2.1 pc = .ok (.aload i, 2)) (hl : L[j]? = some (i, .inr (.inr x))) (hx1 : x ≠ -1) (kk : zW y d Q b S (pc + 2) L (.inr (.inr x) :: st) M) : zW y d Q b S pc L st M :=
  zStep (st0 := st) (st' := (.inr (.inr x) :: st)) (fun p l e R s m args below meth c Z ad H locs cells slots ls hx hb ho hL hs k => lv_aload (x := ad x) hx hb hd (by rw [zLs_at hL hl]; show some (Slot.val (zrf ad x)) = _; rw [zrf_ne hx1]) (by rw [List.map_cons] at k; rw [show zc ad (.inr (.inr x)) = .ref (ad x) from zrf_ne hx1] at k; exact k)) (fun hQ hs => zc_cons (hQ _ (List.mem_of_getElem? hl)) hs) kk
theorem z_istore_n {L' : List (Nat × zV)} {kf : Fin 4} {i : Nat} {x : Int} (hd : decode y.2.1 pc = .ok (.istore_n kf, 1)) (hi : (kf : Nat) = i) (hL' : zput i (.inl x) L = L') (hn : i < y.2.2.1) (kk : zW y d Q b S (pc + 1) L' st M) : zW y d Q b S pc L ((.inl x) :: st) M :=
  zStoreG (st0 := ((.inl x) :: st)) (st' := st) (fun p l e R s m args below meth c Z ad H locs cells slots ls hx hb hL hs k => lv_istore_n hx hb hd hi hL.1 hn rfl (fun ls' h' => k ls' (by rw [← hL']; exact zLs_put hL (zc_hd hs) h'))) zc_tl kk
theorem z_istore {L' : List (Nat × zV)} {i : Nat} {x : Int} (hd : decode y.2.1 pc = .ok (.istore i, 2)) (hL' : zput i (.inl x) L = L') (hn : i < y.2.2.1) (kk : zW y d Q b S (pc + 2) L' st M) : zW y d Q b S pc L ((.inl x) :: st) M :=
  zStoreG (st0 := ((.inl x) :: st)) (st' := st) (fun p l e R s m args below meth c Z ad H locs cells slots ls hx hb hL hs k => lv_istore hx hb hd hL.1 hn rfl (fun ls' h' => k ls' (by rw [← hL']; exact zLs_put hL (zc_hd hs) h'))) zc_tl kk
theorem z_lstore_n {L' : List (Nat × zV)} {kf : Fin 4} {i : Nat} {x : Int} (hd : decode y.2.1 pc = .ok (.lstore_n kf, 1)) (hi : (kf : Nat) = i) (hL' : zput2 i (.inr (.inl x)) L = L') (hn : i + 1 < y.2.2.1) (kk : zW y d Q b S (pc + 1) L' st M) : zW y d Q b S pc L (.inr (.inl x) :: st) M :=
  zStoreG (fun p l e R s m args below meth c Z ad H locs cells slots ls hx hb hL hs k => lv_lstore_n hx hb hd hi hL.1 hn rfl (fun ls' h' => k ls' (by rw [← hL']; exact zLs_put2 hL (zc_hd hs) h'))) zc_tl kk
theorem z_lstore {L' : List (Nat × zV)} {i : Nat} {x : Int} (hd : decode y.2.1 pc = .ok (.lstore i, 2)) (hL' : zput2 i (.inr (.inl x)) L = L') (hn : i + 1 < y.2.2.1) (kk : zW y d Q b S (pc + 2) L' st M) : zW y d Q b S pc L (.inr (.inl x) :: st) M :=
  zStoreG (fun p l e R s m args below meth c Z ad H locs cells slots ls hx hb hL hs k => lv_lstore hx hb hd hL.1 hn rfl (fun ls' h' => k ls' (by rw [← hL']; exact zLs_put2 hL (zc_hd hs) h'))) zc_tl kk
theorem z_astore_n {L' : List (Nat × zV)} {kf : Fin 4} {i : Nat} {x : Int} (hd : decode y.2.1 pc = .ok (.astore_n kf, 1)) (hi : (kf : Nat) = i) (hx1 : x ≠ -1) (hL' : zput i (.inr (.inr x)) L = L') (hn : i < y.2.2.1) (kk : zW y d Q b S (pc + 1) L' st M) : zW y d Q b S pc L (.inr (.inr x) :: st) M :=
  zStoreG (fun p l e R s m args below meth c Z ad H locs cells slots ls hx hb hL hs k => by
    rw [List.map_cons, show zc ad (.inr (.inr x)) = .ref (ad x) from zrf_ne hx1]
    exact lv_astore_n hx hb hd hi hL.1 hn rfl (fun ls' h' => k ls' (by rw [← hL']; exact zLs_put hL (zc_hd hs) (by rw [show zc ad (.inr (.inr x)) = .ref (ad x) from zrf_ne hx1]; exact h')))) zc_tl kk
theorem z_iinc {L' : List (Nat × zV)} (j : Nat) {i : Nat} {n x : Int} (hd : decode y.2.1 pc = .ok (.iinc i n, 3)) (hl : L[j]? = some (i, .inl x)) (hr : z32 (x + n)) (hL' : zput i (.inl (x + n)) L = L') (hn : i < y.2.2.1) (kk : zW y d Q b S (pc + 3) L' st M) : zW y d Q b S pc L st M :=
  zStoreG (fun p l e R s m args below meth c Z ad H locs cells slots ls hx hb hL hs k => lv_iinc (v := Int32.ofInt (x + n)) (k := j) hx hb hd hL.1 (by rw [List.getElem?_map, hl]; rfl) (Int32.ofInt_add x n).symm hn rfl (fun ls' h' => k ls' (by rw [← hL']; exact zLs_put hL (v := .inl (x + n)) hr h'))) (fun h => h) kk
theorem z_iaddw {x x' : Int} (hd : decode y.2.1 pc = .ok (.iadd, 1)) (kk : zW y d Q b S (pc + 1) L (.inl (zw (x + x')) :: st) M) : zW y d Q b S pc L (.inl x' :: .inl x :: st) M :=
  zStep (st0 := (.inl x' :: .inl x :: st)) (st' := (.inl (zw (x + x')) :: st)) (fun p l e R s m args below meth c Z ad H locs cells slots ls hx hb ho hL hs k => lv_iadd hx hb hd (by rw [List.map_cons] at k; rw [show zc ad (.inl (zw (x + x'))) = .int (Int32.ofInt x + Int32.ofInt x') from congrArg Value.int ((zi_ofw _).trans (Int32.ofInt_add _ _))] at k; exact k)) (fun hQ hs => zc_cons (zw_32 _) (zc_tl (zc_tl hs))) kk
theorem z_iadd {x x' : Int} (hd : decode y.2.1 pc = .ok (.iadd, 1)) (hr : z32 (x + x')) (kk : zW y d Q b S (pc + 1) L (.inl (x + x') :: st) M) : zW y d Q b S pc L (.inl x' :: .inl x :: st) M := z_iaddw hd (by rw [zw_id hr]; exact kk)
theorem z_isubw {x x' : Int} (hd : decode y.2.1 pc = .ok (.isub, 1)) (kk : zW y d Q b S (pc + 1) L (.inl (zw (x - x')) :: st) M) : zW y d Q b S pc L (.inl x' :: .inl x :: st) M :=
  zStep (st0 := (.inl x' :: .inl x :: st)) (st' := (.inl (zw (x - x')) :: st)) (fun p l e R s m args below meth c Z ad H locs cells slots ls hx hb ho hL hs k => lv_isub hx hb hd (by rw [List.map_cons] at k; rw [show zc ad (.inl (zw (x - x'))) = .int (Int32.ofInt x - Int32.ofInt x') from congrArg Value.int ((zi_ofw _).trans (Int32.ofInt_sub _ _))] at k; exact k)) (fun hQ hs => zc_cons (zw_32 _) (zc_tl (zc_tl hs))) kk
theorem z_isub {x x' : Int} (hd : decode y.2.1 pc = .ok (.isub, 1)) (hr : z32 (x - x')) (kk : zW y d Q b S (pc + 1) L (.inl (x - x') :: st) M) : zW y d Q b S pc L (.inl x' :: .inl x :: st) M := z_isubw hd (by rw [zw_id hr]; exact kk)
theorem z_imulw {x x' : Int} (hd : decode y.2.1 pc = .ok (.imul, 1)) (kk : zW y d Q b S (pc + 1) L (.inl (zw (x * x')) :: st) M) : zW y d Q b S pc L (.inl x' :: .inl x :: st) M :=
  zStep (st0 := (.inl x' :: .inl x :: st)) (st' := (.inl (zw (x * x')) :: st)) (fun p l e R s m args below meth c Z ad H locs cells slots ls hx hb ho hL hs k => lv_imul hx hb hd (by rw [List.map_cons] at k; rw [show zc ad (.inl (zw (x * x'))) = .int (Int32.ofInt x * Int32.ofInt x') from congrArg Value.int ((zi_ofw _).trans (Int32.ofInt_mul _ _))] at k; exact k)) (fun hQ hs => zc_cons (zw_32 _) (zc_tl (zc_tl hs))) kk
theorem z_imul {x x' : Int} (hd : decode y.2.1 pc = .ok (.imul, 1)) (hr : z32 (x * x')) (kk : zW y d Q b S (pc + 1) L (.inl (x * x') :: st) M) : zW y d Q b S pc L (.inl x' :: .inl x :: st) M := z_imulw hd (by rw [zw_id hr]; exact kk)
theorem z_inegw {x : Int} (hd : decode y.2.1 pc = .ok (.ineg, 1)) (kk : zW y d Q b S (pc + 1) L (.inl (zw (-x)) :: st) M) : zW y d Q b S pc L (.inl x :: st) M :=
  zStep (st0 := (.inl x :: st)) (st' := (.inl (zw (-x)) :: st)) (fun p l e R s m args below meth c Z ad H locs cells slots ls hx hb ho hL hs k => lv_ineg hx hb hd (by rw [List.map_cons] at k; rw [show zc ad (.inl (zw (-x))) = .int (-Int32.ofInt x) from congrArg Value.int ((zi_ofw _).trans (Int32.ofInt_neg _))] at k; exact k)) (fun hQ hs => zc_cons (zw_32 _) (zc_tl hs)) kk
theorem z_ineg {x : Int} (hd : decode y.2.1 pc = .ok (.ineg, 1)) (hr : z32 (-x)) (kk : zW y d Q b S (pc + 1) L (.inl (-x) :: st) M) : zW y d Q b S pc L (.inl x :: st) M := z_inegw hd (by rw [zw_id hr]; exact kk)
theorem zi_div {x x' : Int} (h : z32 x) (h' : z32 x') : Int32.ofInt (zw (x.tdiv x')) = Int32.ofInt x / Int32.ofInt x' := by
  rw [zi_ofw]
  apply Int32.toInt_inj.mp
  rw [Int32.toInt_div, zi_to h, zi_to h', Int32.toInt_ofInt]
theorem zi_mod {x x' : Int} (h : z32 x) (h' : z32 x') : Int32.ofInt (zw (x.tmod x')) = Int32.ofInt x % Int32.ofInt x' := by
  rw [zi_ofw]
  apply Int32.toInt_inj.mp
  rw [Int32.toInt_mod, zi_to h, zi_to h', ← zi_to h, ← zi_to h', ← Int32.toInt_mod, Int32.ofInt_toInt]
theorem zi_ne0 {x : Int} (h : z32 x) (hn : x ≠ 0) : ¬ Int32.ofInt x = 0 := fun e => hn ((zi_inj h (by unfold z32; omega)).mp e)
theorem z_idivw {x x' : Int} (hd : decode y.2.1 pc = .ok (.idiv, 1)) (hn : x' ≠ 0) (kk : zW y d Q b S (pc + 1) L (.inl (zw (x.tdiv x')) :: st) M) : zW y d Q b S pc L (.inl x' :: .inl x :: st) M :=
  zStep (st0 := (.inl x' :: .inl x :: st)) (st' := (.inl (zw (x.tdiv x')) :: st)) (fun p l e R s m args below meth c Z ad H locs cells slots ls hx hb ho hL hs k => lv_idiv hx hb hd (zi_ne0 (zc_hd hs) hn) (by rw [List.map_cons] at k; rw [show zc ad (.inl (zw (x.tdiv x'))) = .int (Int32.ofInt x / Int32.ofInt x') from congrArg Value.int (zi_div (zc_hd (zc_tl hs)) (zc_hd hs))] at k; exact k)) (fun hQ hs => zc_cons (zw_32 _) (zc_tl (zc_tl hs))) kk
theorem z_iremw {x x' : Int} (hd : decode y.2.1 pc = .ok (.irem, 1)) (hn : x' ≠ 0) (kk : zW y d Q b S (pc + 1) L (.inl (zw (x.tmod x')) :: st) M) : zW y d Q b S pc L (.inl x' :: .inl x :: st) M :=
  zStep (st0 := (.inl x' :: .inl x :: st)) (st' := (.inl (zw (x.tmod x')) :: st)) (fun p l e R s m args below meth c Z ad H locs cells slots ls hx hb ho hL hs k => lv_irem hx hb hd (zi_ne0 (zc_hd hs) hn) (by rw [List.map_cons] at k; rw [show zc ad (.inl (zw (x.tmod x'))) = .int (Int32.ofInt x - Int32.ofInt x / Int32.ofInt x' * Int32.ofInt x') from congrArg Value.int ((zi_mod (zc_hd (zc_tl hs)) (zc_hd hs)).trans (irem_eq_mod _ _).symm)] at k; exact k)) (fun hQ hs => zc_cons (zw_32 _) (zc_tl (zc_tl hs))) kk
def zand (x x' : Int) : Int := (Int32.ofInt x &&& Int32.ofInt x').toInt
def zor (x x' : Int) : Int := (Int32.ofInt x ||| Int32.ofInt x').toInt
def zxor (x x' : Int) : Int := (Int32.ofInt x ^^^ Int32.ofInt x').toInt
def zshl (x x' : Int) : Int := (Int32.ofInt x <<< (Int32.ofInt x' &&& 31)).toInt
def zshr (x x' : Int) : Int := (Int32.ofInt x >>> (Int32.ofInt x' &&& 31)).toInt
def zushr (x x' : Int) : Int := ((Int32.ofInt x).toUInt32 >>> ((Int32.ofInt x').toUInt32 &&& Int32.toUInt32 31)).toInt32.toInt
def zi2b (x : Int) : Int := (Int32.ofInt x).toInt8.toInt32.toInt
def zi2s (x : Int) : Int := (Int32.ofInt x).toInt16.toInt32.toInt
def zlw (x : Int) : Int := (x + 9223372036854775808) % 18446744073709551616 - 9223372036854775808
def zland (x x' : Int) : Int := (Int64.ofInt x &&& Int64.ofInt x').toInt
def zlor (x x' : Int) : Int := (Int64.ofInt x ||| Int64.ofInt x').toInt
def zlshl (x x' : Int) : Int := (Int64.ofInt x <<< ((Int32.ofInt x').toInt64 &&& 63)).toInt
def zlshr (x x' : Int) : Int := (Int64.ofInt x >>> ((Int32.ofInt x').toInt64 &&& 63)).toInt
def zlushr (x x' : Int) : Int := ((Int64.ofInt x).toUInt64 >>> ((Int32.ofInt x').toInt64.toUInt64 &&& Int64.toUInt64 63)).toInt64.toInt
def zcmp (x x' : Int) : Int := if x > x' then 1 else if x = x' then 0 else -1
theorem zi_of (v : Int32) : Value.int (Int32.ofInt v.toInt) = .int v := congrArg Value.int (Int32.ofInt_toInt v)
theorem zl_of (v : Int64) : Value.long (Int64.ofInt v.toInt) = .long v := congrArg Value.long (Int64.ofInt_toInt v)
theorem zlw_id {x : Int} (h : z64 x) : zlw x = x := by unfold z64 at h; unfold zlw; omega
theorem zlw_64 (x : Int) : z64 (zlw x) := by unfold z64 zlw; omega
theorem zl_w (x : Int) : (Int64.ofInt x).toInt = zlw x := by
  rw [Int64.toInt_ofInt]
  have h := Int.bmod_def x Int64.size
  rw [h]
  show _ = (x + 9223372036854775808) % 18446744073709551616 - 9223372036854775808
  have e : ((Int64.size : Nat) : Int) = 18446744073709551616 := by decide
  rw [e]
  split <;> omega
theorem zl_ofw (x : Int) : Int64.ofInt (zlw x) = Int64.ofInt x := by rw [← zl_w, Int64.ofInt_toInt]
theorem z_iand {x x' : Int} (hd : decode y.2.1 pc = .ok (.iand, 1)) (kk : zW y d Q b S (pc + 1) L (.inl (zand x x') :: st) M) : zW y d Q b S pc L (.inl x' :: .inl x :: st) M :=
  zStep (st0 := (.inl x' :: .inl x :: st)) (st' := (.inl (zand x x') :: st)) (fun p l e R s m args below meth c Z ad H locs cells slots ls hx hb ho hL hs k => lv_iand hx hb hd (by rw [List.map_cons] at k; rw [show zc ad (.inl (zand x x')) = _ from zi_of _] at k; exact k)) (fun hQ hs => zc_cons (z32_of _) (zc_tl (zc_tl hs))) kk
theorem z_ior {x x' : Int} (hd : decode y.2.1 pc = .ok (.ior, 1)) (kk : zW y d Q b S (pc + 1) L (.inl (zor x x') :: st) M) : zW y d Q b S pc L (.inl x' :: .inl x :: st) M :=
  zStep (st0 := (.inl x' :: .inl x :: st)) (st' := (.inl (zor x x') :: st)) (fun p l e R s m args below meth c Z ad H locs cells slots ls hx hb ho hL hs k => lv_ior hx hb hd (by rw [List.map_cons] at k; rw [show zc ad (.inl (zor x x')) = _ from zi_of _] at k; exact k)) (fun hQ hs => zc_cons (z32_of _) (zc_tl (zc_tl hs))) kk
theorem z_ixor {x x' : Int} (hd : decode y.2.1 pc = .ok (.ixor, 1)) (kk : zW y d Q b S (pc + 1) L (.inl (zxor x x') :: st) M) : zW y d Q b S pc L (.inl x' :: .inl x :: st) M :=
  zStep (st0 := (.inl x' :: .inl x :: st)) (st' := (.inl (zxor x x') :: st)) (fun p l e R s m args below meth c Z ad H locs cells slots ls hx hb ho hL hs k => lv_ixor hx hb hd (by rw [List.map_cons] at k; rw [show zc ad (.inl (zxor x x')) = _ from zi_of _] at k; exact k)) (fun hQ hs => zc_cons (z32_of _) (zc_tl (zc_tl hs))) kk
theorem z_ishl {x x' : Int} (hd : decode y.2.1 pc = .ok (.ishl, 1)) (kk : zW y d Q b S (pc + 1) L (.inl (zshl x x') :: st) M) : zW y d Q b S pc L (.inl x' :: .inl x :: st) M :=
  zStep (st0 := (.inl x' :: .inl x :: st)) (st' := (.inl (zshl x x') :: st)) (fun p l e R s m args below meth c Z ad H locs cells slots ls hx hb ho hL hs k => lv_ishl hx hb hd (by rw [List.map_cons] at k; rw [show zc ad (.inl (zshl x x')) = _ from zi_of _] at k; exact k)) (fun hQ hs => zc_cons (z32_of _) (zc_tl (zc_tl hs))) kk
theorem z_ishr {x x' : Int} (hd : decode y.2.1 pc = .ok (.ishr, 1)) (kk : zW y d Q b S (pc + 1) L (.inl (zshr x x') :: st) M) : zW y d Q b S pc L (.inl x' :: .inl x :: st) M :=
  zStep (st0 := (.inl x' :: .inl x :: st)) (st' := (.inl (zshr x x') :: st)) (fun p l e R s m args below meth c Z ad H locs cells slots ls hx hb ho hL hs k => lv_ishr hx hb hd (by rw [List.map_cons] at k; rw [show zc ad (.inl (zshr x x')) = _ from zi_of _] at k; exact k)) (fun hQ hs => zc_cons (z32_of _) (zc_tl (zc_tl hs))) kk
theorem z_iushr {x x' : Int} (hd : decode y.2.1 pc = .ok (.iushr, 1)) (kk : zW y d Q b S (pc + 1) L (.inl (zushr x x') :: st) M) : zW y d Q b S pc L (.inl x' :: .inl x :: st) M :=
  zStep (st0 := (.inl x' :: .inl x :: st)) (st' := (.inl (zushr x x') :: st)) (fun p l e R s m args below meth c Z ad H locs cells slots ls hx hb ho hL hs k => lv_iushr hx hb hd rfl (by rw [List.map_cons] at k; rw [show zc ad (.inl (zushr x x')) = _ from zi_of _] at k; exact k)) (fun hQ hs => zc_cons (z32_of _) (zc_tl (zc_tl hs))) kk
theorem z_i2b {x : Int} (hd : decode y.2.1 pc = .ok (.i2b, 1)) (kk : zW y d Q b S (pc + 1) L (.inl (zi2b x) :: st) M) : zW y d Q b S pc L (.inl x :: st) M :=
  zStep (st0 := (.inl x :: st)) (st' := (.inl (zi2b x) :: st)) (fun p l e R s m args below meth c Z ad H locs cells slots ls hx hb ho hL hs k => lv_i2b hx hb hd rfl (by rw [List.map_cons] at k; rw [show zc ad (.inl (zi2b x)) = _ from zi_of _] at k; exact k)) (fun hQ hs => zc_cons (z32_of _) (zc_tl hs)) kk
theorem z_i2s {x : Int} (hd : decode y.2.1 pc = .ok (.i2s, 1)) (kk : zW y d Q b S (pc + 1) L (.inl (zi2s x) :: st) M) : zW y d Q b S pc L (.inl x :: st) M :=
  zStep (st0 := (.inl x :: st)) (st' := (.inl (zi2s x) :: st)) (fun p l e R s m args below meth c Z ad H locs cells slots ls hx hb ho hL hs k => lv_i2s hx hb hd rfl (by rw [List.map_cons] at k; rw [show zc ad (.inl (zi2s x)) = _ from zi_of _] at k; exact k)) (fun hQ hs => zc_cons (z32_of _) (zc_tl hs)) kk
theorem zi2l {x : Int} (h : z32 x) : (Int32.ofInt x).toInt64 = Int64.ofInt x := by
  apply Int64.toInt_inj.mp
  rw [Int32.toInt_toInt64, zi_to h, zl_to (by unfold z32 at h; unfold z64; omega)]
theorem z_i2l {x : Int} (hd : decode y.2.1 pc = .ok (.i2l, 1)) (kk : zW y d Q b S (pc + 1) L (.inr (.inl x) :: st) M) : zW y d Q b S pc L (.inl x :: st) M :=
  zStep (st0 := (.inl x :: st)) (st' := (.inr (.inl x) :: st)) (fun p l e R s m args below meth c Z ad H locs cells slots ls hx hb ho hL hs k => lv_i2l hx hb hd (zi2l (zc_hd hs)) k) (fun hQ hs => zc_cons (show z64 x by have h : z32 x := zc_hd hs; unfold z32 at h; unfold z64; omega) (zc_tl hs)) kk
theorem z_l2i {x : Int} (hd : decode y.2.1 pc = .ok (.l2i, 1)) (kk : zW y d Q b S (pc + 1) L (.inl (zw x) :: st) M) : zW y d Q b S pc L (.inr (.inl x) :: st) M :=
  zStep (st0 := (.inr (.inl x) :: st)) (st' := (.inl (zw x) :: st)) (fun p l e R s m args below meth c Z ad H locs cells slots ls hx hb ho hL hs k => lv_l2i hx hb hd rfl (by rw [List.map_cons] at k; rw [show zc ad (.inl (zw x)) = .int (Int64.ofInt x).toInt32 from congrArg Value.int ((zi_ofw x).trans (Int64.toInt32_ofInt (n := x)).symm)] at k; exact k)) (fun hQ hs => zc_cons (zw_32 _) (zc_tl hs)) kk
theorem z_land {x x' : Int} (hd : decode y.2.1 pc = .ok (.land, 1)) (kk : zW y d Q b S (pc + 1) L (.inr (.inl (zland x x')) :: st) M) : zW y d Q b S pc L (.inr (.inl x') :: .inr (.inl x) :: st) M :=
  zStep (st0 := (.inr (.inl x') :: .inr (.inl x) :: st)) (st' := (.inr (.inl (zland x x')) :: st)) (fun p l e R s m args below meth c Z ad H locs cells slots ls hx hb ho hL hs k => lv_land hx hb hd (by rw [List.map_cons] at k; rw [show zc ad (.inr (.inl (zland x x'))) = _ from zl_of _] at k; exact k)) (fun hQ hs => zc_cons (z64_of _) (zc_tl (zc_tl hs))) kk
theorem z_lor {x x' : Int} (hd : decode y.2.1 pc = .ok (.lor, 1)) (kk : zW y d Q b S (pc + 1) L (.inr (.inl (zlor x x')) :: st) M) : zW y d Q b S pc L (.inr (.inl x') :: .inr (.inl x) :: st) M :=
  zStep (st0 := (.inr (.inl x') :: .inr (.inl x) :: st)) (st' := (.inr (.inl (zlor x x')) :: st)) (fun p l e R s m args below meth c Z ad H locs cells slots ls hx hb ho hL hs k => lv_lor hx hb hd (by rw [List.map_cons] at k; rw [show zc ad (.inr (.inl (zlor x x'))) = _ from zl_of _] at k; exact k)) (fun hQ hs => zc_cons (z64_of _) (zc_tl (zc_tl hs))) kk
theorem z_laddw {x x' : Int} (hd : decode y.2.1 pc = .ok (.ladd, 1)) (kk : zW y d Q b S (pc + 1) L (.inr (.inl (zlw (x + x'))) :: st) M) : zW y d Q b S pc L (.inr (.inl x') :: .inr (.inl x) :: st) M :=
  zStep (st0 := (.inr (.inl x') :: .inr (.inl x) :: st)) (st' := (.inr (.inl (zlw (x + x'))) :: st)) (fun p l e R s m args below meth c Z ad H locs cells slots ls hx hb ho hL hs k => lv_ladd hx hb hd (by rw [List.map_cons] at k; rw [show zc ad (.inr (.inl (zlw (x + x')))) = .long (Int64.ofInt x + Int64.ofInt x') from congrArg Value.long ((zl_ofw _).trans (Int64.ofInt_add _ _))] at k; exact k)) (fun hQ hs => zc_cons (zlw_64 _) (zc_tl (zc_tl hs))) kk
theorem z_lsubw {x x' : Int} (hd : decode y.2.1 pc = .ok (.lsub, 1)) (kk : zW y d Q b S (pc + 1) L (.inr (.inl (zlw (x - x'))) :: st) M) : zW y d Q b S pc L (.inr (.inl x') :: .inr (.inl x) :: st) M :=
  zStep (st0 := (.inr (.inl x') :: .inr (.inl x) :: st)) (st' := (.inr (.inl (zlw (x - x'))) :: st)) (fun p l e R s m args below meth c Z ad H locs cells slots ls hx hb ho hL hs k => lv_lsub hx hb hd (by rw [List.map_cons] at k; rw [show zc ad (.inr (.inl (zlw (x - x')))) = .long (Int64.ofInt x - Int64.ofInt x') from congrArg Value.long ((zl_ofw _).trans (Int64.ofInt_sub _ _))] at k; exact k)) (fun hQ hs => zc_cons (zlw_64 _) (zc_tl (zc_tl hs))) kk
theorem z_lshl {x x' : Int} (hd : decode y.2.1 pc = .ok (.lshl, 1)) (kk : zW y d Q b S (pc + 1) L (.inr (.inl (zlshl x x')) :: st) M) : zW y d Q b S pc L (.inl x' :: .inr (.inl x) :: st) M :=
  zStep (st0 := (.inl x' :: .inr (.inl x) :: st)) (st' := (.inr (.inl (zlshl x x')) :: st)) (fun p l e R s m args below meth c Z ad H locs cells slots ls hx hb ho hL hs k => lv_lshl hx hb hd rfl (by rw [List.map_cons] at k; rw [show zc ad (.inr (.inl (zlshl x x'))) = _ from zl_of _] at k; exact k)) (fun hQ hs => zc_cons (z64_of _) (zc_tl (zc_tl hs))) kk
theorem z_lshr {x x' : Int} (hd : decode y.2.1 pc = .ok (.lshr, 1)) (kk : zW y d Q b S (pc + 1) L (.inr (.inl (zlshr x x')) :: st) M) : zW y d Q b S pc L (.inl x' :: .inr (.inl x) :: st) M :=
  zStep (st0 := (.inl x' :: .inr (.inl x) :: st)) (st' := (.inr (.inl (zlshr x x')) :: st)) (fun p l e R s m args below meth c Z ad H locs cells slots ls hx hb ho hL hs k => lv_lshr hx hb hd rfl (by rw [List.map_cons] at k; rw [show zc ad (.inr (.inl (zlshr x x'))) = _ from zl_of _] at k; exact k)) (fun hQ hs => zc_cons (z64_of _) (zc_tl (zc_tl hs))) kk
theorem z_lushr {x x' : Int} (hd : decode y.2.1 pc = .ok (.lushr, 1)) (kk : zW y d Q b S (pc + 1) L (.inr (.inl (zlushr x x')) :: st) M) : zW y d Q b S pc L (.inl x' :: .inr (.inl x) :: st) M :=
  zStep (st0 := (.inl x' :: .inr (.inl x) :: st)) (st' := (.inr (.inl (zlushr x x')) :: st)) (fun p l e R s m args below meth c Z ad H locs cells slots ls hx hb ho hL hs k => lv_lushr hx hb hd rfl (by rw [List.map_cons] at k; rw [show zc ad (.inr (.inl (zlushr x x'))) = _ from zl_of _] at k; exact k)) (fun hQ hs => zc_cons (z64_of _) (zc_tl (zc_tl hs))) kk
theorem zl_lt {x y : Int} (hx : z64 x) (hy : z64 y) : Int64.ofInt x < Int64.ofInt y ↔ x < y := by rw [Int64.lt_iff_toInt_lt, zl_to hx, zl_to hy]
theorem zl_inj {x y : Int} (hx : z64 x) (hy : z64 y) : Int64.ofInt x = Int64.ofInt y ↔ x = y := ⟨fun h => by rw [← zl_to hx, ← zl_to hy, h], fun h => by rw [h]⟩
theorem zl_cmp {x x' : Int} (h : z64 x) (h' : z64 x') : lg_cmp (Int64.ofInt x) (Int64.ofInt x') = Int32.ofInt (zcmp x x') := by
  unfold lg_cmp zcmp
  show (if Int64.ofInt x' < Int64.ofInt x then _ else _) = _
  by_cases h1 : x' < x
  · rw [if_pos ((zl_lt h' h).mpr h1), if_pos h1]; rfl
  · rw [if_neg (fun q => h1 ((zl_lt h' h).mp q)), if_neg (fun q => h1 q)]
    by_cases h2 : x = x'
    · rw [if_pos ((zl_inj h h').mpr h2), if_pos h2]; rfl
    · rw [if_neg (fun q => h2 ((zl_inj h h').mp q)), if_neg h2]; rfl
theorem zcmp_32 (x x' : Int) : z32 (zcmp x x') := by unfold zcmp z32; split <;> (try split) <;> omega
theorem z_lcmp {x x' : Int} (hd : decode y.2.1 pc = .ok (.lcmp, 1)) (kk : zW y d Q b S (pc + 1) L (.inl (zcmp x x') :: st) M) : zW y d Q b S pc L (.inr (.inl x') :: .inr (.inl x) :: st) M :=
  zStep (st0 := (.inr (.inl x') :: .inr (.inl x) :: st)) (st' := (.inl (zcmp x x') :: st)) (fun p l e R s m args below meth c Z ad H locs cells slots ls hx hb ho hL hs k => W.lcmp hx hb hd (by rw [zl_cmp (zc_hd (zc_tl hs)) (zc_hd hs)]; exact k)) (fun hQ hs => zc_cons (zcmp_32 _ _) (zc_tl (zc_tl hs))) kk
theorem zcat1 (ad : Int → Nat) {v : zV} (h : zcat2 v = false) : (zc ad v).category = 1 := by
  rcases v with x | x | x
  · rfl
  · simp [zcat2] at h
  · show (zrf ad x).category = 1
    unfold zrf
    split <;> rfl
theorem z_dup {v : zV} (hd : decode y.2.1 pc = .ok (.dup, 1)) (hv : zcat2 v = false) (kk : zW y d Q b S (pc + 1) L (v :: v :: st) M) : zW y d Q b S pc L (v :: st) M :=
  zStep (st0 := (v :: st)) (st' := (v :: v :: st)) (fun p l e R s m args below meth c Z ad H locs cells slots ls hx hb ho hL hs k => lv_dup hx hb hd (zcat1 ad hv) k) (fun hQ hs => zc_cons (zc_hd hs) hs) kk
theorem z_dup2 {v w : zV} (hd : decode y.2.1 pc = .ok (.dup2, 1)) (hv : zcat2 v = false) (hw : zcat2 w = false) (kk : zW y d Q b S (pc + 1) L (v :: w :: v :: w :: st) M) : zW y d Q b S pc L (v :: w :: st) M :=
  zStep (st0 := (v :: w :: st)) (st' := (v :: w :: v :: w :: st)) (fun p l e R s m args below meth c Z ad H locs cells slots ls hx hb ho hL hs k => lv_dup2_11 hx hb hd (zcat1 ad hv) (zcat1 ad hw) k) (fun hQ hs => zc_cons (zc_hd hs) (zc_cons (zc_hd (zc_tl hs)) hs)) kk
theorem z_pop {v : zV} (hd : decode y.2.1 pc = .ok (.pop, 1)) (hv : zcat2 v = false) (kk : zW y d Q b S (pc + 1) L st M) : zW y d Q b S pc L (v :: st) M :=
  zStep (st0 := (v :: st)) (st' := st) (fun p l e R s m args below meth c Z ad H locs cells slots ls hx hb ho hL hs k => lv_pop hx hb hd (zcat1 ad hv) k) (fun hQ hs => zc_tl hs) kk
theorem z_goto {off : Int} (tgt : Nat) (hd : decode y.2.1 pc = .ok (.goto off, 3)) (ht : (pc : Int) + off = (tgt : Int)) (kk : zW y d Q b S tgt L st M) : zW y d Q b S pc L st M :=
  zStep (st0 := st) (st' := st) (fun p l e R s m args below meth c Z ad H locs cells slots ls hx hb ho hL hs k => lv_goto hx hb hd ht k) (fun hQ hs => hs) kk
theorem z_if_eq {x off : Int} (tgt : Nat) (hd : decode y.2.1 pc = .ok (.ifCond .eq off, 3)) (ht : (pc : Int) + off = (tgt : Int)) (kt : x = 0 → zW y d Q b S tgt L st M) (kf : ¬ (x = 0) → zW y d Q b S (pc + 3) L st M) : zW y d Q b S pc L (.inl x :: st) M :=
  fun p l e R s m args below meth c D cA ad0 n0 Mn A Z hE hR ad H locs cells slots ls hW hL hs => lv_if_eq hE.1 hE.2.1 hd ht (fun q => kt ((zi_inj (show z32 x from zc_hd hs) (show z32 0 by unfold z32; omega)).mp q) p l e R s m args below meth c D cA ad0 n0 Mn A Z hE hR ad H locs cells slots ls hW hL (zc_tl hs)) (fun q => kf (fun q2 => q ((zi_inj (show z32 x from zc_hd hs) (show z32 0 by unfold z32; omega)).mpr q2)) p l e R s m args below meth c D cA ad0 n0 Mn A Z hE hR ad H locs cells slots ls hW hL (zc_tl hs))
theorem z_icmp_eq {x x' off : Int} (tgt : Nat) (hd : decode y.2.1 pc = .ok (.if_icmp .eq off, 3)) (ht : (pc : Int) + off = (tgt : Int)) (kt : x = x' → zW y d Q b S tgt L st M) (kf : ¬ (x = x') → zW y d Q b S (pc + 3) L st M) : zW y d Q b S pc L (.inl x' :: .inl x :: st) M :=
  fun p l e R s m args below meth c D cA ad0 n0 Mn A Z hE hR ad H locs cells slots ls hW hL hs => lv_icmp_eq hE.1 hE.2.1 hd ht (fun q => kt ((zi_inj (show z32 x from zc_hd (zc_tl hs)) (show z32 x' from zc_hd hs)).mp q) p l e R s m args below meth c D cA ad0 n0 Mn A Z hE hR ad H locs cells slots ls hW hL (zc_tl (zc_tl hs))) (fun q => kf (fun q2 => q ((zi_inj (show z32 x from zc_hd (zc_tl hs)) (show z32 x' from zc_hd hs)).mpr q2)) p l e R s m args below meth c D cA ad0 n0 Mn A Z hE hR ad H locs cells slots ls hW hL (zc_tl (zc_tl hs)))
theorem z_if_ne {x off : Int} (tgt : Nat) (hd : decode y.2.1 pc = .ok (.ifCond .ne off, 3)) (ht : (pc : Int) + off = (tgt : Int)) (kt : x ≠ 0 → zW y d Q b S tgt L st M) (kf : ¬ (x ≠ 0) → zW y d Q b S (pc + 3) L st M) : zW y d Q b S pc L (.inl x :: st) M :=
  fun p l e R s m args below meth c D cA ad0 n0 Mn A Z hE hR ad H locs cells slots ls hW hL hs => lv_if_ne hE.1 hE.2.1 hd ht (fun q => kt ((not_congr (zi_inj (show z32 x from zc_hd hs) (show z32 0 by unfold z32; omega))).mp q) p l e R s m args below meth c D cA ad0 n0 Mn A Z hE hR ad H locs cells slots ls hW hL (zc_tl hs)) (fun q => kf (fun q2 => q2 ((zi_inj (show z32 x from zc_hd hs) (show z32 0 by unfold z32; omega)).mp q)) p l e R s m args below meth c D cA ad0 n0 Mn A Z hE hR ad H locs cells slots ls hW hL (zc_tl hs))
theorem z_icmp_ne {x x' off : Int} (tgt : Nat) (hd : decode y.2.1 pc = .ok (.if_icmp .ne off, 3)) (ht : (pc : Int) + off = (tgt : Int)) (kt : x ≠ x' → zW y d Q b S tgt L st M) (kf : ¬ (x ≠ x') → zW y d Q b S (pc + 3) L st M) : zW y d Q b S pc L (.inl x' :: .inl x :: st) M :=
  fun p l e R s m args below meth c D cA ad0 n0 Mn A Z hE hR ad H locs cells slots ls hW hL hs => lv_icmp_ne hE.1 hE.2.1 hd ht (fun q => kt ((not_congr (zi_inj (show z32 x from zc_hd (zc_tl hs)) (show z32 x' from zc_hd hs))).mp q) p l e R s m args below meth c D cA ad0 n0 Mn A Z hE hR ad H locs cells slots ls hW hL (zc_tl (zc_tl hs))) (fun q => kf (fun q2 => q2 ((zi_inj (show z32 x from zc_hd (zc_tl hs)) (show z32 x' from zc_hd hs)).mp q)) p l e R s m args below meth c D cA ad0 n0 Mn A Z hE hR ad H locs cells slots ls hW hL (zc_tl (zc_tl hs)))
theorem z_if_lt {x off : Int} (tgt : Nat) (hd : decode y.2.1 pc = .ok (.ifCond .lt off, 3)) (ht : (pc : Int) + off = (tgt : Int)) (kt : x < 0 → zW y d Q b S tgt L st M) (kf : ¬ (x < 0) → zW y d Q b S (pc + 3) L st M) : zW y d Q b S pc L (.inl x :: st) M :=
  fun p l e R s m args below meth c D cA ad0 n0 Mn A Z hE hR ad H locs cells slots ls hW hL hs => lv_if_lt hE.1 hE.2.1 hd ht (fun q => kt ((zi_lt (show z32 x from zc_hd hs) (show z32 0 by unfold z32; omega)).mp q) p l e R s m args below meth c D cA ad0 n0 Mn A Z hE hR ad H locs cells slots ls hW hL (zc_tl hs)) (fun q => kf (fun q2 => q ((zi_lt (show z32 x from zc_hd hs) (show z32 0 by unfold z32; omega)).mpr q2)) p l e R s m args below meth c D cA ad0 n0 Mn A Z hE hR ad H locs cells slots ls hW hL (zc_tl hs))
theorem z_icmp_lt {x x' off : Int} (tgt : Nat) (hd : decode y.2.1 pc = .ok (.if_icmp .lt off, 3)) (ht : (pc : Int) + off = (tgt : Int)) (kt : x < x' → zW y d Q b S tgt L st M) (kf : ¬ (x < x') → zW y d Q b S (pc + 3) L st M) : zW y d Q b S pc L (.inl x' :: .inl x :: st) M :=
  fun p l e R s m args below meth c D cA ad0 n0 Mn A Z hE hR ad H locs cells slots ls hW hL hs => lv_icmp_lt hE.1 hE.2.1 hd ht (fun q => kt ((zi_lt (show z32 x from zc_hd (zc_tl hs)) (show z32 x' from zc_hd hs)).mp q) p l e R s m args below meth c D cA ad0 n0 Mn A Z hE hR ad H locs cells slots ls hW hL (zc_tl (zc_tl hs))) (fun q => kf (fun q2 => q ((zi_lt (show z32 x from zc_hd (zc_tl hs)) (show z32 x' from zc_hd hs)).mpr q2)) p l e R s m args below meth c D cA ad0 n0 Mn A Z hE hR ad H locs cells slots ls hW hL (zc_tl (zc_tl hs)))
theorem z_if_ge {x off : Int} (tgt : Nat) (hd : decode y.2.1 pc = .ok (.ifCond .ge off, 3)) (ht : (pc : Int) + off = (tgt : Int)) (kt : 0 ≤ x → zW y d Q b S tgt L st M) (kf : ¬ (0 ≤ x) → zW y d Q b S (pc + 3) L st M) : zW y d Q b S pc L (.inl x :: st) M :=
  fun p l e R s m args below meth c D cA ad0 n0 Mn A Z hE hR ad H locs cells slots ls hW hL hs => lv_if_ge hE.1 hE.2.1 hd ht (fun q => kt ((zi_le (show z32 0 by unfold z32; omega) (show z32 x from zc_hd hs)).mp q) p l e R s m args below meth c D cA ad0 n0 Mn A Z hE hR ad H locs cells slots ls hW hL (zc_tl hs)) (fun q => kf (fun q2 => q ((zi_le (show z32 0 by unfold z32; omega) (show z32 x from zc_hd hs)).mpr q2)) p l e R s m args below meth c D cA ad0 n0 Mn A Z hE hR ad H locs cells slots ls hW hL (zc_tl hs))
theorem z_icmp_ge {x x' off : Int} (tgt : Nat) (hd : decode y.2.1 pc = .ok (.if_icmp .ge off, 3)) (ht : (pc : Int) + off = (tgt : Int)) (kt : x' ≤ x → zW y d Q b S tgt L st M) (kf : ¬ (x' ≤ x) → zW y d Q b S (pc + 3) L st M) : zW y d Q b S pc L (.inl x' :: .inl x :: st) M :=
  fun p l e R s m args below meth c D cA ad0 n0 Mn A Z hE hR ad H locs cells slots ls hW hL hs => lv_icmp_ge hE.1 hE.2.1 hd ht (fun q => kt ((zi_le (show z32 x' from zc_hd hs) (show z32 x from zc_hd (zc_tl hs))).mp q) p l e R s m args below meth c D cA ad0 n0 Mn A Z hE hR ad H locs cells slots ls hW hL (zc_tl (zc_tl hs))) (fun q => kf (fun q2 => q ((zi_le (show z32 x' from zc_hd hs) (show z32 x from zc_hd (zc_tl hs))).mpr q2)) p l e R s m args below meth c D cA ad0 n0 Mn A Z hE hR ad H locs cells slots ls hW hL (zc_tl (zc_tl hs)))
theorem z_if_gt {x off : Int} (tgt : Nat) (hd : decode y.2.1 pc = .ok (.ifCond .gt off, 3)) (ht : (pc : Int) + off = (tgt : Int)) (kt : 0 < x → zW y d Q b S tgt L st M) (kf : ¬ (0 < x) → zW y d Q b S (pc + 3) L st M) : zW y d Q b S pc L (.inl x :: st) M :=
  fun p l e R s m args below meth c D cA ad0 n0 Mn A Z hE hR ad H locs cells slots ls hW hL hs => lv_if_gt hE.1 hE.2.1 hd ht (fun q => kt ((zi_lt (show z32 0 by unfold z32; omega) (show z32 x from zc_hd hs)).mp q) p l e R s m args below meth c D cA ad0 n0 Mn A Z hE hR ad H locs cells slots ls hW hL (zc_tl hs)) (fun q => kf (fun q2 => q ((zi_lt (show z32 0 by unfold z32; omega) (show z32 x from zc_hd hs)).mpr q2)) p l e R s m args below meth c D cA ad0 n0 Mn A Z hE hR ad H locs cells slots ls hW hL (zc_tl hs))
theorem z_icmp_gt {x x' off : Int} (tgt : Nat) (hd : decode y.2.1 pc = .ok (.if_icmp .gt off, 3)) (ht : (pc : Int) + off = (tgt : Int)) (kt : x' < x → zW y d Q b S tgt L st M) (kf : ¬ (x' < x) → zW y d Q b S (pc + 3) L st M) : zW y d Q b S pc L (.inl x' :: .inl x :: st) M :=
  fun p l e R s m args below meth c D cA ad0 n0 Mn A Z hE hR ad H locs cells slots ls hW hL hs => lv_icmp_gt hE.1 hE.2.1 hd ht (fun q => kt ((zi_lt (show z32 x' from zc_hd hs) (show z32 x from zc_hd (zc_tl hs))).mp q) p l e R s m args below meth c D cA ad0 n0 Mn A Z hE hR ad H locs cells slots ls hW hL (zc_tl (zc_tl hs))) (fun q => kf (fun q2 => q ((zi_lt (show z32 x' from zc_hd hs) (show z32 x from zc_hd (zc_tl hs))).mpr q2)) p l e R s m args below meth c D cA ad0 n0 Mn A Z hE hR ad H locs cells slots ls hW hL (zc_tl (zc_tl hs)))
theorem z_if_le {x off : Int} (tgt : Nat) (hd : decode y.2.1 pc = .ok (.ifCond .le off, 3)) (ht : (pc : Int) + off = (tgt : Int)) (kt : x ≤ 0 → zW y d Q b S tgt L st M) (kf : ¬ (x ≤ 0) → zW y d Q b S (pc + 3) L st M) : zW y d Q b S pc L (.inl x :: st) M :=
  fun p l e R s m args below meth c D cA ad0 n0 Mn A Z hE hR ad H locs cells slots ls hW hL hs => lv_if_le hE.1 hE.2.1 hd ht (fun q => kt ((zi_le (show z32 x from zc_hd hs) (show z32 0 by unfold z32; omega)).mp q) p l e R s m args below meth c D cA ad0 n0 Mn A Z hE hR ad H locs cells slots ls hW hL (zc_tl hs)) (fun q => kf (fun q2 => q ((zi_le (show z32 x from zc_hd hs) (show z32 0 by unfold z32; omega)).mpr q2)) p l e R s m args below meth c D cA ad0 n0 Mn A Z hE hR ad H locs cells slots ls hW hL (zc_tl hs))
theorem z_icmp_le {x x' off : Int} (tgt : Nat) (hd : decode y.2.1 pc = .ok (.if_icmp .le off, 3)) (ht : (pc : Int) + off = (tgt : Int)) (kt : x ≤ x' → zW y d Q b S tgt L st M) (kf : ¬ (x ≤ x') → zW y d Q b S (pc + 3) L st M) : zW y d Q b S pc L (.inl x' :: .inl x :: st) M :=
  fun p l e R s m args below meth c D cA ad0 n0 Mn A Z hE hR ad H locs cells slots ls hW hL hs => lv_icmp_le hE.1 hE.2.1 hd ht (fun q => kt ((zi_le (show z32 x from zc_hd (zc_tl hs)) (show z32 x' from zc_hd hs)).mp q) p l e R s m args below meth c D cA ad0 n0 Mn A Z hE hR ad H locs cells slots ls hW hL (zc_tl (zc_tl hs))) (fun q => kf (fun q2 => q ((zi_le (show z32 x from zc_hd (zc_tl hs)) (show z32 x' from zc_hd hs)).mpr q2)) p l e R s m args below meth c D cA ad0 n0 Mn A Z hE hR ad H locs cells slots ls hW hL (zc_tl (zc_tl hs)))
theorem z_tsw {x dflt lo hi : Int} {offs : Array Int} {len : Nat} (hd : decode y.2.1 pc = .ok (.tableswitch dflt lo hi offs, len)) (hsz : (offs.size : Int) = hi - lo + 1)
    (kin : ∀ (j : Nat) (off : Int), offs.toList[j]? = some off → x = lo + j → ∃ tgt : Nat, (pc : Int) + off = (tgt : Int) ∧ zW y d Q b S tgt L st M) (kout : x < lo ∨ hi < x → ∃ tgt : Nat, (pc : Int) + dflt = (tgt : Int) ∧ zW y d Q b S tgt L st M) : zW y d Q b S pc L (.inl x :: st) M := by
  intro p l e R s m args below meth c D cA ad0 n0 Mn A Z hE hR ad H locs cells slots ls hW hL hs
  have hx : (Int32.ofInt x).toInt = x := zi_to (zc_hd hs)
  by_cases ho : x < lo ∨ hi < x
  · obtain ⟨tgt, ht, k⟩ := kout ho
    exact lv_tableOut hE.1 hE.2.1 hd (by rw [hx]; exact ho) ht (k p l e R s m args below meth c D cA ad0 n0 Mn A Z hE hR ad H locs cells slots ls hW hL (zc_tl hs))
  · have h1 : ¬ x < lo := fun h => ho (Or.inl h)
    have h2 : ¬ hi < x := fun h => ho (Or.inr h)
    have hlt : (x - lo).toNat < offs.size := by omega
    obtain ⟨tgt, ht, k⟩ := kin (x - lo).toNat offs[(x - lo).toNat] (by rw [Array.getElem?_toList, Array.getElem?_eq_getElem hlt]) (by omega)
    exact lv_tableIn hE.1 hE.2.1 hd (by rw [hx]; exact h1) (by rw [hx]; exact h2) (by rw [hx, Array.getElem?_eq_getElem hlt]) ht (k p l e R s m args below meth c D cA ad0 n0 Mn A Z hE hR ad H locs cells slots ls hW hL (zc_tl hs))
theorem z_lsw {x dflt : Int} {ps : Array (Int × Int)} {len : Nat} {off : Int} (tgt : Nat) (hd : decode y.2.1 pc = .ok (.lookupswitch dflt ps, len)) (hp : (ps.toList.zip (ps.toList.drop 1)).all (fun (a, next) => a.1 < next.1) = true) (ho : Op.lookupswitch.offset ps.toList dflt x = off) (ht : (pc : Int) + off = (tgt : Int)) (k : zW y d Q b S tgt L st M) : zW y d Q b S pc L (.inl x :: st) M := by
  intro p l e R s m args below meth c D cA ad0 n0 Mn A Z hE hR ad H locs cells slots ls hW hL hs
  exact lv_lookup hE.1 hE.2.1 hd hp (by rw [zi_to (zc_hd hs)]; exact ho) ht (k p l e R s m args below meth c D cA ad0 n0 Mn A Z hE hR ad H locs cells slots ls hW hL (zc_tl hs))
theorem zWd_0 {D : va_G} {cA : FieldType → ClassId} {ad0 : Int → Nat} {n0 : Nat} {Mn : zMm} {A : Nat → Prop} {R : Room} {s : State} {ad : Int → Nat} {H : Heap} {locs : List Loc} {cells slots : Nat} (h : zWd b S M D cA ad0 n0 Mn A R s ad H locs cells slots) : zWd (0, 0) S M D cA ad0 n0 Mn A R s ad H locs cells slots := by
  obtain ⟨h1, h2, h3, h4, h5, h6, h7, h8, h9⟩ := h
  exact ⟨h1, h2, h3, h4, h5, h6, by show cells + 0 ≤ _; omega, by show slots + 0 ≤ _; omega, h9⟩
theorem z_iret {x : Int} (hd : decode y.2.1 pc = .ok (.ireturn, 1)) (hr : y.2.2.2 = some .int) (hq : Q (some (.inl x)) S M) : zW y d Q b S pc L [.inl x] M :=
  fun p l e R s m args below meth c D cA ad0 n0 Mn A Z hE hR ad H locs cells slots ls hW hL hs => hR (some (.inl x)) S M ad H locs cells slots pc ls (zWd_0 hW) (fun v hv => by cases hv; exact zc_hd hs) hq (by rw [hr]; exact zc_hd hs) hd
theorem z_zret {x : Int} (hd : decode y.2.1 pc = .ok (.ireturn, 1)) (hr : y.2.2.2 = some .boolean) (hx : 0 ≤ x ∧ x ≤ 1) (hq : Q (some (.inl x)) S M) : zW y d Q b S pc L [.inl x] M :=
  fun p l e R s m args below meth c D cA ad0 n0 Mn A Z hE hR ad H locs cells slots ls hW hL hs => hR (some (.inl x)) S M ad H locs cells slots pc ls (zWd_0 hW) (fun v hv => by cases hv; exact zc_hd hs) hq (by rw [hr]; exact hx) hd
theorem z_lret {x : Int} (hd : decode y.2.1 pc = .ok (.lreturn, 1)) (hr : y.2.2.2 = some .long) (hq : Q (some (.inr (.inl x))) S M) : zW y d Q b S pc L [.inr (.inl x)] M :=
  fun p l e R s m args below meth c D cA ad0 n0 Mn A Z hE hR ad H locs cells slots ls hW hL hs => hR (some (.inr (.inl x))) S M ad H locs cells slots pc ls (zWd_0 hW) (fun v hv => by cases hv; exact zc_hd hs) hq (by rw [hr]; exact zc_hd hs) hd
theorem z_vret (hd : decode y.2.1 pc = .ok (.return_, 1)) (hr : y.2.2.2 = none) (hq : Q none S M) : zW y d Q b S pc L [] M :=
  fun p l e R s m args below meth c D cA ad0 n0 Mn A Z hE hR ad H locs cells slots ls hW hL hs => hR none S M ad H locs cells slots pc ls (zWd_0 hW) (fun v hv => by cases hv) hq (by rw [hr]; trivial) hd
end
end
section
/-! the rules of zW: fields and rows -/
theorem zup_self (M : zMm) (c k v : Int) : zup M c k v c k = v := by simp [zup]
theorem zup_row {M : zMm} {c k v c' : Int} (h : c' ≠ c) : zup M c k v c' = M c' := by
  funext k'
  simp [zup, h]
theorem zup_ne {M : zMm} {c k v c' k' : Int} (h : k' ≠ k) : zup M c k v c' k' = M c' k' := by simp [zup, h]
theorem zcM_up {S : List zSh} {M : zMm} {r : Nat} {sh : zSh} {k v : Int} (h : zcM S M) (hr : S[r]? = some sh) (hv : ∀ j : Nat, k = j → j < sh.2 → zokE S.length sh j v (M (-10 - (r : Int)) j)) : zcM S (zup M r k v) := by
  intro i sh' hi j hj
  have e2 : zup M r k v (-10 - (i : Int)) = M (-10 - (i : Int)) := zup_row (by omega)
  rw [e2]
  by_cases hir : i = r
  · subst hir
    rw [hr] at hi
    cases hi
    by_cases hk : (j : Int) = k
    · subst hk
      rw [zup_self]
      exact hv j rfl hj
    · rw [zup_ne hk]
      exact h i sh hr j hj
  · rw [zup_row (by omega)]
    exact h i sh' hi j hj
theorem zcM_upr {S : List zSh} {M : zMm} {r : Nat} {sh : zSh} {k g : Int} (h : zcM S M) (hr : S[r]? = some sh) (hv : ∀ j : Nat, k = j → j < sh.2 → zokE S.length sh j (M r j) g) : zcM S (zup M (-10 - (r : Int)) k g) := by
  intro i sh' hi j hj
  have e2 : zup M (-10 - (r : Int)) k g i = M i := zup_row (by omega)
  rw [e2]
  by_cases hir : i = r
  · subst hir
    rw [hr] at hi
    cases hi
    by_cases hk : (j : Int) = k
    · subst hk
      rw [zup_self]
      exact hv j rfl hj
    · rw [zup_ne hk]
      exact h i sh hr j hj
  · rw [zup_row (by omega)]
    exact h i sh' hi j hj
theorem zWd_upd {b : Nat × Nat} {S : List zSh} {M M' : zMm} {D : va_G} {cA : FieldType → ClassId} {ad0 : Int → Nat} {n0 : Nat} {Mn : zMm} {A : Nat → Prop} {R : Room} {s : State} {ad : Int → Nat} {H H1 : Heap} {locs locs1 : List Loc} {cells slots : Nat} (h : zWd b S M D cA ad0 n0 Mn A R s ad H locs cells slots) {r : Nat} {sh : zSh} {e : va_E} (hr : S[r]? = some sh) (he : e = zE ad cA sh (M' r) (M' (-10 - (r : Int)))) (hk : ∀ i : Nat, i < S.length → i ≠ r → M' i = M i ∧ M' (-10 - (i : Int)) = M (-10 - (i : Int))) (hneg : ∀ x : Int, -5 < x → x < 0 → M' x = M x) (hc : zcM S M') (hP : va_P D zcl ((zWs ad cA S M).set r (ad r, e)) H1) (hD : va_D A ((zWs ad cA S M).set r (ad r, e))) (hS : va_S A s.heap H1 locs1) : zWd b S M' D cA ad0 n0 Mn A R s ad H1 locs1 cells slots := by
  obtain ⟨h1, h2, h3, h4, h5, h6, h7, h8, h9⟩ := h
  rw [zWs_set hr he hk] at hP hD
  exact ⟨h1, h2, fun x hx hy => (hneg x hx hy).trans (h3 x hx hy), hP, hD, hS, h7, h8, hc⟩
theorem zcl_ref {ad : Int → Nat} (r : Nat) : zc ad (.inr (.inr (r : Int))) = .ref (ad r) := zrf_ne (by omega)
theorem zc_int {ad : Int → Nat} {x : Int} : zc ad (.inl x) = .int (Int32.ofInt x) := rfl
theorem zc_long {ad : Int → Nat} {x : Int} : zc ad (.inr (.inl x)) = .long (Int64.ofInt x) := rfl
def zik (ty : FieldType) : Nat := match ty with
  | .long => 1
  | .object _ => 2
  | .array _ => 2
  | _ => 0
theorem zfv_i {ad : Int → Nat} {ty : FieldType} {x g : Int} (h : zik ty = 0) : zfv ad ty x g = .int (Int32.ofInt x) := by cases ty <;> first | rfl | (simp [zik] at h)
theorem zfv_l {ad : Int → Nat} {ty : FieldType} {x g : Int} (h : zik ty = 1) : zfv ad ty x g = .long (Int64.ofInt x) := by cases ty <;> first | rfl | (simp [zik] at h)
theorem zfv_r {ad : Int → Nat} {ty : FieldType} {x g : Int} (h : zik ty = 2) : zfv ad ty x g = zrf ad g := by cases ty <;> first | rfl | (simp [zik] at h)
theorem zok1_i {n : Nat} {ty : FieldType} {x g : Int} (h : zik ty = 0) (hx : zok1 n ty x g) : z32 x := by
  cases ty <;> first | exact hx | (have h2 : 0 ≤ x ∧ x ≤ 1 := hx; unfold z32; omega) | (simp [zik] at h; done)
theorem zok1_l {n : Nat} {ty : FieldType} {x g : Int} (h : zik ty = 1) (hx : zok1 n ty x g) : z64 x := by
  cases ty <;> first | exact hx | (simp [zik] at h)
theorem zok1_r {n : Nat} {ty : FieldType} {x g : Int} (h : zik ty = 2) (hx : zok1 n ty x g) : zrr n g := by
  cases ty <;> first | exact hx | (simp [zik] at h)
section
variable {y : zM} {d : Nat} {Q : zPost} {b : Nat × Nat} {S : List zSh} {pc : Nat} {L : List (Nat × zV)} {st : List zV} {M : zMm}
theorem z_iald (r : Nat) {n : Nat} {ri i : Int} (hd : decode y.2.1 pc = .ok (.iaload, 1)) (hr : ri = (r : Int)) (hsh : S[r]? = some (0, n)) (hi : 0 ≤ i ∧ i < n) (kk : zW y d Q b S (pc + 1) L (.inl (M ri i) :: st) M) : zW y d Q b S pc L (.inl i :: .inr (.inr ri) :: st) M := by
  intro p l e R s m args below meth c D cA ad0 n0 Mn A Z hE hR ad H locs cells slots ls hW hL hs
  subst hr
  have hi32 : z32 i := zc_hd hs
  have k := kk p l e R s m args below meth c D cA ad0 n0 Mn A Z hE hR ad H locs cells slots ls hW hL (zc_cons (by
    have h := hW.2.2.2.2.2.2.2.2 r (0, n) hsh i.toNat (by show i.toNat < n; omega)
    rw [Int.toNat_of_nonneg hi.1] at h
    exact h) (zc_tl (zc_tl hs)))
  rw [List.map_cons, List.map_cons, zcl_ref, zc_int]
  rw [List.map_cons, zc_int] at k
  refine va_iald hE.1 hE.2.1 hE.2.2.2.2.2.2.2.2.1 hW.2.2.2.1 r 0 (zWs_at hsh) (show (ztys cA)[0]? = some (cA .int, .int) from rfl) (zi_in hi.1 hi.2 hi32) hd ?_
  rw [zi_nat hi32, Int.toNat_of_nonneg hi.1]
  exact k
theorem z_zald (r : Nat) {n : Nat} {ri i : Int} (hd : decode y.2.1 pc = .ok (.baload, 1)) (hr : ri = (r : Int)) (hsh : S[r]? = some (1, n)) (hi : 0 ≤ i ∧ i < n) (kk : 0 ≤ M ri i ∧ M ri i ≤ 1 → zW y d Q b S (pc + 1) L (.inl (M ri i) :: st) M) : zW y d Q b S pc L (.inl i :: .inr (.inr ri) :: st) M := by
  intro p l e R s m args below meth c D cA ad0 n0 Mn A Z hE hR ad H locs cells slots ls hW hL hs
  subst hr
  have hi32 : z32 i := zc_hd hs
  have h01 : 0 ≤ M r i ∧ M r i ≤ 1 := by
    have h := hW.2.2.2.2.2.2.2.2 r (1, n) hsh i.toNat (by show i.toNat < n; omega)
    rw [Int.toNat_of_nonneg hi.1] at h
    exact h
  have k := kk h01 p l e R s m args below meth c D cA ad0 n0 Mn A Z hE hR ad H locs cells slots ls hW hL (zc_cons (show z32 (M r i) by unfold z32; omega) (zc_tl (zc_tl hs)))
  rw [List.map_cons, List.map_cons, zcl_ref, zc_int]
  rw [List.map_cons, zc_int] at k
  refine va_zald hE.1 hE.2.1 hE.2.2.2.2.2.2.2.2.1 hW.2.2.2.1 r 1 (zWs_at hsh) (show (ztys cA)[1]? = some (cA .boolean, .boolean) from rfl) (zi_in hi.1 hi.2 hi32) hd ?_
  rw [zi_nat hi32, Int.toNat_of_nonneg hi.1]
  exact k
theorem z_lald (r : Nat) {n : Nat} {ri i : Int} (hd : decode y.2.1 pc = .ok (.laload, 1)) (hr : ri = (r : Int)) (hsh : S[r]? = some (2, n)) (hi : 0 ≤ i ∧ i < n) (kk : zW y d Q b S (pc + 1) L (.inr (.inl (M ri i)) :: st) M) : zW y d Q b S pc L (.inl i :: .inr (.inr ri) :: st) M := by
  intro p l e R s m args below meth c D cA ad0 n0 Mn A Z hE hR ad H locs cells slots ls hW hL hs
  subst hr
  have hi32 : z32 i := zc_hd hs
  have k := kk p l e R s m args below meth c D cA ad0 n0 Mn A Z hE hR ad H locs cells slots ls hW hL (zc_cons (by
    have h := hW.2.2.2.2.2.2.2.2 r (2, n) hsh i.toNat (by show i.toNat < n; omega)
    rw [Int.toNat_of_nonneg hi.1] at h
    exact h) (zc_tl (zc_tl hs)))
  rw [List.map_cons, List.map_cons, zcl_ref, zc_int]
  rw [List.map_cons, zc_long] at k
  refine va_lald hE.1 hE.2.1 hE.2.2.2.2.2.2.2.2.1 hW.2.2.2.1 r 2 (zWs_at hsh) (show (ztys cA)[2]? = some (cA .long, .long) from rfl) (zi_in hi.1 hi.2 hi32) hd ?_
  rw [zi_nat hi32, Int.toNat_of_nonneg hi.1]
  exact k
theorem z_aald (r : Nat) {n : Nat} {ri rw1 i r' : Int} (hd : decode y.2.1 pc = .ok (.aaload, 1)) (hr : ri = (r : Int)) (hrw : rw1 = -10 - ri) (hsh : S[r]? = some (3, n)) (hi : 0 ≤ i ∧ i < n) (hM : M rw1 i = r') (hr' : r' ≠ -1) (kk : zW y d Q b S (pc + 1) L (.inr (.inr r') :: st) M) : zW y d Q b S pc L (.inl i :: .inr (.inr ri) :: st) M := by
  intro p l e R s m args below meth c D cA ad0 n0 Mn A Z hE hR ad H locs cells slots ls hW hL hs
  subst hrw
  subst hr
  have hi32 : z32 i := zc_hd hs
  have k := kk p l e R s m args below meth c D cA ad0 n0 Mn A Z hE hR ad H locs cells slots ls hW hL (zc_cons (by
    have h := hW.2.2.2.2.2.2.2.2 r (3, n) hsh i.toNat (by show i.toNat < n; omega)
    rw [Int.toNat_of_nonneg hi.1, hM] at h
    exact h) (zc_tl (zc_tl hs)))
  rw [List.map_cons, List.map_cons, zcl_ref, zc_int]
  rw [List.map_cons, show zc ad (.inr (.inr r')) = .ref (ad r') from zrf_ne hr'] at k
  have hcell := hW.2.2.2.1 r _ (zWs_at hsh)
  have hAr := (hE.2.2.2.2.2.2.2.2.1.2 3 _ (show (ztys cA)[3]? = some (cA (.array .long), .array .long) from rfl)).1
  refine W.aald (ty := .array .long) (v := .ref (ad r')) hE.1 hE.2.1 hcell (hAr n _) rfl (fun q => by cases q) (by show ¬ (_ ∨ (arrV _ _ _).slots.size ≤ _); rw [arrV_size]; exact zi_in hi.1 hi.2 hi32) ?_ rfl rfl hd k
  show (arrV _ _ _).slots[_]? = _
  have hlt : (Int32.ofInt i).toNatClampNeg < n := by rw [zi_nat hi32]; omega
  rw [arrV_read _ _ hlt, zi_nat hi32]
  show some (va_rf (if i.toNat < n then (if M (-10 - (r : Int)) (i.toNat : Nat) = -1 then none else some (ad (M (-10 - (r : Int)) (i.toNat : Nat)))) else none)) = _
  rw [Int.toNat_of_nonneg hi.1, hM, if_neg hr', if_pos (by omega)]
  rfl
theorem z_iast (r : Nat) {n : Nat} {ri i v : Int} (hd : decode y.2.1 pc = .ok (.iastore, 1)) (hr : ri = (r : Int)) (hsh : S[r]? = some (0, n)) (hi : 0 ≤ i ∧ i < n) (kk : zW y d Q b S (pc + 1) L st (zup M ri i v)) : zW y d Q b S pc L (.inl v :: .inl i :: .inr (.inr ri) :: st) M := by
  intro p l e R s m args below meth c D cA ad0 n0 Mn A Z hE hR ad H locs cells slots ls hW hL hs
  subst hr
  have hv32 : z32 v := zc_hd hs
  have hi32 : z32 i := zc_hd (zc_tl hs)
  rw [List.map_cons, List.map_cons, List.map_cons, zcl_ref, zc_int, zc_int]
  refine va_iast hE.1 hE.2.1 hE.2.2.2.2.2.2.2.2.1 hW.2.2.2.1 hW.2.2.2.2.1 hW.2.2.2.2.2.1 r 0 (zWs_at hsh) (show (ztys cA)[0]? = some (cA .int, .int) from rfl) (zi_in hi.1 hi.2 hi32) hd fun H1 locs1 hP1 hD1 hS1 => ?_
  refine kk p l e R s m args below meth c D cA ad0 n0 Mn A Z hE hR ad H1 locs1 cells slots ls (zWd_upd (M' := zup M r i v) hW hsh ?_ (fun j _ hj => ⟨zup_row (by omega), zup_row (by omega)⟩) (fun x _ hx => zup_row (by omega)) (zcM_up hW.2.2.2.2.2.2.2.2 hsh (fun j _ _ => hv32)) hP1 hD1 hS1) hL (zc_tl (zc_tl (zc_tl hs)))
  show (Sum.inl (cA .int, n, Sum.inl _) : va_E) = Sum.inl (cA .int, n, Sum.inl _)
  congr 3
  congr 1
  funext j
  rw [zi_nat hi32]
  show (if j = i.toNat then _ else _) = Int32.ofInt (zup M r i v r j)
  by_cases hj : (j : Int) = i
  · rw [if_pos (by omega), hj, zup_self]
  · rw [if_neg (by omega), zup_ne hj]
theorem z_zast (r : Nat) {n : Nat} {ri i v : Int} (hd : decode y.2.1 pc = .ok (.bastore, 1)) (hr : ri = (r : Int)) (hsh : S[r]? = some (1, n)) (hi : 0 ≤ i ∧ i < n) (hv : 0 ≤ v ∧ v ≤ 1) (kk : zW y d Q b S (pc + 1) L st (zup M ri i v)) : zW y d Q b S pc L (.inl v :: .inl i :: .inr (.inr ri) :: st) M := by
  intro p l e R s m args below meth c D cA ad0 n0 Mn A Z hE hR ad H locs cells slots ls hW hL hs
  subst hr
  have hi32 : z32 i := zc_hd (zc_tl hs)
  rw [List.map_cons, List.map_cons, List.map_cons, zcl_ref, zc_int, zc_int]
  refine va_zast hE.1 hE.2.1 hE.2.2.2.2.2.2.2.2.1 hW.2.2.2.1 hW.2.2.2.2.1 hW.2.2.2.2.2.1 r 1 (zWs_at hsh) (show (ztys cA)[1]? = some (cA .boolean, .boolean) from rfl) (zi_in hi.1 hi.2 hi32) hd fun H1 locs1 hP1 hD1 hS1 => ?_
  refine kk p l e R s m args below meth c D cA ad0 n0 Mn A Z hE hR ad H1 locs1 cells slots ls (zWd_upd (M' := zup M r i v) hW hsh ?_ (fun j _ hj => ⟨zup_row (by omega), zup_row (by omega)⟩) (fun x _ hx => zup_row (by omega)) (zcM_up hW.2.2.2.2.2.2.2.2 hsh (fun j _ _ => hv)) hP1 hD1 hS1) hL (zc_tl (zc_tl (zc_tl hs)))
  show (Sum.inl (cA .boolean, n, Sum.inl _) : va_E) = Sum.inl (cA .boolean, n, Sum.inl _)
  congr 3
  congr 1
  funext j
  rw [zi_nat hi32]
  show (if j = i.toNat then _ else _) = Int32.ofInt (zup M r i v r j)
  by_cases hj : (j : Int) = i
  · rw [if_pos (by omega), hj, zup_self]
    rcases (show v = 0 ∨ v = 1 by omega) with rfl | rfl <;> rfl
  · rw [if_neg (by omega), zup_ne hj]
theorem z_last (r : Nat) {n : Nat} {ri i v : Int} (hd : decode y.2.1 pc = .ok (.lastore, 1)) (hr : ri = (r : Int)) (hsh : S[r]? = some (2, n)) (hi : 0 ≤ i ∧ i < n) (kk : zW y d Q b S (pc + 1) L st (zup M ri i v)) : zW y d Q b S pc L (.inr (.inl v) :: .inl i :: .inr (.inr ri) :: st) M := by
  intro p l e R s m args below meth c D cA ad0 n0 Mn A Z hE hR ad H locs cells slots ls hW hL hs
  subst hr
  have hv64 : z64 v := zc_hd hs
  have hi32 : z32 i := zc_hd (zc_tl hs)
  rw [List.map_cons, List.map_cons, List.map_cons, zcl_ref, zc_int, zc_long]
  refine va_last hE.1 hE.2.1 hE.2.2.2.2.2.2.2.2.1 hW.2.2.2.1 hW.2.2.2.2.1 hW.2.2.2.2.2.1 r 2 (zWs_at hsh) (show (ztys cA)[2]? = some (cA .long, .long) from rfl) (zi_in hi.1 hi.2 hi32) hd fun H1 locs1 hP1 hD1 hS1 => ?_
  refine kk p l e R s m args below meth c D cA ad0 n0 Mn A Z hE hR ad H1 locs1 cells slots ls (zWd_upd (M' := zup M r i v) hW hsh ?_ (fun j _ hj => ⟨zup_row (by omega), zup_row (by omega)⟩) (fun x _ hx => zup_row (by omega)) (zcM_up hW.2.2.2.2.2.2.2.2 hsh (fun j _ _ => hv64)) hP1 hD1 hS1) hL (zc_tl (zc_tl (zc_tl hs)))
  show (Sum.inl (cA .long, n, Sum.inr (Sum.inl _)) : va_E) = Sum.inl (cA .long, n, Sum.inr (Sum.inl _))
  congr 4
  congr 1
  funext j
  rw [zi_nat hi32]
  show (if j = i.toNat then _ else _) = Int64.ofInt (zup M r i v r j)
  by_cases hj : (j : Int) = i
  · rw [if_pos (by omega), hj, zup_self]
  · rw [if_neg (by omega), zup_ne hj]
theorem z_alen (r : Nat) {kd n : Nat} {ri : Int} (hd : decode y.2.1 pc = .ok (.arraylength, 1)) (hr : ri = (r : Int)) (hsh : S[r]? = some (kd, n)) (hkd : kd < 3) (hn : n < 2147483648) (kk : zW y d Q b S (pc + 1) L (.inl (n : Int) :: st) M) : zW y d Q b S pc L (.inr (.inr ri) :: st) M := by
  intro p l e R s m args below meth c D cA ad0 n0 Mn A Z hE hR ad H locs cells slots ls hW hL hs
  subst hr
  have k := kk p l e R s m args below meth c D cA ad0 n0 Mn A Z hE hR ad H locs cells slots ls hW hL (zc_cons (show z32 n by unfold z32; omega) (zc_tl hs))
  rw [List.map_cons, zcl_ref]
  rw [List.map_cons, zc_int, Int32.ofInt_eq_ofNat] at k
  rcases (show kd = 0 ∨ kd = 1 ∨ kd = 2 by omega) with rfl | rfl | rfl
  · exact va_alen hE.1 hE.2.1 hE.2.2.2.2.2.2.2.2.1 hW.2.2.2.1 r 0 (zWs_at hsh) (show (ztys cA)[0]? = some (cA .int, .int) from rfl) rfl hd k
  · exact va_alen hE.1 hE.2.1 hE.2.2.2.2.2.2.2.2.1 hW.2.2.2.1 r 1 (zWs_at hsh) (show (ztys cA)[1]? = some (cA .boolean, .boolean) from rfl) rfl hd k
  · exact va_alen hE.1 hE.2.1 hE.2.2.2.2.2.2.2.2.1 hW.2.2.2.1 r 2 (zWs_at hsh) (show (ztys cA)[2]? = some (cA .long, .long) from rfl) rfl hd k
theorem z_sald {ri i : Int} (hd : decode y.2.1 pc = .ok (.iaload, 1)) (hr : ri = -2 ∨ ri = -3 ∨ ri = -4) (hi : 0 ≤ i ∧ i < M ri (-1)) (kk : zW y d Q b S (pc + 1) L (.inl (M ri i) :: st) M) : zW y d Q b S pc L (.inl i :: .inr (.inr ri) :: st) M := by
  intro p l e R s m args below meth c D cA ad0 n0 Mn A Z hE hR ad H locs cells slots ls hW hL hs
  have hi32 : z32 i := zc_hd hs
  obtain ⟨hT, h0, hmx, hz⟩ := hE.2.2.2.2.2.2.2.2.2.1.1 ri hr
  have hMr : M ri = Mn ri := hW.2.2.1 ri (by omega) (by omega)
  rw [hMr] at hi
  have had : ad ri = ad0 ri := hW.1 ri (by omega)
  have k := kk p l e R s m args below meth c D cA ad0 n0 Mn A Z hE hR ad H locs cells slots ls hW hL (zc_cons (by rw [hMr]; exact hz i hi.1 hi.2) (zc_tl (zc_tl hs)))
  rw [List.map_cons, List.map_cons, show zc ad (.inr (.inr ri)) = .ref (ad ri) from zrf_ne (by omega), zc_int, had]
  rw [List.map_cons, zc_int, hMr] at k
  refine va_ti hE.1 hE.2.1 hT hW.2.2.2.2.2.1 (zi_in hi.1 (by omega) hi32) ?_ hd k
  show Value.int (Int32.ofInt (Mn ri _)) = _
  rw [zi_nat hi32, Int.toNat_of_nonneg hi.1]
theorem z_slen {ri : Int} (hd : decode y.2.1 pc = .ok (.arraylength, 1)) (hr : ri = -2 ∨ ri = -3 ∨ ri = -4) (kk : zW y d Q b S (pc + 1) L (.inl (M ri (-1)) :: st) M) : zW y d Q b S pc L (.inr (.inr ri) :: st) M := by
  intro p l e R s m args below meth c D cA ad0 n0 Mn A Z hE hR ad H locs cells slots ls hW hL hs
  obtain ⟨hT, h0, hmx, hz⟩ := hE.2.2.2.2.2.2.2.2.2.1.1 ri hr
  have hMr : M ri = Mn ri := hW.2.2.1 ri (by omega) (by omega)
  have had : ad ri = ad0 ri := hW.1 ri (by omega)
  have k := kk p l e R s m args below meth c D cA ad0 n0 Mn A Z hE hR ad H locs cells slots ls hW hL (zc_cons (show z32 _ by rw [hMr]; unfold z32; omega) (zc_tl hs))
  rw [List.map_cons, show zc ad (.inr (.inr ri)) = .ref (ad ri) from zrf_ne (by omega), had]
  rw [List.map_cons, zc_int, hMr] at k
  refine va_tlen hE.1 hE.2.1 hT hW.2.2.2.2.2.1 ?_ hd k
  rw [← Int32.ofInt_eq_ofNat, Int.toNat_of_nonneg h0]
theorem z_gets {ri : Int} {idx : Nat} {nm : String} (hd : decode y.2.1 pc = .ok (.getstatic idx, 3)) (hlink : Cond.fieldLink y.1.cls idx "SixWalls$Cells" nm "[I" ∈ lw_tbl) (hr : (ri = -3 ∧ nm = "ABOVE") ∨ (ri = -4 ∧ nm = "BODIES")) (kk : zW y d Q b S (pc + 3) L (.inr (.inr ri) :: st) M) : zW y d Q b S pc L st M := by
  intro p l e R s m args below meth c D cA ad0 n0 Mn A Z hE hR ad H locs cells slots ls hW hL hs
  have hr3 : ri = -3 ∨ ri = -4 := by rcases hr with h | h; exact Or.inl h.1; exact Or.inr h.1
  have hZ : va_Z "SixWalls$Cells" nm "[I" (.ref (ad0 ri)) A s s.heap := by
    rcases hr with ⟨rfl, rfl⟩ | ⟨rfl, rfl⟩
    · exact hE.2.2.2.2.2.2.2.2.2.1.2.1
    · exact hE.2.2.2.2.2.2.2.2.2.1.2.2
  have had : ad ri = ad0 ri := hW.1 ri (by omega)
  have k := kk p l e R s m args below meth c D cA ad0 n0 Mn A Z hE hR ad H locs cells slots ls hW hL (zc_cons (show zrr _ ri by unfold zrr; omega) hs)
  rw [List.map_cons, show zc ad (.inr (.inr ri)) = .ref (ad ri) from zrf_ne (by omega), had] at k
  exact va_gets hE.1 hE.2.1 hZ hW.2.2.2.2.2.1 hE.2.2.2.1 (hE.2.2.2.2.1 _ hlink) (fun x h => h) hd k
theorem z_getG (r ci : Nat) {n k idx : Nat} {ri : Int} {v : zV} {C : String} {T : u_T} (hd : decode y.2.1 pc = .ok (.getfield idx, 3)) (hr : ri = (r : Int)) (hsh : S[r]? = some (ci + 4, n)) (hcl : zcl[ci]? = some (C, T, n)) (hk : k < n) (hlink : Cond.fieldLink y.1.cls idx (T k).1 (T k).2.1 (T k).2.2.1 ∈ lw_tbl)
    (hv : ∀ ad, zc ad v = zfv ad (zty ci k) (M ri k) (M (-10 - ri) k)) (hcv : zok1 S.length (zty ci k) (M ri k) (M (-10 - ri) k) → zcV S.length v) (kk : zW y d Q b S (pc + 3) L (v :: st) M) : zW y d Q b S pc L (.inr (.inr ri) :: st) M := by
  intro p l e R s m args below meth c D cA ad0 n0 Mn A Z hE hR ad H locs cells slots ls hW hL hs
  subst hr
  have k9 := kk p l e R s m args below meth c D cA ad0 n0 Mn A Z hE hR ad H locs cells slots ls hW hL (zc_cons (hcv (hW.2.2.2.2.2.2.2.2 r (ci + 4, n) hsh k hk)) (zc_tl hs))
  rw [List.map_cons, zcl_ref]
  rw [List.map_cons, hv ad] at k9
  refine va_get hE.1 hE.2.1 hE.2.2.2.2.1 (zcl_ok ci _ hcl).1 hE.2.2.2.1 hE.2.2.2.2.2.2.2.2.1 hW.2.2.2.1 r (zWs_at hsh) hcl k hk (hE.2.2.2.2.1 _ hlink) (fun x h => h) ?_ hd k9
  show ((List.range n).map _)[k]? = _
  rw [List.getElem?_map, List.getElem?_range hk]
  rfl
theorem z_geti (r ci : Nat) {n k idx : Nat} {ri ki : Int} {C : String} {T : u_T} (hd : decode y.2.1 pc = .ok (.getfield idx, 3)) (hr : ri = (r : Int)) (hsh : S[r]? = some (ci + 4, n)) (hcl : zcl[ci]? = some (C, T, n)) (hk : k < n) (hki : ki = (k : Int)) (hty : zik (zty ci k) = 0) (hlink : Cond.fieldLink y.1.cls idx (T k).1 (T k).2.1 (T k).2.2.1 ∈ lw_tbl) (kk : zW y d Q b S (pc + 3) L (.inl (M ri ki) :: st) M) : zW y d Q b S pc L (.inr (.inr ri) :: st) M :=
  z_getG r ci hd hr hsh hcl hk hlink (fun ad => by rw [zfv_i hty, hki]; rfl) (fun h => by rw [hki]; exact zok1_i hty h) kk
theorem z_getl (r ci : Nat) {n k idx : Nat} {ri ki : Int} {C : String} {T : u_T} (hd : decode y.2.1 pc = .ok (.getfield idx, 3)) (hr : ri = (r : Int)) (hsh : S[r]? = some (ci + 4, n)) (hcl : zcl[ci]? = some (C, T, n)) (hk : k < n) (hki : ki = (k : Int)) (hty : zik (zty ci k) = 1) (hlink : Cond.fieldLink y.1.cls idx (T k).1 (T k).2.1 (T k).2.2.1 ∈ lw_tbl) (kk : zW y d Q b S (pc + 3) L (.inr (.inl (M ri ki)) :: st) M) : zW y d Q b S pc L (.inr (.inr ri) :: st) M :=
  z_getG r ci hd hr hsh hcl hk hlink (fun ad => by rw [zfv_l hty, hki]; rfl) (fun h => by rw [hki]; exact zok1_l hty h) kk
theorem z_getr (r ci : Nat) {n k idx : Nat} {ri rw1 ki r' : Int} {C : String} {T : u_T} (hd : decode y.2.1 pc = .ok (.getfield idx, 3)) (hr : ri = (r : Int)) (hrw : rw1 = -10 - ri) (hsh : S[r]? = some (ci + 4, n)) (hcl : zcl[ci]? = some (C, T, n)) (hk : k < n) (hki : ki = (k : Int)) (hty : zik (zty ci k) = 2) (hlink : Cond.fieldLink y.1.cls idx (T k).1 (T k).2.1 (T k).2.2.1 ∈ lw_tbl) (hM : M rw1 ki = r') (kk : zW y d Q b S (pc + 3) L (.inr (.inr r') :: st) M) : zW y d Q b S pc L (.inr (.inr ri) :: st) M :=
  z_getG r ci hd hr hsh hcl hk hlink (fun ad => by rw [zfv_r hty, ← hM, hki, hrw]; rfl) (fun h => by rw [← hM, hki, hrw]; exact zok1_r hty h) kk
theorem z_putG (r ci : Nat) {n k idx : Nat} {ri : Int} {v : zV} {M' : zMm} {C : String} {T : u_T} (hd : decode y.2.1 pc = .ok (.putfield idx, 3)) (hr : ri = (r : Int)) (hsh : S[r]? = some (ci + 4, n)) (hcl : zcl[ci]? = some (C, T, n)) (hk : k < n) (hlink : Cond.fieldLink y.1.cls idx (T k).1 (T k).2.1 (T k).2.2.1 ∈ lw_tbl) (hfin : (T k).2.2.2 = false ∨ (y.1.name = "<init>" ∧ (T k).1 = y.1.cls))
    (hv : ∀ ad, zc ad v = zfv ad (zty ci k) (M' ri k) (M' (-10 - ri) k)) (hnar : ∀ ad, zcV S.length v → narrow (zty ci k) (zc ad v) = zc ad v ∧ fits (zty ci k) (zc ad v) = true) (ho : ∀ j : Nat, j < n → j ≠ k → M' ri j = M ri j ∧ M' (-10 - ri) j = M (-10 - ri) j) (hrow : ∀ i : Nat, i ≠ r → M' i = M i ∧ M' (-10 - (i : Int)) = M (-10 - (i : Int))) (hneg : ∀ x : Int, -5 < x → x < 0 → M' x = M x) (hc : zcM S M → zcV S.length v → zcM S M') (kk : zW y d Q b S (pc + 3) L st M') : zW y d Q b S pc L (v :: .inr (.inr ri) :: st) M := by
  intro p l e R s m args below meth c D cA ad0 n0 Mn A Z hE hR ad H locs cells slots ls hW hL hs
  subst hr
  rw [List.map_cons, List.map_cons, zcl_ref]
  have hcl2 := zcl_ok ci _ hcl
  have hfs : k < ((List.range n).map (fun (j : Nat) => zfv ad (zty ci j) (M r j) (M (-10 - (r : Int)) j))).length := by simpa using hk
  have go : ∀ (H1 : Heap) (locs1 : List Loc), va_P D zcl ((zWs ad cA S M).set r (ad r, .inr (ci, ((List.range n).map (fun (j : Nat) => zfv ad (zty ci j) (M r j) (M (-10 - (r : Int)) j))).set k (zc ad v)))) H1 → va_D A ((zWs ad cA S M).set r (ad r, .inr (ci, ((List.range n).map (fun (j : Nat) => zfv ad (zty ci j) (M r j) (M (-10 - (r : Int)) j))).set k (zc ad v)))) → va_S A s.heap H1 locs1 → W p l e R s m args below meth c H1 locs1 cells slots Z (F0 m (pc + 3) ls (st.map (zc ad))) := by
    intro H1 locs1 hP1 hD1 hS1
    refine kk p l e R s m args below meth c D cA ad0 n0 Mn A Z hE hR ad H1 locs1 cells slots ls (zWd_upd (M' := M') hW hsh ?_ (fun j _ hj => hrow j hj) hneg (hc hW.2.2.2.2.2.2.2.2 (zc_hd hs)) hP1 hD1 hS1) hL (zc_tl (zc_tl hs))
    show (Sum.inr (ci, _) : va_E) = Sum.inr (ci, (List.range n).map (fun (j : Nat) => zfv ad (zty ci j) (M' r j) (M' (-10 - (r : Int)) j)))
    congr 2
    apply List.ext_getElem?
    intro j
    rw [List.getElem?_set]
    by_cases hj : k = j
    · subst hj
      rw [if_pos rfl, if_pos hfs, List.getElem?_map, List.getElem?_range hk]
      exact congrArg some (hv ad)
    · rw [if_neg hj, List.getElem?_map, List.getElem?_map]
      by_cases hjn : j < n
      · rw [List.getElem?_range hjn]
        show some (zfv ad (zty ci j) (M r j) (M (-10 - (r : Int)) j)) = some (zfv ad (zty ci j) (M' r j) (M' (-10 - (r : Int)) j))
        rw [(ho j hjn (fun h => hj h.symm)).1, (ho j hjn (fun h => hj h.symm)).2]
      · rw [List.getElem?_eq_none (by simpa using hjn)]
        rfl
  have hn := hnar ad (zc_hd hs)
  by_cases hf : (T k).2.2.2 = false
  · exact va_put hE.1 hE.2.1 hE.2.2.2.2.1 hcl2.1 (zty ci) hcl2.2.1 hcl2.2.2 hE.2.2.2.1 hE.2.2.2.2.2.2.2.2.1 hW.2.2.2.1 hW.2.2.2.2.1 hW.2.2.2.2.2.1 r (zWs_at hsh) hcl k hk (hE.2.2.2.2.1 _ hlink) (fun x h => h) hf (hcl2.2.1 k hk) hn.1 hn.2 hfs hd go
  · obtain ⟨h1, h2⟩ := hfin.resolve_left hf
    exact va_putF hE.1 hE.2.1 hE.2.2.2.2.1 hcl2.1 (zty ci) hcl2.2.1 hcl2.2.2 hE.2.2.2.1 hE.2.2.2.2.2.2.2.2.1 hW.2.2.2.1 hW.2.2.2.2.1 hW.2.2.2.2.2.1 r (zWs_at hsh) hcl k hk (hE.2.2.2.2.1 _ hlink) (fun x h => h) (by simpa using hf) (hE.2.2.2.2.2.2.2.1 h1) h2 (hcl2.2.1 k hk) hn.1 hn.2 hfs hd go
theorem z_puti (r ci : Nat) {n k idx : Nat} {ri ki v : Int} {C : String} {T : u_T} (hd : decode y.2.1 pc = .ok (.putfield idx, 3)) (hr : ri = (r : Int)) (hsh : S[r]? = some (ci + 4, n)) (hcl : zcl[ci]? = some (C, T, n)) (hk : k < n) (hki : ki = (k : Int)) (hty : zty ci k = .int) (hlink : Cond.fieldLink y.1.cls idx (T k).1 (T k).2.1 (T k).2.2.1 ∈ lw_tbl) (hfin : (T k).2.2.2 = false ∨ (y.1.name = "<init>" ∧ (T k).1 = y.1.cls)) (kk : zW y d Q b S (pc + 3) L st (zup M ri ki v)) : zW y d Q b S pc L (.inl v :: .inr (.inr ri) :: st) M := by
  subst hki
  subst hr
  refine z_putG r ci (M' := zup M r k v) hd rfl hsh hcl hk hlink hfin (fun ad => by rw [hty, zup_self]; rfl) (fun ad _ => by rw [hty]; exact ⟨rfl, rfl⟩) (fun j _ hj => ⟨zup_ne (by omega), by rw [zup_row (by omega)]⟩) (fun i hi => ⟨zup_row (by omega), zup_row (by omega)⟩) (fun x _ _ => zup_row (by omega)) (fun h hv => zcM_up h hsh (fun j hj _ => ?_)) kk
  show zok1 _ (zty ci j) v _
  rw [show j = k by omega, hty]
  exact hv
theorem z_putz (r ci : Nat) {n k idx : Nat} {ri ki v : Int} {C : String} {T : u_T} (hd : decode y.2.1 pc = .ok (.putfield idx, 3)) (hr : ri = (r : Int)) (hsh : S[r]? = some (ci + 4, n)) (hcl : zcl[ci]? = some (C, T, n)) (hk : k < n) (hki : ki = (k : Int)) (hty : zty ci k = .boolean) (hlink : Cond.fieldLink y.1.cls idx (T k).1 (T k).2.1 (T k).2.2.1 ∈ lw_tbl) (hfin : (T k).2.2.2 = false ∨ (y.1.name = "<init>" ∧ (T k).1 = y.1.cls)) (h01 : 0 ≤ v ∧ v ≤ 1) (kk : zW y d Q b S (pc + 3) L st (zup M ri ki v)) : zW y d Q b S pc L (.inl v :: .inr (.inr ri) :: st) M := by
  subst hki
  subst hr
  refine z_putG r ci (M' := zup M r k v) hd rfl hsh hcl hk hlink hfin (fun ad => by rw [hty, zup_self]; rfl) (fun ad _ => by rw [hty]; rcases (show v = 0 ∨ v = 1 by omega) with rfl | rfl <;> exact ⟨rfl, rfl⟩) (fun j _ hj => ⟨zup_ne (by omega), by rw [zup_row (by omega)]⟩) (fun i hi => ⟨zup_row (by omega), zup_row (by omega)⟩) (fun x _ _ => zup_row (by omega)) (fun h hv => zcM_up h hsh (fun j hj _ => ?_)) kk
  show zok1 _ (zty ci j) v _
  rw [show j = k by omega, hty]
  exact h01
theorem z_putl (r ci : Nat) {n k idx : Nat} {ri ki v : Int} {C : String} {T : u_T} (hd : decode y.2.1 pc = .ok (.putfield idx, 3)) (hr : ri = (r : Int)) (hsh : S[r]? = some (ci + 4, n)) (hcl : zcl[ci]? = some (C, T, n)) (hk : k < n) (hki : ki = (k : Int)) (hty : zty ci k = .long) (hlink : Cond.fieldLink y.1.cls idx (T k).1 (T k).2.1 (T k).2.2.1 ∈ lw_tbl) (hfin : (T k).2.2.2 = false ∨ (y.1.name = "<init>" ∧ (T k).1 = y.1.cls)) (kk : zW y d Q b S (pc + 3) L st (zup M ri ki v)) : zW y d Q b S pc L (.inr (.inl v) :: .inr (.inr ri) :: st) M := by
  subst hki
  subst hr
  refine z_putG r ci (M' := zup M r k v) hd rfl hsh hcl hk hlink hfin (fun ad => by rw [hty, zup_self]; rfl) (fun ad _ => by rw [hty]; exact ⟨rfl, rfl⟩) (fun j _ hj => ⟨zup_ne (by omega), by rw [zup_row (by omega)]⟩) (fun i hi => ⟨zup_row (by omega), zup_row (by omega)⟩) (fun x _ _ => zup_row (by omega)) (fun h hv => zcM_up h hsh (fun j hj _ => ?_)) kk
  show zok1 _ (zty ci j) v _
  rw [show j = k by omega, hty]
  exact hv
theorem zrf_fit {ad : Int → Nat} {ty : FieldType} {g : Int} (h : zik ty = 2) : narrow ty (zrf ad g) = zrf ad g ∧ fits ty (zrf ad g) = true := by
  unfold zrf
  cases ty <;> first | (simp [zik] at h; done) | (split <;> exact ⟨rfl, rfl⟩)
theorem zok1_r2 {n : Nat} {ty : FieldType} {x g : Int} (h : zik ty = 2) (hx : zrr n g) : zok1 n ty x g := by
  cases ty <;> first | exact hx | (simp [zik] at h)
theorem z_putr (r ci : Nat) {n k idx : Nat} {ri rw1 ki g : Int} {C : String} {T : u_T} (hd : decode y.2.1 pc = .ok (.putfield idx, 3)) (hr : ri = (r : Int)) (hrw : rw1 = -10 - ri) (hsh : S[r]? = some (ci + 4, n)) (hcl : zcl[ci]? = some (C, T, n)) (hk : k < n) (hki : ki = (k : Int)) (hty : zik (zty ci k) = 2) (hlink : Cond.fieldLink y.1.cls idx (T k).1 (T k).2.1 (T k).2.2.1 ∈ lw_tbl) (hfin : (T k).2.2.2 = false ∨ (y.1.name = "<init>" ∧ (T k).1 = y.1.cls)) (kk : zW y d Q b S (pc + 3) L st (zup M rw1 ki g)) : zW y d Q b S pc L (.inr (.inr g) :: .inr (.inr ri) :: st) M := by
  subst hki
  subst hrw
  subst hr
  refine z_putG r ci (M' := zup M (-10 - (r : Int)) k g) hd rfl hsh hcl hk hlink hfin (fun ad => by rw [zfv_r hty, zup_self]; rfl) (fun ad _ => zrf_fit hty) (fun j _ hj => ⟨by rw [zup_row (by omega)], zup_ne (by omega)⟩) (fun i hi => ⟨zup_row (by omega), zup_row (by omega)⟩) (fun x _ _ => zup_row (by omega)) (fun h hv => zcM_upr h hsh (fun j hj _ => ?_)) kk
  show zok1 _ (zty ci j) _ g
  rw [show j = k by omega]
  exact zok1_r2 hty hv
end
end
