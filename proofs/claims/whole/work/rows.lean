section
-- ===== PART A: goes FIRST, ahead of the names: the tables' words, and 'selects' of the private methods out of them =====
/-- a private method of a class that the tables say can be made, by its rows of tables_1 -/
def lw_okq (q : MethodName × Nat) : Prop := (q.1.cls ≠ "java/lang/invoke/MethodHandle" ∧ q.1.cls ≠ "java/lang/invoke/VarHandle") ∧ Cond.instantiable q.1.cls q.2 ∈ tables_1 ∧ Cond.privateMethod q.1 ∈ tables_1 ∧ Cond.instanceMethod q.1 ∈ tables_1
theorem lw_p0 : lw_okq (⟨"WallHeat$Reader", "readClause", "()Z"⟩, 3) := ⟨⟨by decide +kernel, by decide +kernel⟩, List.mem_of_getElem? (i := 24) (by decide +kernel), List.mem_of_getElem? (i := 281) (by decide +kernel), List.mem_of_getElem? (i := 282) (by decide +kernel)⟩
theorem lw_p1 : lw_okq (⟨"WallHeat$Reader", "takeWord", "(Ljava/lang/String;)Z"⟩, 3) := ⟨⟨by decide +kernel, by decide +kernel⟩, List.mem_of_getElem? (i := 24) (by decide +kernel), List.mem_of_getElem? (i := 286) (by decide +kernel), List.mem_of_getElem? (i := 287) (by decide +kernel)⟩
theorem lw_p2 : lw_okq (⟨"WallHeat$Reader", "readWall", "()Z"⟩, 3) := ⟨⟨by decide +kernel, by decide +kernel⟩, List.mem_of_getElem? (i := 24) (by decide +kernel), List.mem_of_getElem? (i := 346) (by decide +kernel), List.mem_of_getElem? (i := 347) (by decide +kernel)⟩
theorem lw_p3 : lw_okq (⟨"WallHeat$Reader", "takeNumber", "(II)I"⟩, 3) := ⟨⟨by decide +kernel, by decide +kernel⟩, List.mem_of_getElem? (i := 24) (by decide +kernel), List.mem_of_getElem? (i := 350) (by decide +kernel), List.mem_of_getElem? (i := 351) (by decide +kernel)⟩
theorem lw_p4 : lw_okq (⟨"WallHeat$Reader", "readStuff", "()Z"⟩, 3) := ⟨⟨by decide +kernel, by decide +kernel⟩, List.mem_of_getElem? (i := 24) (by decide +kernel), List.mem_of_getElem? (i := 363) (by decide +kernel), List.mem_of_getElem? (i := 364) (by decide +kernel)⟩
theorem lw_p5 : lw_okq (⟨"WallHeat$Wall", "isNamed", "(ILWallHeat$Text;II)Z"⟩, 9) := ⟨⟨by decide +kernel, by decide +kernel⟩, List.mem_of_getElem? (i := 59) (by decide +kernel), List.mem_of_getElem? (i := 372) (by decide +kernel), List.mem_of_getElem? (i := 373) (by decide +kernel)⟩
theorem lw_p6 : lw_okq (⟨"WallHeat$Reader", "readLayer", "()Z"⟩, 3) := ⟨⟨by decide +kernel, by decide +kernel⟩, List.mem_of_getElem? (i := 24) (by decide +kernel), List.mem_of_getElem? (i := 388) (by decide +kernel), List.mem_of_getElem? (i := 389) (by decide +kernel)⟩
theorem lw_p7 : lw_okq (⟨"WallHeat$Reader", "readAir", "()Z"⟩, 3) := ⟨⟨by decide +kernel, by decide +kernel⟩, List.mem_of_getElem? (i := 24) (by decide +kernel), List.mem_of_getElem? (i := 400) (by decide +kernel), List.mem_of_getElem? (i := 401) (by decide +kernel)⟩
theorem lw_p8 : lw_okq (⟨"WallHeat$Reader", "readHeat", "()Z"⟩, 3) := ⟨⟨by decide +kernel, by decide +kernel⟩, List.mem_of_getElem? (i := 24) (by decide +kernel), List.mem_of_getElem? (i := 405) (by decide +kernel), List.mem_of_getElem? (i := 406) (by decide +kernel)⟩
theorem lw_p9 : lw_okq (⟨"WallHeat", "missPage", "(I)V"⟩, 5) := ⟨⟨by decide +kernel, by decide +kernel⟩, List.mem_of_getElem? (i := 16) (by decide +kernel), List.mem_of_getElem? (i := 430) (by decide +kernel), List.mem_of_getElem? (i := 431) (by decide +kernel)⟩
theorem lw_p10 : lw_okq (⟨"WallHeat", "bookAt", "(I)LWallHeat$Book;"⟩, 5) := ⟨⟨by decide +kernel, by decide +kernel⟩, List.mem_of_getElem? (i := 16) (by decide +kernel), List.mem_of_getElem? (i := 434) (by decide +kernel), List.mem_of_getElem? (i := 435) (by decide +kernel)⟩
theorem lw_p11 : lw_okq (⟨"WallHeat$Wall", "degreesBelow", "(I)J"⟩, 9) := ⟨⟨by decide +kernel, by decide +kernel⟩, List.mem_of_getElem? (i := 59) (by decide +kernel), List.mem_of_getElem? (i := 527) (by decide +kernel), List.mem_of_getElem? (i := 528) (by decide +kernel)⟩
theorem lw_p12 : lw_okq (⟨"WallHeat$Wall", "degreesAbove", "(LWallHeat$Warmth;I)J"⟩, 9) := ⟨⟨by decide +kernel, by decide +kernel⟩, List.mem_of_getElem? (i := 59) (by decide +kernel), List.mem_of_getElem? (i := 533) (by decide +kernel), List.mem_of_getElem? (i := 534) (by decide +kernel)⟩
theorem lw_p13 : lw_okq (⟨"WallHeat$Wall", "betweenAbove", "(I)J"⟩, 9) := ⟨⟨by decide +kernel, by decide +kernel⟩, List.mem_of_getElem? (i := 59) (by decide +kernel), List.mem_of_getElem? (i := 537) (by decide +kernel), List.mem_of_getElem? (i := 538) (by decide +kernel)⟩
theorem lw_p14 : lw_okq (⟨"WallHeat$Wall", "betweenBelow", "(I)J"⟩, 9) := ⟨⟨by decide +kernel, by decide +kernel⟩, List.mem_of_getElem? (i := 59) (by decide +kernel), List.mem_of_getElem? (i := 541) (by decide +kernel), List.mem_of_getElem? (i := 542) (by decide +kernel)⟩
theorem lw_p15 : lw_okq (⟨"WallHeat$Wall", "heatBehind", "(LWallHeat$Warmth;I)I"⟩, 9) := ⟨⟨by decide +kernel, by decide +kernel⟩, List.mem_of_getElem? (i := 59) (by decide +kernel), List.mem_of_getElem? (i := 546) (by decide +kernel), List.mem_of_getElem? (i := 547) (by decide +kernel)⟩
def lw_privs_1 : List (MethodName × Nat) := [(⟨"WallHeat$Reader", "readClause", "()Z"⟩, 3), (⟨"WallHeat$Reader", "takeWord", "(Ljava/lang/String;)Z"⟩, 3), (⟨"WallHeat$Reader", "readWall", "()Z"⟩, 3), (⟨"WallHeat$Reader", "takeNumber", "(II)I"⟩, 3), (⟨"WallHeat$Reader", "readStuff", "()Z"⟩, 3), (⟨"WallHeat$Wall", "isNamed", "(ILWallHeat$Text;II)Z"⟩, 9), (⟨"WallHeat$Reader", "readLayer", "()Z"⟩, 3), (⟨"WallHeat$Reader", "readAir", "()Z"⟩, 3), (⟨"WallHeat$Reader", "readHeat", "()Z"⟩, 3), (⟨"WallHeat", "missPage", "(I)V"⟩, 5), (⟨"WallHeat", "bookAt", "(I)LWallHeat$Book;"⟩, 5), (⟨"WallHeat$Wall", "degreesBelow", "(I)J"⟩, 9), (⟨"WallHeat$Wall", "degreesAbove", "(LWallHeat$Warmth;I)J"⟩, 9), (⟨"WallHeat$Wall", "betweenAbove", "(I)J"⟩, 9), (⟨"WallHeat$Wall", "betweenBelow", "(I)J"⟩, 9), (⟨"WallHeat$Wall", "heatBehind", "(LWallHeat$Warmth;I)I"⟩, 9)]
theorem lw_r1 : ∀ q ∈ lw_privs_1, lw_okq q := List.forall_mem_cons.mpr ⟨lw_p0, List.forall_mem_cons.mpr ⟨lw_p1, List.forall_mem_cons.mpr ⟨lw_p2, List.forall_mem_cons.mpr ⟨lw_p3, List.forall_mem_cons.mpr ⟨lw_p4, List.forall_mem_cons.mpr ⟨lw_p5, List.forall_mem_cons.mpr ⟨lw_p6, List.forall_mem_cons.mpr ⟨lw_p7, List.forall_mem_cons.mpr ⟨lw_p8, List.forall_mem_cons.mpr ⟨lw_p9, List.forall_mem_cons.mpr ⟨lw_p10, List.forall_mem_cons.mpr ⟨lw_p11, List.forall_mem_cons.mpr ⟨lw_p12, List.forall_mem_cons.mpr ⟨lw_p13, List.forall_mem_cons.mpr ⟨lw_p14, List.forall_mem_cons.mpr ⟨lw_p15, fun _ h => absurd h List.not_mem_nil⟩⟩⟩⟩⟩⟩⟩⟩⟩⟩⟩⟩⟩⟩⟩⟩
theorem lw_p16 : lw_okq (⟨"WallHeat$Wall", "compareDegrees", "(II)I"⟩, 9) := ⟨⟨by decide +kernel, by decide +kernel⟩, List.mem_of_getElem? (i := 59) (by decide +kernel), List.mem_of_getElem? (i := 701) (by decide +kernel), List.mem_of_getElem? (i := 702) (by decide +kernel)⟩
theorem lw_p17 : lw_okq (⟨"WallHeat$Wall", "isAlike", "(II)Z"⟩, 9) := ⟨⟨by decide +kernel, by decide +kernel⟩, List.mem_of_getElem? (i := 59) (by decide +kernel), List.mem_of_getElem? (i := 712) (by decide +kernel), List.mem_of_getElem? (i := 713) (by decide +kernel)⟩
theorem lw_p18 : lw_okq (⟨"WallHeat", "keysOfAllPages", "()I"⟩, 5) := ⟨⟨by decide +kernel, by decide +kernel⟩, List.mem_of_getElem? (i := 16) (by decide +kernel), List.mem_of_getElem? (i := 716) (by decide +kernel), List.mem_of_getElem? (i := 717) (by decide +kernel)⟩
theorem lw_p19 : lw_okq (⟨"WallHeatModel", "reads", "(Z)Z"⟩, 27) := ⟨⟨by decide +kernel, by decide +kernel⟩, List.mem_of_getElem? (i := 720) (by decide +kernel), List.mem_of_getElem? (i := 827) (by decide +kernel), List.mem_of_getElem? (i := 828) (by decide +kernel)⟩
theorem lw_p20 : lw_okq (⟨"WallHeatModel", "layTold", "()V"⟩, 27) := ⟨⟨by decide +kernel, by decide +kernel⟩, List.mem_of_getElem? (i := 720) (by decide +kernel), List.mem_of_getElem? (i := 831) (by decide +kernel), List.mem_of_getElem? (i := 832) (by decide +kernel)⟩
theorem lw_p21 : lw_okq (⟨"WallHeatModel", "nextToken", "()V"⟩, 27) := ⟨⟨by decide +kernel, by decide +kernel⟩, List.mem_of_getElem? (i := 720) (by decide +kernel), List.mem_of_getElem? (i := 835) (by decide +kernel), List.mem_of_getElem? (i := 836) (by decide +kernel)⟩
theorem lw_p22 : lw_okq (⟨"WallHeatModel", "readsClause", "()Z"⟩, 27) := ⟨⟨by decide +kernel, by decide +kernel⟩, List.mem_of_getElem? (i := 720) (by decide +kernel), List.mem_of_getElem? (i := 849) (by decide +kernel), List.mem_of_getElem? (i := 850) (by decide +kernel)⟩
theorem lw_p23 : lw_okq (⟨"WallHeatModel", "wordHere", "()I"⟩, 27) := ⟨⟨by decide +kernel, by decide +kernel⟩, List.mem_of_getElem? (i := 720) (by decide +kernel), List.mem_of_getElem? (i := 853) (by decide +kernel), List.mem_of_getElem? (i := 854) (by decide +kernel)⟩
theorem lw_p24 : lw_okq (⟨"WallHeatModel", "readsRest", "(I)Z"⟩, 27) := ⟨⟨by decide +kernel, by decide +kernel⟩, List.mem_of_getElem? (i := 720) (by decide +kernel), List.mem_of_getElem? (i := 857) (by decide +kernel), List.mem_of_getElem? (i := 858) (by decide +kernel)⟩
theorem lw_p25 : lw_okq (⟨"WallHeatModel", "number", "(III)Z"⟩, 27) := ⟨⟨by decide +kernel, by decide +kernel⟩, List.mem_of_getElem? (i := 720) (by decide +kernel), List.mem_of_getElem? (i := 861) (by decide +kernel), List.mem_of_getElem? (i := 862) (by decide +kernel)⟩
theorem lw_p26 : lw_okq (⟨"WallHeatModel", "readsNewWord", "()Z"⟩, 27) := ⟨⟨by decide +kernel, by decide +kernel⟩, List.mem_of_getElem? (i := 720) (by decide +kernel), List.mem_of_getElem? (i := 865) (by decide +kernel), List.mem_of_getElem? (i := 866) (by decide +kernel)⟩
theorem lw_p27 : lw_okq (⟨"WallHeatModel", "stuffHere", "()I"⟩, 27) := ⟨⟨by decide +kernel, by decide +kernel⟩, List.mem_of_getElem? (i := 720) (by decide +kernel), List.mem_of_getElem? (i := 869) (by decide +kernel), List.mem_of_getElem? (i := 870) (by decide +kernel)⟩
theorem lw_p28 : lw_okq (⟨"WallHeatModel", "readsTold", "()Z"⟩, 27) := ⟨⟨by decide +kernel, by decide +kernel⟩, List.mem_of_getElem? (i := 720) (by decide +kernel), List.mem_of_getElem? (i := 873) (by decide +kernel), List.mem_of_getElem? (i := 874) (by decide +kernel)⟩
theorem lw_p29 : lw_okq (⟨"WallHeatModel", "does", "(I)V"⟩, 27) := ⟨⟨by decide +kernel, by decide +kernel⟩, List.mem_of_getElem? (i := 720) (by decide +kernel), List.mem_of_getElem? (i := 880) (by decide +kernel), List.mem_of_getElem? (i := 881) (by decide +kernel)⟩
theorem lw_p30 : lw_okq (⟨"WallHeatModel", "isStuff", "(I)Z"⟩, 27) := ⟨⟨by decide +kernel, by decide +kernel⟩, List.mem_of_getElem? (i := 720) (by decide +kernel), List.mem_of_getElem? (i := 897) (by decide +kernel), List.mem_of_getElem? (i := 898) (by decide +kernel)⟩
theorem lw_p31 : lw_okq (⟨"WallHeatModel", "cellsOf", "(I)I"⟩, 27) := ⟨⟨by decide +kernel, by decide +kernel⟩, List.mem_of_getElem? (i := 720) (by decide +kernel), List.mem_of_getElem? (i := 902) (by decide +kernel), List.mem_of_getElem? (i := 903) (by decide +kernel)⟩
def lw_privs_2 : List (MethodName × Nat) := [(⟨"WallHeat$Wall", "compareDegrees", "(II)I"⟩, 9), (⟨"WallHeat$Wall", "isAlike", "(II)Z"⟩, 9), (⟨"WallHeat", "keysOfAllPages", "()I"⟩, 5), (⟨"WallHeatModel", "reads", "(Z)Z"⟩, 27), (⟨"WallHeatModel", "layTold", "()V"⟩, 27), (⟨"WallHeatModel", "nextToken", "()V"⟩, 27), (⟨"WallHeatModel", "readsClause", "()Z"⟩, 27), (⟨"WallHeatModel", "wordHere", "()I"⟩, 27), (⟨"WallHeatModel", "readsRest", "(I)Z"⟩, 27), (⟨"WallHeatModel", "number", "(III)Z"⟩, 27), (⟨"WallHeatModel", "readsNewWord", "()Z"⟩, 27), (⟨"WallHeatModel", "stuffHere", "()I"⟩, 27), (⟨"WallHeatModel", "readsTold", "()Z"⟩, 27), (⟨"WallHeatModel", "does", "(I)V"⟩, 27), (⟨"WallHeatModel", "isStuff", "(I)Z"⟩, 27), (⟨"WallHeatModel", "cellsOf", "(I)I"⟩, 27)]
theorem lw_r2 : ∀ q ∈ lw_privs_2, lw_okq q := List.forall_mem_cons.mpr ⟨lw_p16, List.forall_mem_cons.mpr ⟨lw_p17, List.forall_mem_cons.mpr ⟨lw_p18, List.forall_mem_cons.mpr ⟨lw_p19, List.forall_mem_cons.mpr ⟨lw_p20, List.forall_mem_cons.mpr ⟨lw_p21, List.forall_mem_cons.mpr ⟨lw_p22, List.forall_mem_cons.mpr ⟨lw_p23, List.forall_mem_cons.mpr ⟨lw_p24, List.forall_mem_cons.mpr ⟨lw_p25, List.forall_mem_cons.mpr ⟨lw_p26, List.forall_mem_cons.mpr ⟨lw_p27, List.forall_mem_cons.mpr ⟨lw_p28, List.forall_mem_cons.mpr ⟨lw_p29, List.forall_mem_cons.mpr ⟨lw_p30, List.forall_mem_cons.mpr ⟨lw_p31, fun _ h => absurd h List.not_mem_nil⟩⟩⟩⟩⟩⟩⟩⟩⟩⟩⟩⟩⟩⟩⟩⟩
theorem lw_p32 : lw_okq (⟨"WallHeatModel", "isCell", "(I)Z"⟩, 27) := ⟨⟨by decide +kernel, by decide +kernel⟩, List.mem_of_getElem? (i := 720) (by decide +kernel), List.mem_of_getElem? (i := 910) (by decide +kernel), List.mem_of_getElem? (i := 911) (by decide +kernel)⟩
theorem lw_p33 : lw_okq (⟨"WallHeatModel", "holdsOf", "(I)I"⟩, 27) := ⟨⟨by decide +kernel, by decide +kernel⟩, List.mem_of_getElem? (i := 720) (by decide +kernel), List.mem_of_getElem? (i := 914) (by decide +kernel), List.mem_of_getElem? (i := 915) (by decide +kernel)⟩
theorem lw_p34 : lw_okq (⟨"WallHeatModel", "passesOf", "(I)I"⟩, 27) := ⟨⟨by decide +kernel, by decide +kernel⟩, List.mem_of_getElem? (i := 720) (by decide +kernel), List.mem_of_getElem? (i := 931) (by decide +kernel), List.mem_of_getElem? (i := 932) (by decide +kernel)⟩
theorem lw_p35 : lw_okq (⟨"WallHeatModel", "keepPast", "()V"⟩, 27) := ⟨⟨by decide +kernel, by decide +kernel⟩, List.mem_of_getElem? (i := 720) (by decide +kernel), List.mem_of_getElem? (i := 941) (by decide +kernel), List.mem_of_getElem? (i := 942) (by decide +kernel)⟩
theorem lw_p36 : lw_okq (⟨"WallHeatModel", "copyRow", "(II)V"⟩, 27) := ⟨⟨by decide +kernel, by decide +kernel⟩, List.mem_of_getElem? (i := 720) (by decide +kernel), List.mem_of_getElem? (i := 945) (by decide +kernel), List.mem_of_getElem? (i := 946) (by decide +kernel)⟩
theorem lw_p37 : lw_okq (⟨"WallHeatModel", "steps", "(I)Z"⟩, 27) := ⟨⟨by decide +kernel, by decide +kernel⟩, List.mem_of_getElem? (i := 720) (by decide +kernel), List.mem_of_getElem? (i := 949) (by decide +kernel), List.mem_of_getElem? (i := 950) (by decide +kernel)⟩
theorem lw_p38 : lw_okq (⟨"WallHeatModel", "flowAt", "(II)I"⟩, 27) := ⟨⟨by decide +kernel, by decide +kernel⟩, List.mem_of_getElem? (i := 720) (by decide +kernel), List.mem_of_getElem? (i := 953) (by decide +kernel), List.mem_of_getElem? (i := 954) (by decide +kernel)⟩
theorem lw_p39 : lw_okq (⟨"WallHeatModel", "safe", "()I"⟩, 27) := ⟨⟨by decide +kernel, by decide +kernel⟩, List.mem_of_getElem? (i := 720) (by decide +kernel), List.mem_of_getElem? (i := 973) (by decide +kernel), List.mem_of_getElem? (i := 974) (by decide +kernel)⟩
theorem lw_p40 : lw_okq (⟨"WallHeatModel", "safeFor", "(I)I"⟩, 27) := ⟨⟨by decide +kernel, by decide +kernel⟩, List.mem_of_getElem? (i := 720) (by decide +kernel), List.mem_of_getElem? (i := 977) (by decide +kernel), List.mem_of_getElem? (i := 978) (by decide +kernel)⟩
theorem lw_p41 : lw_okq (⟨"WallHeatModel", "allHeat", "()I"⟩, 27) := ⟨⟨by decide +kernel, by decide +kernel⟩, List.mem_of_getElem? (i := 720) (by decide +kernel), List.mem_of_getElem? (i := 989) (by decide +kernel), List.mem_of_getElem? (i := 990) (by decide +kernel)⟩
theorem lw_p42 : lw_okq (⟨"WallHeatModel", "resistance", "(II)J"⟩, 27) := ⟨⟨by decide +kernel, by decide +kernel⟩, List.mem_of_getElem? (i := 720) (by decide +kernel), List.mem_of_getElem? (i := 1009) (by decide +kernel), List.mem_of_getElem? (i := 1010) (by decide +kernel)⟩
theorem lw_p43 : lw_okq (⟨"WallHeatModel", "placeOf", "(III)I"⟩, 27) := ⟨⟨by decide +kernel, by decide +kernel⟩, List.mem_of_getElem? (i := 720) (by decide +kernel), List.mem_of_getElem? (i := 1041) (by decide +kernel), List.mem_of_getElem? (i := 1042) (by decide +kernel)⟩
theorem lw_p44 : lw_okq (⟨"WallHeatModel", "extreme", "(Z)I"⟩, 27) := ⟨⟨by decide +kernel, by decide +kernel⟩, List.mem_of_getElem? (i := 720) (by decide +kernel), List.mem_of_getElem? (i := 1072) (by decide +kernel), List.mem_of_getElem? (i := 1073) (by decide +kernel)⟩
theorem lw_p45 : lw_okq (⟨"WallHeatModel", "alike", "()I"⟩, 27) := ⟨⟨by decide +kernel, by decide +kernel⟩, List.mem_of_getElem? (i := 720) (by decide +kernel), List.mem_of_getElem? (i := 1076) (by decide +kernel), List.mem_of_getElem? (i := 1077) (by decide +kernel)⟩
theorem lw_p46 : lw_okq (⟨"WallHeatModel", "allKeys", "()I"⟩, 27) := ⟨⟨by decide +kernel, by decide +kernel⟩, List.mem_of_getElem? (i := 720) (by decide +kernel), List.mem_of_getElem? (i := 1080) (by decide +kernel), List.mem_of_getElem? (i := 1081) (by decide +kernel)⟩
def lw_privs_3 : List (MethodName × Nat) := [(⟨"WallHeatModel", "isCell", "(I)Z"⟩, 27), (⟨"WallHeatModel", "holdsOf", "(I)I"⟩, 27), (⟨"WallHeatModel", "passesOf", "(I)I"⟩, 27), (⟨"WallHeatModel", "keepPast", "()V"⟩, 27), (⟨"WallHeatModel", "copyRow", "(II)V"⟩, 27), (⟨"WallHeatModel", "steps", "(I)Z"⟩, 27), (⟨"WallHeatModel", "flowAt", "(II)I"⟩, 27), (⟨"WallHeatModel", "safe", "()I"⟩, 27), (⟨"WallHeatModel", "safeFor", "(I)I"⟩, 27), (⟨"WallHeatModel", "allHeat", "()I"⟩, 27), (⟨"WallHeatModel", "resistance", "(II)J"⟩, 27), (⟨"WallHeatModel", "placeOf", "(III)I"⟩, 27), (⟨"WallHeatModel", "extreme", "(Z)I"⟩, 27), (⟨"WallHeatModel", "alike", "()I"⟩, 27), (⟨"WallHeatModel", "allKeys", "()I"⟩, 27)]
theorem lw_r3 : ∀ q ∈ lw_privs_3, lw_okq q := List.forall_mem_cons.mpr ⟨lw_p32, List.forall_mem_cons.mpr ⟨lw_p33, List.forall_mem_cons.mpr ⟨lw_p34, List.forall_mem_cons.mpr ⟨lw_p35, List.forall_mem_cons.mpr ⟨lw_p36, List.forall_mem_cons.mpr ⟨lw_p37, List.forall_mem_cons.mpr ⟨lw_p38, List.forall_mem_cons.mpr ⟨lw_p39, List.forall_mem_cons.mpr ⟨lw_p40, List.forall_mem_cons.mpr ⟨lw_p41, List.forall_mem_cons.mpr ⟨lw_p42, List.forall_mem_cons.mpr ⟨lw_p43, List.forall_mem_cons.mpr ⟨lw_p44, List.forall_mem_cons.mpr ⟨lw_p45, List.forall_mem_cons.mpr ⟨lw_p46, fun _ h => absurd h List.not_mem_nil⟩⟩⟩⟩⟩⟩⟩⟩⟩⟩⟩⟩⟩⟩⟩
def lw_privs : List (MethodName × Nat) := lw_privs_1 ++ (lw_privs_2 ++ (lw_privs_3))
def lw_tbl : List Cond := k2_sels lw_privs ++ tables_1
theorem lw_privs_ok : ∀ q ∈ lw_privs, lw_okq q := by
  show ∀ q ∈ lw_privs_1 ++ (lw_privs_2 ++ (lw_privs_3)), lw_okq q
  exact List.forall_mem_append.mpr ⟨lw_r1, List.forall_mem_append.mpr ⟨lw_r2, lw_r3⟩⟩
end
section
/-! ===== BEGIN words of one list among another's, by their places ===== -/
theorem goodIn_r {big : List Cond} (ws : List Cond) (ps : List Nat) (hp : ws = ps.filterMap (fun i => big[i]?)) (h : ws.all goodWord = true) : GoodIn big ws := by
  intro w hw
  have h1 := List.all_eq_true.mp h w hw
  rw [hp] at hw
  obtain ⟨i, -, hi⟩ := List.mem_filterMap.mp hw
  have hm : w ∈ big := by first | exact List.mem_of_getElem? hi | exact List.getElem?_mem hi
  exact ⟨hm, good_of_word h1⟩
theorem goodIn_app {big a b : List Cond} (ha : GoodIn big a) (hb : GoodIn big b) : GoodIn big (a ++ b) := fun w h => (List.mem_append.mp h).elim (ha w) (hb w)
theorem goodIn_ca {big a b : List Cond} {c : Cond} (ha : GoodIn big (c :: a)) (hb : GoodIn big b) : GoodIn big (c :: (a ++ b)) := fun w h => (List.mem_cons.mp h).elim (fun e => ha w (List.mem_cons.mpr (Or.inl e))) (fun h => (List.mem_append.mp h).elim (fun h => ha w (List.mem_cons.mpr (Or.inr h))) (hb w))
theorem goodIn_sub {big ws : List Cond} (hm : ∀ w ∈ ws, w ∈ big) (h : ws.all goodWord = true) : GoodIn big ws := fun w hw => ⟨hm w hw, good_of_word (List.all_eq_true.mp h w hw)⟩
/-! ===== END ===== -/

/-! ===== BEGIN printed: names, fields, word lists, decode rows ===== -/
def RX0 : String := "WallHeat$Book"
def TX0 : u_T := fun k => match k with
  | 0 => ("WallHeat$Book", "there", "Z", false)
  | 1 => ("WallHeat$Book", "keys", "I", false)
  | 2 => ("WallHeat$Book", "letters", "[I", true)
  | 3 => ("WallHeat$Book", "numbers", "[I", true)
  | _ => ("WallHeat$Book", "values", "[I", true)
def tyX0 : Nat → FieldType := fun k => match k with
  | 0 => .boolean
  | 1 => .int
  | 2 => .array .int
  | 3 => .array .int
  | _ => .array .int
abbrev wsX00 : List Cond := u_ws RX0 TX0 5
theorem nmX0 : ∀ a, a < 5 → ∀ b, b < 5 → a ≠ b → (TX0 a).2.1 ≠ (TX0 b).2.1 := by decide +kernel
theorem tyX0_ok : ∀ k, k < 5 → parseFieldDescriptor (TX0 k).2.2.1 = some (tyX0 k) := by decide +kernel
abbrev cX0_init : ByteArray := prog_2_method_1_code
def yX0_init : MethodName := ⟨RX0, "<init>", "()V"⟩
abbrev cX0_placeOf : ByteArray := prog_2_method_2_code
def yX0_placeOf : MethodName := ⟨RX0, "placeOf", "(II)I"⟩
abbrev cX0_enter : ByteArray := prog_2_method_3_code
def yX0_enter : MethodName := ⟨RX0, "enter", "(III)I"⟩
abbrev cX0_remove : ByteArray := prog_2_method_4_code
def yX0_remove : MethodName := ⟨RX0, "remove", "(I)I"⟩
abbrev cX0_alikeWith : ByteArray := prog_2_method_5_code
def yX0_alikeWith : MethodName := ⟨RX0, "alikeWith", "(LWallHeat$Book;)I"⟩
def RX1 : String := "WallHeat$Past"
def TX1 : u_T := fun k => match k with
  | 0 => ("WallHeat$Past", "ring", "[LWallHeat$Warmth;", true)
  | 1 => ("WallHeat$Past", "stored", "[LWallHeat$Warmth;", true)
  | 2 => ("WallHeat$Past", "marks", "[I", true)
  | 3 => ("WallHeat$Past", "top", "I", false)
  | _ => ("WallHeat$Past", "undoable", "I", false)
def tyX1 : Nat → FieldType := fun k => match k with
  | 0 => .array (.object "WallHeat$Warmth")
  | 1 => .array (.object "WallHeat$Warmth")
  | 2 => .array .int
  | 3 => .int
  | _ => .int
abbrev wsX10 : List Cond := u_ws RX1 TX1 5
theorem nmX1 : ∀ a, a < 5 → ∀ b, b < 5 → a ≠ b → (TX1 a).2.1 ≠ (TX1 b).2.1 := by decide +kernel
theorem tyX1_ok : ∀ k, k < 5 → parseFieldDescriptor (TX1 k).2.2.1 = some (tyX1 k) := by decide +kernel
abbrev cX1_init : ByteArray := prog_3_method_1_code
def yX1_init : MethodName := ⟨RX1, "<init>", "()V"⟩
abbrev cX1_forget : ByteArray := prog_3_method_2_code
def yX1_forget : MethodName := ⟨RX1, "forget", "()V"⟩
abbrev cX1_slot : ByteArray := prog_3_method_3_code
def yX1_slot : MethodName := ⟨RX1, "slot", "([LWallHeat$Warmth;I)LWallHeat$Warmth;"⟩
abbrev cX1_remember : ByteArray := prog_3_method_4_code
def yX1_remember : MethodName := ⟨RX1, "remember", "(LWallHeat$Warmth;)V"⟩
abbrev cX1_takeBack : ByteArray := prog_3_method_5_code
def yX1_takeBack : MethodName := ⟨RX1, "takeBack", "(LWallHeat$Warmth;)V"⟩
abbrev cX1_isStored : ByteArray := prog_3_method_6_code
def yX1_isStored : MethodName := ⟨RX1, "isStored", "(I)Z"⟩
abbrev cX1_store : ByteArray := prog_3_method_7_code
def yX1_store : MethodName := ⟨RX1, "store", "(ILWallHeat$Warmth;)V"⟩
abbrev cX1_restore : ByteArray := prog_3_method_8_code
def yX1_restore : MethodName := ⟨RX1, "restore", "(ILWallHeat$Warmth;)V"⟩
def RX2 : String := "WallHeat$Reader"
def TX2 : u_T := fun k => match k with
  | 0 => ("WallHeat$Reader", "text", "LWallHeat$Text;", true)
  | 1 => ("WallHeat$Reader", "drawn", "LWallHeat$Wall;", true)
  | _ => ("WallHeat$Reader", "clauses", "I", false)
def tyX2 : Nat → FieldType := fun k => match k with
  | 0 => .object "WallHeat$Text"
  | 1 => .object "WallHeat$Wall"
  | _ => .int
abbrev wsX20 : List Cond := u_ws RX2 TX2 3
theorem nmX2 : ∀ a, a < 3 → ∀ b, b < 3 → a ≠ b → (TX2 a).2.1 ≠ (TX2 b).2.1 := by decide +kernel
theorem tyX2_ok : ∀ k, k < 3 → parseFieldDescriptor (TX2 k).2.2.1 = some (tyX2 k) := by decide +kernel
abbrev cX2_init : ByteArray := prog_4_method_1_code
def yX2_init : MethodName := ⟨RX2, "<init>", "()V"⟩
abbrev cX2_firstFault : ByteArray := prog_4_method_2_code
def yX2_firstFault : MethodName := ⟨RX2, "firstFault", "(LWallHeat$Wall;)I"⟩
abbrev cX2_readClause : ByteArray := prog_4_method_3_code
def yX2_readClause : MethodName := ⟨RX2, "readClause", "()Z"⟩
abbrev cX2_readWall : ByteArray := prog_4_method_4_code
def yX2_readWall : MethodName := ⟨RX2, "readWall", "()Z"⟩
abbrev cX2_readStuff : ByteArray := prog_4_method_5_code
def yX2_readStuff : MethodName := ⟨RX2, "readStuff", "()Z"⟩
abbrev cX2_readLayer : ByteArray := prog_4_method_6_code
def yX2_readLayer : MethodName := ⟨RX2, "readLayer", "()Z"⟩
abbrev cX2_readAir : ByteArray := prog_4_method_7_code
def yX2_readAir : MethodName := ⟨RX2, "readAir", "()Z"⟩
abbrev cX2_readHeat : ByteArray := prog_4_method_8_code
def yX2_readHeat : MethodName := ⟨RX2, "readHeat", "()Z"⟩
abbrev cX2_takeWord : ByteArray := prog_4_method_9_code
def yX2_takeWord : MethodName := ⟨RX2, "takeWord", "(Ljava/lang/String;)Z"⟩
abbrev cX2_takeNumber : ByteArray := prog_4_method_10_code
def yX2_takeNumber : MethodName := ⟨RX2, "takeNumber", "(II)I"⟩
def RX3 : String := "WallHeat$Text"
def TX3 : u_T := fun k => match k with
  | 0 => ("WallHeat$Text", "letters", "[I", true)
  | 1 => ("WallHeat$Text", "many", "I", false)
  | 2 => ("WallHeat$Text", "from", "I", false)
  | 3 => ("WallHeat$Text", "behind", "I", false)
  | _ => ("WallHeat$Text", "kind", "I", false)
def tyX3 : Nat → FieldType := fun k => match k with
  | 0 => .array .int
  | 1 => .int
  | 2 => .int
  | 3 => .int
  | _ => .int
abbrev wsX30 : List Cond := u_ws RX3 TX3 5
theorem nmX3 : ∀ a, a < 5 → ∀ b, b < 5 → a ≠ b → (TX3 a).2.1 ≠ (TX3 b).2.1 := by decide +kernel
theorem tyX3_ok : ∀ k, k < 5 → parseFieldDescriptor (TX3 k).2.2.1 = some (tyX3 k) := by decide +kernel
abbrev cX3_init : ByteArray := prog_5_method_1_code
def yX3_init : MethodName := ⟨RX3, "<init>", "()V"⟩
abbrev cX3_add : ByteArray := prog_5_method_2_code
def yX3_add : MethodName := ⟨RX3, "add", "(I)V"⟩
abbrev cX3_lookFrom : ByteArray := prog_5_method_3_code
def yX3_lookFrom : MethodName := ⟨RX3, "lookFrom", "(I)V"⟩
abbrev cX3_kindOf : ByteArray := prog_5_method_4_code
def yX3_kindOf : MethodName := ⟨RX3, "kindOf", "(I)I"⟩
abbrev cX3_tokenLength : ByteArray := prog_5_method_5_code
def yX3_tokenLength : MethodName := ⟨RX3, "tokenLength", "()I"⟩
abbrev cX3_isToken : ByteArray := prog_5_method_6_code
def yX3_isToken : MethodName := ⟨RX3, "isToken", "(Ljava/lang/String;)Z"⟩
abbrev cX3_isSemicolon : ByteArray := prog_5_method_7_code
def yX3_isSemicolon : MethodName := ⟨RX3, "isSemicolon", "()Z"⟩
abbrev cX3_number : ByteArray := prog_5_method_8_code
def yX3_number : MethodName := ⟨RX3, "number", "()I"⟩
def RX4 : String := "WallHeat$Wall"
def TX4 : u_T := fun k => match k with
  | 0 => ("WallHeat$Wall", "stuffs", "I", false)
  | 1 => ("WallHeat$Wall", "words", "[I", true)
  | 2 => ("WallHeat$Wall", "lengths", "[I", true)
  | 3 => ("WallHeat$Wall", "passes", "[I", true)
  | 4 => ("WallHeat$Wall", "holds", "[I", true)
  | 5 => ("WallHeat$Wall", "cells", "I", false)
  | 6 => ("WallHeat$Wall", "stuffOf", "[I", true)
  | 7 => ("WallHeat$Wall", "now", "LWallHeat$Warmth;", true)
  | _ => ("WallHeat$Wall", "flows", "[I", true)
def tyX4 : Nat → FieldType := fun k => match k with
  | 0 => .int
  | 1 => .array .int
  | 2 => .array .int
  | 3 => .array .int
  | 4 => .array .int
  | 5 => .int
  | 6 => .array .int
  | 7 => .object "WallHeat$Warmth"
  | _ => .array .int
abbrev wsX40 : List Cond := u_ws RX4 TX4 9
theorem nmX4 : ∀ a, a < 9 → ∀ b, b < 9 → a ≠ b → (TX4 a).2.1 ≠ (TX4 b).2.1 := by decide +kernel
theorem tyX4_ok : ∀ k, k < 9 → parseFieldDescriptor (TX4 k).2.2.1 = some (tyX4 k) := by decide +kernel
abbrev cX4_init : ByteArray := prog_6_method_1_code
def yX4_init : MethodName := ⟨RX4, "<init>", "()V"⟩
abbrev cX4_become : ByteArray := prog_6_method_2_code
def yX4_become : MethodName := ⟨RX4, "become", "(LWallHeat$Wall;)V"⟩
abbrev cX4_clear : ByteArray := prog_6_method_3_code
def yX4_clear : MethodName := ⟨RX4, "clear", "(I)V"⟩
abbrev cX4_isStuff : ByteArray := prog_6_method_4_code
def yX4_isStuff : MethodName := ⟨RX4, "isStuff", "(I)Z"⟩
abbrev cX4_isCell : ByteArray := prog_6_method_5_code
def yX4_isCell : MethodName := ⟨RX4, "isCell", "(I)Z"⟩
abbrev cX4_passesAt : ByteArray := prog_6_method_6_code
def yX4_passesAt : MethodName := ⟨RX4, "passesAt", "(I)I"⟩
abbrev cX4_holdsAt : ByteArray := prog_6_method_7_code
def yX4_holdsAt : MethodName := ⟨RX4, "holdsAt", "(I)I"⟩
abbrev cX4_cellsOf : ByteArray := prog_6_method_8_code
def yX4_cellsOf : MethodName := ⟨RX4, "cellsOf", "(I)I"⟩
abbrev cX4_nameNext : ByteArray := prog_6_method_9_code
def yX4_nameNext : MethodName := ⟨RX4, "nameNext", "(LWallHeat$Text;)V"⟩
abbrev cX4_addStuff : ByteArray := prog_6_method_10_code
def yX4_addStuff : MethodName := ⟨RX4, "addStuff", "(II)V"⟩
abbrev cX4_addCells : ByteArray := prog_6_method_11_code
def yX4_addCells : MethodName := ⟨RX4, "addCells", "(II)V"⟩
abbrev cX4_stuffNamed : ByteArray := prog_6_method_12_code
def yX4_stuffNamed : MethodName := ⟨RX4, "stuffNamed", "(LWallHeat$Text;II)I"⟩
abbrev cX4_isNamed : ByteArray := prog_6_method_13_code
def yX4_isNamed : MethodName := ⟨RX4, "isNamed", "(ILWallHeat$Text;II)Z"⟩
abbrev cX4_advance : ByteArray := prog_6_method_14_code
def yX4_advance : MethodName := ⟨RX4, "advance", "(LWallHeat$Warmth;)Z"⟩
abbrev cX4_heatBehind : ByteArray := prog_6_method_15_code
def yX4_heatBehind : MethodName := ⟨RX4, "heatBehind", "(LWallHeat$Warmth;I)I"⟩
abbrev cX4_flowAt : ByteArray := prog_6_method_16_code
def yX4_flowAt : MethodName := ⟨RX4, "flowAt", "(LWallHeat$Warmth;I)I"⟩
abbrev cX4_degreesAbove : ByteArray := prog_6_method_17_code
def yX4_degreesAbove : MethodName := ⟨RX4, "degreesAbove", "(LWallHeat$Warmth;I)J"⟩
abbrev cX4_degreesBelow : ByteArray := prog_6_method_18_code
def yX4_degreesBelow : MethodName := ⟨RX4, "degreesBelow", "(I)J"⟩
abbrev cX4_betweenAbove : ByteArray := prog_6_method_19_code
def yX4_betweenAbove : MethodName := ⟨RX4, "betweenAbove", "(I)J"⟩
abbrev cX4_betweenBelow : ByteArray := prog_6_method_20_code
def yX4_betweenBelow : MethodName := ⟨RX4, "betweenBelow", "(I)J"⟩
abbrev cX4_safe : ByteArray := prog_6_method_21_code
def yX4_safe : MethodName := ⟨RX4, "safe", "()I"⟩
abbrev cX4_resistsInAll : ByteArray := prog_6_method_22_code
def yX4_resistsInAll : MethodName := ⟨RX4, "resistsInAll", "()J"⟩
abbrev cX4_resistsRightOf : ByteArray := prog_6_method_23_code
def yX4_resistsRightOf : MethodName := ⟨RX4, "resistsRightOf", "(I)J"⟩
abbrev cX4_mostOf : ByteArray := prog_6_method_24_code
def yX4_mostOf : MethodName := ⟨RX4, "mostOf", "(I)I"⟩
abbrev cX4_compareDegrees : ByteArray := prog_6_method_25_code
def yX4_compareDegrees : MethodName := ⟨RX4, "compareDegrees", "(II)I"⟩
abbrev cX4_alikePairs : ByteArray := prog_6_method_26_code
def yX4_alikePairs : MethodName := ⟨RX4, "alikePairs", "()I"⟩
abbrev cX4_isAlike : ByteArray := prog_6_method_27_code
def yX4_isAlike : MethodName := ⟨RX4, "isAlike", "(II)Z"⟩
def RX5 : String := "WallHeat$Warmth"
def TX5 : u_T := fun k => match k with
  | 0 => ("WallHeat$Warmth", "heats", "[I", true)
  | 1 => ("WallHeat$Warmth", "left", "I", false)
  | 2 => ("WallHeat$Warmth", "right", "I", false)
  | 3 => ("WallHeat$Warmth", "pace", "I", false)
  | 4 => ("WallHeat$Warmth", "in", "I", false)
  | 5 => ("WallHeat$Warmth", "out", "I", false)
  | _ => ("WallHeat$Warmth", "steps", "I", false)
def tyX5 : Nat → FieldType := fun k => match k with
  | 0 => .array .int
  | 1 => .int
  | 2 => .int
  | 3 => .int
  | 4 => .int
  | 5 => .int
  | _ => .int
abbrev wsX50 : List Cond := u_ws RX5 TX5 7
theorem nmX5 : ∀ a, a < 7 → ∀ b, b < 7 → a ≠ b → (TX5 a).2.1 ≠ (TX5 b).2.1 := by decide +kernel
theorem tyX5_ok : ∀ k, k < 7 → parseFieldDescriptor (TX5 k).2.2.1 = some (tyX5 k) := by decide +kernel
abbrev cX5_init : ByteArray := prog_7_method_1_code
def yX5_init : MethodName := ⟨RX5, "<init>", "()V"⟩
abbrev cX5_become : ByteArray := prog_7_method_2_code
def yX5_become : MethodName := ⟨RX5, "become", "(LWallHeat$Warmth;)V"⟩
abbrev cX5_forget : ByteArray := prog_7_method_3_code
def yX5_forget : MethodName := ⟨RX5, "forget", "()V"⟩
abbrev cX5_allHeat : ByteArray := prog_7_method_4_code
def yX5_allHeat : MethodName := ⟨RX5, "allHeat", "(I)I"⟩
def RX6 : String := "WallHeat"
def TX6 : u_T := fun k => match k with
  | 0 => ("WallHeat", "reader", "LWallHeat$Reader;", true)
  | 1 => ("WallHeat", "standing", "LWallHeat$Wall;", true)
  | 2 => ("WallHeat", "ahead", "LWallHeat$Warmth;", true)
  | 3 => ("WallHeat", "past", "LWallHeat$Past;", true)
  | _ => ("WallHeat", "pages", "[LWallHeat$Book;", true)
def tyX6 : Nat → FieldType := fun k => match k with
  | 0 => .object "WallHeat$Reader"
  | 1 => .object "WallHeat$Wall"
  | 2 => .object "WallHeat$Warmth"
  | 3 => .object "WallHeat$Past"
  | _ => .array (.object "WallHeat$Book")
abbrev wsX60 : List Cond := u_ws RX6 TX6 5
theorem nmX6 : ∀ a, a < 5 → ∀ b, b < 5 → a ≠ b → (TX6 a).2.1 ≠ (TX6 b).2.1 := by decide +kernel
theorem tyX6_ok : ∀ k, k < 5 → parseFieldDescriptor (TX6 k).2.2.1 = some (tyX6 k) := by decide +kernel
abbrev cX6_init : ByteArray := prog_1_method_1_code
def yX6_init : MethodName := ⟨RX6, "<init>", "()V"⟩
abbrev cX6_write : ByteArray := prog_1_method_2_code
def yX6_write : MethodName := ⟨RX6, "write", "(I)I"⟩
abbrev cX6_erase : ByteArray := prog_1_method_3_code
def yX6_erase : MethodName := ⟨RX6, "erase", "()I"⟩
abbrev cX6_fault : ByteArray := prog_1_method_4_code
def yX6_fault : MethodName := ⟨RX6, "fault", "()I"⟩
abbrev cX6_wall : ByteArray := prog_1_method_5_code
def yX6_wall : MethodName := ⟨RX6, "wall", "()I"⟩
abbrev cX6_find : ByteArray := prog_1_method_6_code
def yX6_find : MethodName := ⟨RX6, "find", "()I"⟩
abbrev cX6_stuff : ByteArray := prog_1_method_7_code
def yX6_stuff : MethodName := ⟨RX6, "stuff", "(II)I"⟩
abbrev cX6_cell : ByteArray := prog_1_method_8_code
def yX6_cell : MethodName := ⟨RX6, "cell", "(II)I"⟩
abbrev cX6_rest : ByteArray := prog_1_method_9_code
def yX6_rest : MethodName := ⟨RX6, "rest", "(II)J"⟩
abbrev cX6_step : ByteArray := prog_1_method_10_code
def yX6_step : MethodName := ⟨RX6, "step", "(I)I"⟩
abbrev cX6_heat : ByteArray := prog_1_method_11_code
def yX6_heat : MethodName := ⟨RX6, "heat", "(II)I"⟩
abbrev cX6_air : ByteArray := prog_1_method_12_code
def yX6_air : MethodName := ⟨RX6, "air", "(II)I"⟩
abbrev cX6_pace : ByteArray := prog_1_method_13_code
def yX6_pace : MethodName := ⟨RX6, "pace", "(I)I"⟩
abbrev cX6_undo : ByteArray := prog_1_method_14_code
def yX6_undo : MethodName := ⟨RX6, "undo", "()I"⟩
abbrev cX6_keep : ByteArray := prog_1_method_15_code
def yX6_keep : MethodName := ⟨RX6, "keep", "(I)I"⟩
abbrev cX6_back : ByteArray := prog_1_method_16_code
def yX6_back : MethodName := ⟨RX6, "back", "(I)I"⟩
abbrev cX6_flow : ByteArray := prog_1_method_17_code
def yX6_flow : MethodName := ⟨RX6, "flow", "(I)I"⟩
abbrev cX6_until : ByteArray := prog_1_method_18_code
def yX6_until : MethodName := ⟨RX6, "until", "(II)I"⟩
abbrev cX6_resists : ByteArray := prog_1_method_19_code
def yX6_resists : MethodName := ⟨RX6, "resists", "(I)I"⟩
abbrev cX6_swapped : ByteArray := prog_1_method_20_code
def yX6_swapped : MethodName := ⟨RX6, "swapped", "(III)I"⟩
abbrev cX6_gain : ByteArray := prog_1_method_21_code
def yX6_gain : MethodName := ⟨RX6, "gain", "(I)I"⟩
abbrev cX6_page : ByteArray := prog_1_method_22_code
def yX6_page : MethodName := ⟨RX6, "page", "(I)I"⟩
abbrev cX6_put : ByteArray := prog_1_method_23_code
def yX6_put : MethodName := ⟨RX6, "put", "(IIII)I"⟩
abbrev cX6_get : ByteArray := prog_1_method_24_code
def yX6_get : MethodName := ⟨RX6, "get", "(III)I"⟩
abbrev cX6_strike : ByteArray := prog_1_method_25_code
def yX6_strike : MethodName := ⟨RX6, "strike", "(III)I"⟩
abbrev cX6_common : ByteArray := prog_1_method_26_code
def yX6_common : MethodName := ⟨RX6, "common", "(II)I"⟩
abbrev cX6_sum : ByteArray := prog_1_method_27_code
def yX6_sum : MethodName := ⟨RX6, "sum", "(II)I"⟩
abbrev cX6_drop : ByteArray := prog_1_method_28_code
def yX6_drop : MethodName := ⟨RX6, "drop", "(I)I"⟩
abbrev cX6_count : ByteArray := prog_1_method_29_code
def yX6_count : MethodName := ⟨RX6, "count", "(I)I"⟩
abbrev cX6_bookAt : ByteArray := prog_1_method_30_code
def yX6_bookAt : MethodName := ⟨RX6, "bookAt", "(I)LWallHeat$Book;"⟩
abbrev cX6_missPage : ByteArray := prog_1_method_31_code
def yX6_missPage : MethodName := ⟨RX6, "missPage", "(I)V"⟩
abbrev cX6_keysOfAllPages : ByteArray := prog_1_method_32_code
def yX6_keysOfAllPages : MethodName := ⟨RX6, "keysOfAllPages", "()I"⟩
abbrev cX6_isPart : ByteArray := prog_1_method_33_code
def yX6_isPart : MethodName := ⟨RX6, "isPart", "(I)Z"⟩
abbrev cX6_isHeat : ByteArray := prog_1_method_34_code
def yX6_isHeat : MethodName := ⟨RX6, "isHeat", "(I)Z"⟩
abbrev cX6_isDegrees : ByteArray := prog_1_method_35_code
def yX6_isDegrees : MethodName := ⟨RX6, "isDegrees", "(I)Z"⟩
abbrev cX6_isKey : ByteArray := prog_1_method_36_code
def yX6_isKey : MethodName := ⟨RX6, "isKey", "(II)Z"⟩
abbrev cX6_at : ByteArray := prog_1_method_37_code
def yX6_at : MethodName := ⟨RX6, "at", "([II)I"⟩
abbrev cX6_set : ByteArray := prog_1_method_38_code
def yX6_set : MethodName := ⟨RX6, "set", "([III)V"⟩
abbrev cX6_copyRow : ByteArray := prog_1_method_39_code
def yX6_copyRow : MethodName := ⟨RX6, "copyRow", "([I[I)V"⟩
abbrev cX6_total : ByteArray := prog_1_method_40_code
def yX6_total : MethodName := ⟨RX6, "total", "([II)I"⟩
abbrev cX6_cut : ByteArray := prog_1_method_41_code
def yX6_cut : MethodName := ⟨RX6, "cut", "(JJ)J"⟩
abbrev cX6_lowest : ByteArray := prog_1_method_42_code
def yX6_lowest : MethodName := ⟨RX6, "lowest", "(JJI)J"⟩
abbrev cX6_commonDivisor : ByteArray := prog_1_method_43_code
def yX6_commonDivisor : MethodName := ⟨RX6, "commonDivisor", "(JJ)J"⟩
abbrev cX6_halfResists : ByteArray := prog_1_method_44_code
def yX6_halfResists : MethodName := ⟨RX6, "halfResists", "(I)J"⟩
def RX7 : String := "WallHeatModel"
def TX7 : u_T := fun k => match k with
  | 0 => ("WallHeatModel", "row", "[I", true)
  | 1 => ("WallHeatModel", "stuffs", "I", false)
  | 2 => ("WallHeatModel", "passes", "[I", true)
  | 3 => ("WallHeatModel", "holds", "[I", true)
  | 4 => ("WallHeatModel", "names", "[I", true)
  | 5 => ("WallHeatModel", "sizes", "[I", true)
  | 6 => ("WallHeatModel", "cells", "I", false)
  | 7 => ("WallHeatModel", "of", "[I", true)
  | 8 => ("WallHeatModel", "undos", "I", false)
  | 9 => ("WallHeatModel", "isKept", "[Z", true)
  | 10 => ("WallHeatModel", "text", "[I", true)
  | 11 => ("WallHeatModel", "length", "I", false)
  | 12 => ("WallHeatModel", "many", "[I", true)
  | 13 => ("WallHeatModel", "letters", "[I", true)
  | 14 => ("WallHeatModel", "numbersOf", "[I", true)
  | 15 => ("WallHeatModel", "values", "[I", true)
  | 16 => ("WallHeatModel", "first", "I", false)
  | 17 => ("WallHeatModel", "behind", "I", false)
  | 18 => ("WallHeatModel", "readStuffs", "I", false)
  | 19 => ("WallHeatModel", "readCells", "I", false)
  | 20 => ("WallHeatModel", "readNames", "[I", true)
  | 21 => ("WallHeatModel", "readSizes", "[I", true)
  | 22 => ("WallHeatModel", "clauses", "I", false)
  | 23 => ("WallHeatModel", "doing", "Z", false)
  | 24 => ("WallHeatModel", "numbers", "[I", true)
  | 25 => ("WallHeatModel", "words", "[I", true)
  | _ => ("WallHeatModel", "flows", "[I", true)
def tyX7 : Nat → FieldType := fun k => match k with
  | 0 => .array .int
  | 1 => .int
  | 2 => .array .int
  | 3 => .array .int
  | 4 => .array .int
  | 5 => .array .int
  | 6 => .int
  | 7 => .array .int
  | 8 => .int
  | 9 => .array .boolean
  | 10 => .array .int
  | 11 => .int
  | 12 => .array .int
  | 13 => .array .int
  | 14 => .array .int
  | 15 => .array .int
  | 16 => .int
  | 17 => .int
  | 18 => .int
  | 19 => .int
  | 20 => .array .int
  | 21 => .array .int
  | 22 => .int
  | 23 => .boolean
  | 24 => .array .int
  | 25 => .array .int
  | _ => .array .int
abbrev wsX70 : List Cond := u_ws RX7 TX7 27
theorem nmX7 : ∀ a, a < 27 → ∀ b, b < 27 → a ≠ b → (TX7 a).2.1 ≠ (TX7 b).2.1 := by decide +kernel
theorem tyX7_ok : ∀ k, k < 27 → parseFieldDescriptor (TX7 k).2.2.1 = some (tyX7 k) := by decide +kernel
abbrev cX7_init : ByteArray := prog_9_method_1_code
def yX7_init : MethodName := ⟨RX7, "<init>", "()V"⟩
abbrev cX7_in : ByteArray := prog_9_method_2_code
def yX7_in : MethodName := ⟨RX7, "in", "(JJJ)Z"⟩
abbrev cX7_copyRow : ByteArray := prog_9_method_3_code
def yX7_copyRow : MethodName := ⟨RX7, "copyRow", "(II)V"⟩
abbrev cX7_write : ByteArray := prog_9_method_4_code
def yX7_write : MethodName := ⟨RX7, "write", "(I)I"⟩
abbrev cX7_erase : ByteArray := prog_9_method_5_code
def yX7_erase : MethodName := ⟨RX7, "erase", "()I"⟩
abbrev cX7_isSmall : ByteArray := prog_9_method_6_code
def yX7_isSmall : MethodName := ⟨RX7, "isSmall", "(I)Z"⟩
abbrev cX7_isDigit : ByteArray := prog_9_method_7_code
def yX7_isDigit : MethodName := ⟨RX7, "isDigit", "(I)Z"⟩
abbrev cX7_nextToken : ByteArray := prog_9_method_8_code
def yX7_nextToken : MethodName := ⟨RX7, "nextToken", "()V"⟩
abbrev cX7_wordHere : ByteArray := prog_9_method_9_code
def yX7_wordHere : MethodName := ⟨RX7, "wordHere", "()I"⟩
abbrev cX7_number : ByteArray := prog_9_method_10_code
def yX7_number : MethodName := ⟨RX7, "number", "(III)Z"⟩
abbrev cX7_stuffHere : ByteArray := prog_9_method_11_code
def yX7_stuffHere : MethodName := ⟨RX7, "stuffHere", "()I"⟩
abbrev cX7_readsNewWord : ByteArray := prog_9_method_12_code
def yX7_readsNewWord : MethodName := ⟨RX7, "readsNewWord", "()Z"⟩
abbrev cX7_readsTold : ByteArray := prog_9_method_13_code
def yX7_readsTold : MethodName := ⟨RX7, "readsTold", "()Z"⟩
abbrev cX7_lesser : ByteArray := prog_9_method_14_code
def yX7_lesser : MethodName := ⟨RX7, "lesser", "(II)I"⟩
abbrev cX7_readsRest : ByteArray := prog_9_method_15_code
def yX7_readsRest : MethodName := ⟨RX7, "readsRest", "(I)Z"⟩
abbrev cX7_does : ByteArray := prog_9_method_16_code
def yX7_does : MethodName := ⟨RX7, "does", "(I)V"⟩
abbrev cX7_readsClause : ByteArray := prog_9_method_17_code
def yX7_readsClause : MethodName := ⟨RX7, "readsClause", "()Z"⟩
abbrev cX7_layTold : ByteArray := prog_9_method_18_code
def yX7_layTold : MethodName := ⟨RX7, "layTold", "()V"⟩
abbrev cX7_reads : ByteArray := prog_9_method_19_code
def yX7_reads : MethodName := ⟨RX7, "reads", "(Z)Z"⟩
abbrev cX7_fault : ByteArray := prog_9_method_20_code
def yX7_fault : MethodName := ⟨RX7, "fault", "()I"⟩
abbrev cX7_wall : ByteArray := prog_9_method_21_code
def yX7_wall : MethodName := ⟨RX7, "wall", "()I"⟩
abbrev cX7_find : ByteArray := prog_9_method_22_code
def yX7_find : MethodName := ⟨RX7, "find", "()I"⟩
abbrev cX7_isStuff : ByteArray := prog_9_method_23_code
def yX7_isStuff : MethodName := ⟨RX7, "isStuff", "(I)Z"⟩
abbrev cX7_isCell : ByteArray := prog_9_method_24_code
def yX7_isCell : MethodName := ⟨RX7, "isCell", "(I)Z"⟩
abbrev cX7_holdsOf : ByteArray := prog_9_method_25_code
def yX7_holdsOf : MethodName := ⟨RX7, "holdsOf", "(I)I"⟩
abbrev cX7_passesOf : ByteArray := prog_9_method_26_code
def yX7_passesOf : MethodName := ⟨RX7, "passesOf", "(I)I"⟩
abbrev cX7_divisor : ByteArray := prog_9_method_27_code
def yX7_divisor : MethodName := ⟨RX7, "divisor", "(JJ)J"⟩
abbrev cX7_told : ByteArray := prog_9_method_28_code
def yX7_told : MethodName := ⟨RX7, "told", "(JJI)J"⟩
abbrev cX7_cellsOf : ByteArray := prog_9_method_29_code
def yX7_cellsOf : MethodName := ⟨RX7, "cellsOf", "(I)I"⟩
abbrev cX7_stuff : ByteArray := prog_9_method_30_code
def yX7_stuff : MethodName := ⟨RX7, "stuff", "(II)I"⟩
abbrev cX7_cell : ByteArray := prog_9_method_31_code
def yX7_cell : MethodName := ⟨RX7, "cell", "(II)I"⟩
abbrev cX7_rest : ByteArray := prog_9_method_32_code
def yX7_rest : MethodName := ⟨RX7, "rest", "(II)J"⟩
abbrev cX7_flowAt : ByteArray := prog_9_method_33_code
def yX7_flowAt : MethodName := ⟨RX7, "flowAt", "(II)I"⟩
abbrev cX7_steps : ByteArray := prog_9_method_34_code
def yX7_steps : MethodName := ⟨RX7, "steps", "(I)Z"⟩
abbrev cX7_allHeat : ByteArray := prog_9_method_35_code
def yX7_allHeat : MethodName := ⟨RX7, "allHeat", "()I"⟩
abbrev cX7_safeFor : ByteArray := prog_9_method_36_code
def yX7_safeFor : MethodName := ⟨RX7, "safeFor", "(I)I"⟩
abbrev cX7_safe : ByteArray := prog_9_method_37_code
def yX7_safe : MethodName := ⟨RX7, "safe", "()I"⟩
abbrev cX7_keepPast : ByteArray := prog_9_method_38_code
def yX7_keepPast : MethodName := ⟨RX7, "keepPast", "()V"⟩
abbrev cX7_step : ByteArray := prog_9_method_39_code
def yX7_step : MethodName := ⟨RX7, "step", "(I)I"⟩
abbrev cX7_heat : ByteArray := prog_9_method_40_code
def yX7_heat : MethodName := ⟨RX7, "heat", "(II)I"⟩
abbrev cX7_air : ByteArray := prog_9_method_41_code
def yX7_air : MethodName := ⟨RX7, "air", "(II)I"⟩
abbrev cX7_pace : ByteArray := prog_9_method_42_code
def yX7_pace : MethodName := ⟨RX7, "pace", "(I)I"⟩
abbrev cX7_undo : ByteArray := prog_9_method_43_code
def yX7_undo : MethodName := ⟨RX7, "undo", "()I"⟩
abbrev cX7_keep : ByteArray := prog_9_method_44_code
def yX7_keep : MethodName := ⟨RX7, "keep", "(I)I"⟩
abbrev cX7_back : ByteArray := prog_9_method_45_code
def yX7_back : MethodName := ⟨RX7, "back", "(I)I"⟩
abbrev cX7_flow : ByteArray := prog_9_method_46_code
def yX7_flow : MethodName := ⟨RX7, "flow", "(I)I"⟩
abbrev cX7_until : ByteArray := prog_9_method_47_code
def yX7_until : MethodName := ⟨RX7, "until", "(II)I"⟩
abbrev cX7_resistance : ByteArray := prog_9_method_48_code
def yX7_resistance : MethodName := ⟨RX7, "resistance", "(II)J"⟩
abbrev cX7_resists : ByteArray := prog_9_method_49_code
def yX7_resists : MethodName := ⟨RX7, "resists", "(I)I"⟩
abbrev cX7_swapped : ByteArray := prog_9_method_50_code
def yX7_swapped : MethodName := ⟨RX7, "swapped", "(III)I"⟩
abbrev cX7_gain : ByteArray := prog_9_method_51_code
def yX7_gain : MethodName := ⟨RX7, "gain", "(I)I"⟩
abbrev cX7_isPage : ByteArray := prog_9_method_52_code
def yX7_isPage : MethodName := ⟨RX7, "isPage", "(I)Z"⟩
abbrev cX7_isKey : ByteArray := prog_9_method_53_code
def yX7_isKey : MethodName := ⟨RX7, "isKey", "(II)Z"⟩
abbrev cX7_placeOf : ByteArray := prog_9_method_54_code
def yX7_placeOf : MethodName := ⟨RX7, "placeOf", "(III)I"⟩
abbrev cX7_page : ByteArray := prog_9_method_55_code
def yX7_page : MethodName := ⟨RX7, "page", "(I)I"⟩
abbrev cX7_put : ByteArray := prog_9_method_56_code
def yX7_put : MethodName := ⟨RX7, "put", "(IIII)I"⟩
abbrev cX7_get : ByteArray := prog_9_method_57_code
def yX7_get : MethodName := ⟨RX7, "get", "(III)I"⟩
abbrev cX7_strike : ByteArray := prog_9_method_58_code
def yX7_strike : MethodName := ⟨RX7, "strike", "(III)I"⟩
abbrev cX7_common : ByteArray := prog_9_method_59_code
def yX7_common : MethodName := ⟨RX7, "common", "(II)I"⟩
abbrev cX7_sum : ByteArray := prog_9_method_60_code
def yX7_sum : MethodName := ⟨RX7, "sum", "(II)I"⟩
abbrev cX7_drop : ByteArray := prog_9_method_61_code
def yX7_drop : MethodName := ⟨RX7, "drop", "(I)I"⟩
abbrev cX7_extreme : ByteArray := prog_9_method_62_code
def yX7_extreme : MethodName := ⟨RX7, "extreme", "(Z)I"⟩
abbrev cX7_alike : ByteArray := prog_9_method_63_code
def yX7_alike : MethodName := ⟨RX7, "alike", "()I"⟩
abbrev cX7_allKeys : ByteArray := prog_9_method_64_code
def yX7_allKeys : MethodName := ⟨RX7, "allKeys", "()I"⟩
abbrev cX7_count : ByteArray := prog_9_method_65_code
def yX7_count : MethodName := ⟨RX7, "count", "(I)I"⟩
def RJ6 : String := "java/lang/Integer"
def TJ6 : u_T := fun k => match k with
  | _ => ("", "", "", false)
def tyJ6 : Nat → FieldType := fun k => match k with
  | _ => .int
abbrev wsJ60 : List Cond := u_ws RJ6 TJ6 0
theorem nmJ6 : ∀ a, a < 0 → ∀ b, b < 0 → a ≠ b → (TJ6 a).2.1 ≠ (TJ6 b).2.1 := by decide +kernel
theorem tyJ6_ok : ∀ k, k < 0 → parseFieldDescriptor (TJ6 k).2.2.1 = some (tyJ6 k) := by decide +kernel
abbrev cJ6_compare_7cf53 : ByteArray := prog_10_method_40_code
def yJ6_compare_7cf53 : MethodName := ⟨RJ6, "compare", "(II)I"⟩
def RJ9 : String := "java/lang/Math"
def TJ9 : u_T := fun k => match k with
  | _ => ("", "", "", false)
def tyJ9 : Nat → FieldType := fun k => match k with
  | _ => .int
abbrev wsJ90 : List Cond := u_ws RJ9 TJ9 0
theorem nmJ9 : ∀ a, a < 0 → ∀ b, b < 0 → a ≠ b → (TJ9 a).2.1 ≠ (TJ9 b).2.1 := by decide +kernel
theorem tyJ9_ok : ∀ k, k < 0 → parseFieldDescriptor (TJ9 k).2.2.1 = some (tyJ9 k) := by decide +kernel
abbrev cJ9_abs_067f4 : ByteArray := prog_11_method_61_code
def yJ9_abs_067f4 : MethodName := ⟨RJ9, "abs", "(J)J"⟩
abbrev cJ9_max_f86c9 : ByteArray := prog_11_method_66_code
def yJ9_max_f86c9 : MethodName := ⟨RJ9, "max", "(JJ)J"⟩
abbrev cJ9_min_7cf53 : ByteArray := prog_11_method_69_code
def yJ9_min_7cf53 : MethodName := ⟨RJ9, "min", "(II)I"⟩
def RJ0 : String := "java/lang/String"
def TJ0 : u_T := fun k => match k with
  | _ => ("", "", "", false)
def tyJ0 : Nat → FieldType := fun k => match k with
  | _ => .int
abbrev wsJ00 : List Cond := u_ws RJ0 TJ0 0
theorem nmJ0 : ∀ a, a < 0 → ∀ b, b < 0 → a ≠ b → (TJ0 a).2.1 ≠ (TJ0 b).2.1 := by decide +kernel
theorem tyJ0_ok : ∀ k, k < 0 → parseFieldDescriptor (TJ0 k).2.2.1 = some (tyJ0 k) := by decide +kernel
abbrev cJ0_length_8abf5 : ByteArray := prog_12_method_54_code
def yJ0_length_8abf5 : MethodName := ⟨RJ0, "length", "()I"⟩
abbrev cJ0_charAt_5068e : ByteArray := prog_12_method_56_code
def yJ0_charAt_5068e : MethodName := ⟨RJ0, "charAt", "(I)C"⟩
abbrev cJ0_coder_7d493 : ByteArray := prog_12_method_152_code
def yJ0_coder_7d493 : MethodName := ⟨RJ0, "coder", "()B"⟩
abbrev cJ0_isLatin1_aae02 : ByteArray := prog_12_method_154_code
def yJ0_isLatin1_aae02 : MethodName := ⟨RJ0, "isLatin1", "()Z"⟩
abbrev cJ0_checkIndex_df160 : ByteArray := prog_12_method_155_code
def yJ0_checkIndex_df160 : MethodName := ⟨RJ0, "checkIndex", "(II)V"⟩
def RJ1 : String := "java/lang/StringLatin1"
def TJ1 : u_T := fun k => match k with
  | _ => ("", "", "", false)
def tyJ1 : Nat → FieldType := fun k => match k with
  | _ => .int
abbrev wsJ10 : List Cond := u_ws RJ1 TJ1 0
theorem nmJ1 : ∀ a, a < 0 → ∀ b, b < 0 → a ≠ b → (TJ1 a).2.1 ≠ (TJ1 b).2.1 := by decide +kernel
theorem tyJ1_ok : ∀ k, k < 0 → parseFieldDescriptor (TJ1 k).2.2.1 = some (tyJ1 k) := by decide +kernel
abbrev cJ1_charAt_3b067 : ByteArray := prog_13_method_2_code
def yJ1_charAt_3b067 : MethodName := ⟨RJ1, "charAt", "([BI)C"⟩
def RJ2 : String := "java/lang/StringUTF16"
def TJ2 : u_T := fun k => match k with
  | _ => ("", "", "", false)
def tyJ2 : Nat → FieldType := fun k => match k with
  | _ => .int
abbrev wsJ20 : List Cond := u_ws RJ2 TJ2 0
theorem nmJ2 : ∀ a, a < 0 → ∀ b, b < 0 → a ≠ b → (TJ2 a).2.1 ≠ (TJ2 b).2.1 := by decide +kernel
theorem tyJ2_ok : ∀ k, k < 0 → parseFieldDescriptor (TJ2 k).2.2.1 = some (tyJ2 k) := by decide +kernel
abbrev cJ2_getChar_3b067 : ByteArray := prog_14_method_5_code
def yJ2_getChar_3b067 : MethodName := ⟨RJ2, "getChar", "([BI)C"⟩
abbrev cJ2_length_9d52b : ByteArray := prog_14_method_6_code
def yJ2_length_9d52b : MethodName := ⟨RJ2, "length", "([B)I"⟩
abbrev cJ2_charAt_3b067 : ByteArray := prog_14_method_83_code
def yJ2_charAt_3b067 : MethodName := ⟨RJ2, "charAt", "([BI)C"⟩
abbrev cJ2_checkIndex_2214a : ByteArray := prog_14_method_91_code
def yJ2_checkIndex_2214a : MethodName := ⟨RJ2, "checkIndex", "(I[B)V"⟩
def RJ3 : String := "jdk/internal/util/Preconditions"
def TJ3 : u_T := fun k => match k with
  | _ => ("", "", "", false)
def tyJ3 : Nat → FieldType := fun k => match k with
  | _ => .int
abbrev wsJ30 : List Cond := u_ws RJ3 TJ3 0
theorem nmJ3 : ∀ a, a < 0 → ∀ b, b < 0 → a ≠ b → (TJ3 a).2.1 ≠ (TJ3 b).2.1 := by decide +kernel
theorem tyJ3_ok : ∀ k, k < 0 → parseFieldDescriptor (TJ3 k).2.2.1 = some (tyJ3 k) := by decide +kernel
abbrev cJ3_checkIndex_8e157 : ByteArray := prog_15_method_11_code
def yJ3_checkIndex_8e157 : MethodName := ⟨RJ3, "checkIndex", "(IILjava/util/function/BiFunction;)I"⟩
def RL : String := "WallHeatLaw"
abbrev cL_law : ByteArray := code
def yL_law : MethodName := ⟨RL, "law", "([I)Z"⟩
def wsL_law_r1 : List Cond := [Cond.classLink RL 7 RX6, Cond.instantiable RX6 5, Cond.initialized RX6, Cond.classLink RL 10 RX7, Cond.instantiable RX7 27, Cond.initialized RX7, Cond.methodLink RL 9 yX6_init, Cond.instanceMethod yX6_init, Cond.code yX6_init cX6_init 2 none, Cond.methodLink RX6 1 objectInit, Cond.instanceMethod objectInit, Cond.code objectInit ⟨#[0xb1]⟩ 1 none, Cond.classLink RX6 7 RX2, Cond.instantiable RX2 3, Cond.initialized RX2, Cond.fieldLink RX6 10 "WallHeat" "reader" "LWallHeat$Reader;", Cond.classLink RX6 16 RX4, Cond.instantiable RX4 9, Cond.initialized RX4, Cond.fieldLink RX6 19 "WallHeat" "standing" "LWallHeat$Wall;", Cond.classLink RX6 23 RX5, Cond.instantiable RX5 7, Cond.initialized RX5, Cond.fieldLink RX6 26 "WallHeat" "ahead" "LWallHeat$Warmth;"]
def wsL_law_r2 : List Cond := [Cond.classLink RX6 30 RX1, Cond.instantiable RX1 5, Cond.initialized RX1, Cond.fieldLink RX6 33 "WallHeat" "past" "LWallHeat$Past;", Cond.classLink RX6 37 RX0, Cond.fieldLink RX6 39 "WallHeat" "pages" "[LWallHeat$Book;", Cond.instantiable RX0 5, Cond.initialized RX0, Cond.instanceMethod yX2_init, Cond.code yX2_init cX2_init 1 none, Cond.methodLink RX2 3 objectInit, Cond.classLink RX2 9 RX3, Cond.instantiable RX3 5, Cond.initialized RX3, Cond.fieldLink RX2 12 "WallHeat$Reader" "text" "LWallHeat$Text;", Cond.classLink RX2 18 RX4, Cond.fieldLink RX2 21 "WallHeat$Reader" "drawn" "LWallHeat$Wall;", Cond.instanceMethod yX3_init, Cond.code yX3_init cX3_init 1 none, Cond.methodLink RX3 3 objectInit, Cond.arrayClass .int, Cond.fieldLink RX3 9 "WallHeat$Text" "letters" "[I", Cond.instanceMethod yX4_init, Cond.code yX4_init cX4_init 1 none]
def wsL_law_r3 : List Cond := [Cond.methodLink RX4 3 objectInit, Cond.fieldLink RX4 9 "WallHeat$Wall" "words" "[I", Cond.fieldLink RX4 15 "WallHeat$Wall" "lengths" "[I", Cond.fieldLink RX4 18 "WallHeat$Wall" "passes" "[I", Cond.fieldLink RX4 21 "WallHeat$Wall" "holds" "[I", Cond.fieldLink RX4 24 "WallHeat$Wall" "stuffOf" "[I", Cond.classLink RX4 27 RX5, Cond.fieldLink RX4 30 "WallHeat$Wall" "now" "LWallHeat$Warmth;", Cond.fieldLink RX4 34 "WallHeat$Wall" "flows" "[I", Cond.instanceMethod yX5_init, Cond.code yX5_init cX5_init 1 none, Cond.methodLink RX5 3 objectInit, Cond.fieldLink RX5 9 "WallHeat$Warmth" "heats" "[I", Cond.fieldLink RX5 15 "WallHeat$Warmth" "pace" "I", Cond.methodLink RX6 32 yX1_init, Cond.instanceMethod yX1_init, Cond.code yX1_init cX1_init 2 none, Cond.methodLink RX1 3 objectInit, Cond.classLink RX1 9 RX5, Cond.fieldLink RX1 11 "WallHeat$Past" "ring" "[LWallHeat$Warmth;", Cond.fieldLink RX1 17 "WallHeat$Past" "stored" "[LWallHeat$Warmth;", Cond.fieldLink RX1 20 "WallHeat$Past" "marks" "[I", Cond.instanceMethod yX0_init, Cond.code yX0_init cX0_init 1 none]
def wsL_law_r4 : List Cond := [Cond.methodLink RX0 3 objectInit, Cond.fieldLink RX0 9 "WallHeat$Book" "letters" "[I", Cond.fieldLink RX0 15 "WallHeat$Book" "numbers" "[I", Cond.fieldLink RX0 18 "WallHeat$Book" "values" "[I", Cond.methodLink RL 12 yX7_init, Cond.instanceMethod yX7_init, Cond.code yX7_init cX7_init 1 none, Cond.methodLink RX7 1 objectInit, Cond.fieldLink RX7 7 "WallHeatModel" "row" "[I", Cond.fieldLink RX7 13 "WallHeatModel" "passes" "[I", Cond.fieldLink RX7 16 "WallHeatModel" "holds" "[I", Cond.fieldLink RX7 19 "WallHeatModel" "names" "[I", Cond.fieldLink RX7 22 "WallHeatModel" "sizes" "[I", Cond.fieldLink RX7 25 "WallHeatModel" "of" "[I", Cond.arrayClass .boolean, Cond.fieldLink RX7 28 "WallHeatModel" "isKept" "[Z", Cond.fieldLink RX7 32 "WallHeatModel" "text" "[I", Cond.fieldLink RX7 35 "WallHeatModel" "many" "[I", Cond.fieldLink RX7 38 "WallHeatModel" "letters" "[I", Cond.fieldLink RX7 41 "WallHeatModel" "numbersOf" "[I", Cond.fieldLink RX7 44 "WallHeatModel" "values" "[I", Cond.fieldLink RX7 47 "WallHeatModel" "readNames" "[I", Cond.fieldLink RX7 50 "WallHeatModel" "readSizes" "[I", Cond.fieldLink RX7 53 "WallHeatModel" "numbers" "[I"]
def wsL_law_r5 : List Cond := [Cond.fieldLink RX7 56 "WallHeatModel" "words" "[I", Cond.fieldLink RX7 59 "WallHeatModel" "flows" "[I", Cond.methodLink RL 13 yX6_write, Cond.instanceMethod yX6_write, Cond.selects RX6 yX6_write yX6_write, Cond.code yX6_write cX6_write 2 (some .int), Cond.constant RX6 44 (-2000000002), Cond.fieldLink RX6 45 "WallHeat$Reader" "text" "LWallHeat$Text;", Cond.fieldLink RX6 49 "WallHeat$Text" "many" "I", Cond.constant RX6 55 (-2000000004), Cond.methodLink RX6 56 yX3_add, Cond.instanceMethod yX3_add, Cond.selects RX3 yX3_add yX3_add, Cond.code yX3_add cX3_add 2 none, Cond.fieldLink RX3 15 "WallHeat$Text" "many" "I", Cond.static yX6_set, Cond.code yX6_set cX6_set 3 none, Cond.methodLink RL 17 yX7_write, Cond.instanceMethod yX7_write, Cond.selects RX7 yX7_write yX7_write, Cond.code yX7_write cX7_write 2 (some .int), Cond.constantLong RX7 62 (255), Cond.constant RX7 68 (-2000000002), Cond.fieldLink RX7 69 "WallHeatModel" "length" "I"]
def wsL_law_r6 : List Cond := [Cond.constant RX7 73 (-2000000004), Cond.methodLink RX7 64 yX7_in, Cond.static yX7_in, Cond.code yX7_in cX7_in 6 (some .boolean), Cond.methodLink RL 18 yX6_erase, Cond.instanceMethod yX6_erase, Cond.selects RX6 yX6_erase yX6_erase, Cond.code yX6_erase cX6_erase 2 (some .int), Cond.methodLink RL 22 yX7_erase, Cond.instanceMethod yX7_erase, Cond.selects RX7 yX7_erase yX7_erase, Cond.code yX7_erase cX7_erase 2 (some .int), Cond.methodLink RL 23 yX6_fault, Cond.instanceMethod yX6_fault, Cond.selects RX6 yX6_fault yX6_fault, Cond.code yX6_fault cX6_fault 1 (some .int), Cond.methodLink RX6 60 yX2_firstFault, Cond.instanceMethod yX2_firstFault, Cond.selects RX2 yX2_firstFault yX2_firstFault, Cond.code yX2_firstFault cX2_firstFault 2 (some .int), Cond.fieldLink RX2 33 "WallHeat$Reader" "clauses" "I", Cond.fieldLink RX2 41 "WallHeat$Text" "from" "I", Cond.fieldLink RX2 44 "WallHeat$Text" "kind" "I", Cond.fieldLink RX2 50 "WallHeat$Text" "behind" "I"]
def wsL_law_r7 : List Cond := [Cond.methodLink RX2 25 yX4_become, Cond.instanceMethod yX4_become, Cond.selects RX4 yX4_become yX4_become, Cond.code yX4_become cX4_become 2 none, Cond.fieldLink RX4 37 "WallHeat$Wall" "stuffs" "I", Cond.fieldLink RX4 45 "WallHeat$Wall" "cells" "I", Cond.static yX6_copyRow, Cond.code yX6_copyRow cX6_copyRow 3 none, Cond.methodLink RX6 98 yX6_at, Cond.static yX6_at, Cond.code yX6_at cX6_at 2 (some .int), Cond.methodLink RX4 48 yX5_become, Cond.instanceMethod yX5_become, Cond.selects RX5 yX5_become yX5_become, Cond.code yX5_become cX5_become 2 none, Cond.fieldLink RX5 23 "WallHeat$Warmth" "left" "I", Cond.fieldLink RX5 26 "WallHeat$Warmth" "right" "I", Cond.fieldLink RX5 29 "WallHeat$Warmth" "in" "I", Cond.fieldLink RX5 32 "WallHeat$Warmth" "out" "I", Cond.fieldLink RX5 35 "WallHeat$Warmth" "steps" "I", Cond.methodLink RX2 29 yX3_lookFrom, Cond.instanceMethod yX3_lookFrom, Cond.selects RX3 yX3_lookFrom yX3_lookFrom, Cond.code yX3_lookFrom cX3_lookFrom 2 none]
def wsL_law_r8 : List Cond := [Cond.fieldLink RX3 23 "WallHeat$Text" "from" "I", Cond.fieldLink RX3 30 "WallHeat$Text" "behind" "I", Cond.fieldLink RX3 33 "WallHeat$Text" "kind" "I", Cond.methodLink RX3 36 yX3_kindOf, Cond.static yX3_kindOf, Cond.code yX3_kindOf cX3_kindOf 1 (some .int), Cond.methodLink RX2 37 yX2_readClause, Cond.instanceMethod yX2_readClause, Cond.selects RX2 yX2_readClause yX2_readClause, Cond.code yX2_readClause cX2_readClause 1 (some .boolean), Cond.fieldLink RX2 62 "WallHeat$Wall" "stuffs" "I", Cond.methodLink RX2 55 yX2_takeWord, Cond.instanceMethod yX2_takeWord, Cond.selects RX2 yX2_takeWord yX2_takeWord, Cond.code yX2_takeWord cX2_takeWord 2 (some .boolean), Cond.methodLink RX2 139 yX3_isToken, Cond.instanceMethod yX3_isToken, Cond.selects RX3 yX3_isToken yX3_isToken, Cond.code yX3_isToken cX3_isToken 3 (some .boolean), Cond.methodLink RX3 40 yX3_tokenLength, Cond.instanceMethod yX3_tokenLength, Cond.selects RX3 yX3_tokenLength yX3_tokenLength, Cond.code yX3_tokenLength cX3_tokenLength 1 (some .int), Cond.methodLink RX3 44 yJ0_length_8abf5]
def wsL_law_r9 : List Cond := [Cond.instanceMethod yJ0_length_8abf5, Cond.selects RJ0 yJ0_length_8abf5 yJ0_length_8abf5, Cond.initialized RJ0, Cond.code yJ0_length_8abf5 cJ0_length_8abf5 1 (some .int), Cond.fieldLink RJ0 9 "java/lang/String" "value" "[B", Cond.methodLink RJ0 335 yJ0_coder_7d493, Cond.instanceMethod yJ0_coder_7d493, Cond.selects RJ0 yJ0_coder_7d493 yJ0_coder_7d493, Cond.code yJ0_coder_7d493 cJ0_coder_7d493 1 (some .byte), Cond.fieldLink RJ0 38 "java/lang/String" "COMPACT_STRINGS" "Z", Cond.fieldLink RJ0 15 "java/lang/String" "coder" "B", Cond.methodLink RX3 49 yJ0_charAt_5068e, Cond.instanceMethod yJ0_charAt_5068e, Cond.selects RJ0 yJ0_charAt_5068e yJ0_charAt_5068e, Cond.code yJ0_charAt_5068e cJ0_charAt_5068e 2 (some .char), Cond.methodLink RJ0 492 yJ0_isLatin1_aae02, Cond.instanceMethod yJ0_isLatin1_aae02, Cond.selects RJ0 yJ0_isLatin1_aae02 yJ0_isLatin1_aae02, Cond.code yJ0_isLatin1_aae02 cJ0_isLatin1_aae02 1 (some .boolean), Cond.methodLink RJ0 495 yJ1_charAt_3b067, Cond.static yJ1_charAt_3b067, Cond.initialized RJ1, Cond.code yJ1_charAt_3b067 cJ1_charAt_3b067 2 (some .char), Cond.methodLink RJ1 9 yJ0_checkIndex_df160]
def wsL_law_r10 : List Cond := [Cond.static yJ0_checkIndex_df160, Cond.code yJ0_checkIndex_df160 cJ0_checkIndex_df160 2 none, Cond.fieldLink RJ0 1053 "jdk/internal/util/Preconditions" "SIOOBE_FORMATTER" "Ljava/util/function/BiFunction;", Cond.methodLink RJ0 1059 yJ3_checkIndex_8e157, Cond.static yJ3_checkIndex_8e157, Cond.initialized RJ3, Cond.code yJ3_checkIndex_8e157 cJ3_checkIndex_8e157 3 (some .int), Cond.methodLink RJ0 498 yJ2_charAt_3b067, Cond.static yJ2_charAt_3b067, Cond.initialized RJ2, Cond.code yJ2_charAt_3b067 cJ2_charAt_3b067 2 (some .char), Cond.methodLink RJ2 67 yJ2_checkIndex_2214a, Cond.static yJ2_checkIndex_2214a, Cond.code yJ2_checkIndex_2214a cJ2_checkIndex_2214a 2 none, Cond.methodLink RJ2 48 yJ2_length_9d52b, Cond.static yJ2_length_9d52b, Cond.code yJ2_length_9d52b cJ2_length_9d52b 1 (some .int), Cond.methodLink RJ2 414 yJ0_checkIndex_df160, Cond.methodLink RJ2 71 yJ2_getChar_3b067, Cond.static yJ2_getChar_3b067, Cond.code yJ2_getChar_3b067 cJ2_getChar_3b067 2 (some .char), Cond.fieldLink RJ2 44 "java/lang/StringUTF16" "$assertionsDisabled" "Z", Cond.fieldLink RJ2 59 "java/lang/StringUTF16" "HI_BYTE_SHIFT" "I", Cond.fieldLink RJ2 63 "java/lang/StringUTF16" "LO_BYTE_SHIFT" "I"]
def wsL_law_r11 : List Cond := [Cond.methodLink RX2 59 yX2_readWall, Cond.instanceMethod yX2_readWall, Cond.selects RX2 yX2_readWall yX2_readWall, Cond.code yX2_readWall cX2_readWall 2 (some .boolean), Cond.methodLink RX2 85 yX2_takeNumber, Cond.instanceMethod yX2_takeNumber, Cond.selects RX2 yX2_takeNumber yX2_takeNumber, Cond.code yX2_takeNumber cX2_takeNumber 4 (some .int), Cond.methodLink RX2 142 yX3_number, Cond.instanceMethod yX3_number, Cond.selects RX3 yX3_number yX3_number, Cond.code yX3_number cX3_number 3 (some .int), Cond.methodLink RX2 89 yX4_clear, Cond.instanceMethod yX4_clear, Cond.selects RX4 yX4_clear yX4_clear, Cond.code yX4_clear cX4_clear 2 none, Cond.fieldLink RX4 52 "WallHeat$Warmth" "left" "I", Cond.fieldLink RX4 55 "WallHeat$Warmth" "right" "I", Cond.fieldLink RX4 58 "WallHeat$Warmth" "pace" "I", Cond.methodLink RX2 67 yX2_readStuff, Cond.instanceMethod yX2_readStuff, Cond.selects RX2 yX2_readStuff yX2_readStuff, Cond.code yX2_readStuff cX2_readStuff 3 (some .boolean), Cond.methodLink RX2 92 yX3_tokenLength]
def wsL_law_r12 : List Cond := [Cond.methodLink RX2 96 yX4_stuffNamed, Cond.instanceMethod yX4_stuffNamed, Cond.selects RX4 yX4_stuffNamed yX4_stuffNamed, Cond.code yX4_stuffNamed cX4_stuffNamed 5 (some .int), Cond.methodLink RX4 84 yX4_isNamed, Cond.instanceMethod yX4_isNamed, Cond.selects RX4 yX4_isNamed yX4_isNamed, Cond.code yX4_isNamed cX4_isNamed 9 (some .boolean), Cond.fieldLink RX4 75 "WallHeat$Text" "letters" "[I", Cond.methodLink RX2 100 yX4_nameNext, Cond.instanceMethod yX4_nameNext, Cond.selects RX4 yX4_nameNext yX4_nameNext, Cond.code yX4_nameNext cX4_nameNext 3 none, Cond.fieldLink RX4 78 "WallHeat$Text" "from" "I", Cond.methodLink RX4 65 yX3_tokenLength, Cond.methodLink RX2 104 yX4_addStuff, Cond.instanceMethod yX4_addStuff, Cond.selects RX4 yX4_addStuff yX4_addStuff, Cond.code yX4_addStuff cX4_addStuff 3 none, Cond.methodLink RX2 72 yX2_readLayer, Cond.instanceMethod yX2_readLayer, Cond.selects RX2 yX2_readLayer yX2_readLayer, Cond.code yX2_readLayer cX2_readLayer 3 (some .boolean), Cond.fieldLink RX2 108 "WallHeat$Wall" "cells" "I"]
def wsL_law_r13 : List Cond := [Cond.methodLink RX2 111 Lib.Math.min.name, Cond.static Lib.Math.min.name, Cond.initialized "java/lang/Math", Cond.code Lib.Math.min.name Lib.Math.min.code 2 (some .int), Cond.methodLink RX2 116 yX4_addCells, Cond.instanceMethod yX4_addCells, Cond.selects RX4 yX4_addCells yX4_addCells, Cond.code yX4_addCells cX4_addCells 4 none, Cond.fieldLink RX4 81 "WallHeat$Warmth" "heats" "[I", Cond.methodLink RX2 77 yX2_readAir, Cond.instanceMethod yX2_readAir, Cond.selects RX2 yX2_readAir yX2_readAir, Cond.code yX2_readAir cX2_readAir 3 (some .boolean), Cond.fieldLink RX2 119 "WallHeat$Wall" "now" "LWallHeat$Warmth;", Cond.fieldLink RX2 123 "WallHeat$Warmth" "left" "I", Cond.fieldLink RX2 128 "WallHeat$Warmth" "right" "I", Cond.methodLink RX2 82 yX2_readHeat, Cond.instanceMethod yX2_readHeat, Cond.selects RX2 yX2_readHeat yX2_readHeat, Cond.code yX2_readHeat cX2_readHeat 3 (some .boolean), Cond.fieldLink RX2 131 "WallHeat$Warmth" "heats" "[I", Cond.methodLink RX2 47 yX3_isSemicolon, Cond.instanceMethod yX3_isSemicolon, Cond.selects RX3 yX3_isSemicolon yX3_isSemicolon]
def wsL_law_r14 : List Cond := [Cond.code yX3_isSemicolon cX3_isSemicolon 1 (some .boolean), Cond.methodLink RL 26 yX7_fault, Cond.instanceMethod yX7_fault, Cond.selects RX7 yX7_fault yX7_fault, Cond.code yX7_fault cX7_fault 1 (some .int), Cond.fieldLink RX7 85 "WallHeatModel" "first" "I", Cond.methodLink RX7 152 yX7_reads, Cond.instanceMethod yX7_reads, Cond.selects RX7 yX7_reads yX7_reads, Cond.code yX7_reads cX7_reads 3 (some .boolean), Cond.fieldLink RX7 135 "WallHeatModel" "doing" "Z", Cond.fieldLink RX7 82 "WallHeatModel" "behind" "I", Cond.fieldLink RX7 143 "WallHeatModel" "clauses" "I", Cond.methodLink RX7 146 yX7_layTold, Cond.instanceMethod yX7_layTold, Cond.selects RX7 yX7_layTold yX7_layTold, Cond.code yX7_layTold cX7_layTold 2 none, Cond.fieldLink RX7 123 "WallHeatModel" "stuffs" "I", Cond.fieldLink RX7 98 "WallHeatModel" "readStuffs" "I", Cond.fieldLink RX7 126 "WallHeatModel" "cells" "I", Cond.fieldLink RX7 116 "WallHeatModel" "readCells" "I", Cond.methodLink RX7 95 yX7_nextToken, Cond.instanceMethod yX7_nextToken, Cond.selects RX7 yX7_nextToken yX7_nextToken]
def wsL_law_r15 : List Cond := [Cond.code yX7_nextToken cX7_nextToken 1 none, Cond.methodLink RX7 88 yX7_isSmall, Cond.static yX7_isSmall, Cond.code yX7_isSmall cX7_isSmall 1 (some .boolean), Cond.constantLong RX7 74 (97), Cond.constantLong RX7 76 (122), Cond.methodLink RX7 92 yX7_isDigit, Cond.static yX7_isDigit, Cond.code yX7_isDigit cX7_isDigit 1 (some .boolean), Cond.constantLong RX7 78 (48), Cond.constantLong RX7 80 (57), Cond.methodLink RX7 149 yX7_readsClause, Cond.instanceMethod yX7_readsClause, Cond.selects RX7 yX7_readsClause yX7_readsClause, Cond.code yX7_readsClause cX7_readsClause 2 (some .boolean), Cond.methodLink RX7 129 yX7_wordHere, Cond.instanceMethod yX7_wordHere, Cond.selects RX7 yX7_wordHere yX7_wordHere, Cond.code yX7_wordHere cX7_wordHere 4 (some .int), Cond.methodLink RX7 132 yX7_readsRest, Cond.instanceMethod yX7_readsRest, Cond.selects RX7 yX7_readsRest yX7_readsRest, Cond.code yX7_readsRest cX7_readsRest 2 (some .boolean), Cond.methodLink RX7 105 yX7_number]
def wsL_law_r16 : List Cond := [Cond.instanceMethod yX7_number, Cond.selects RX7 yX7_number yX7_number, Cond.code yX7_number cX7_number 6 (some .boolean), Cond.methodLink RX7 109 yX7_readsNewWord, Cond.instanceMethod yX7_readsNewWord, Cond.selects RX7 yX7_readsNewWord yX7_readsNewWord, Cond.code yX7_readsNewWord cX7_readsNewWord 2 (some .boolean), Cond.methodLink RX7 101 yX7_stuffHere, Cond.instanceMethod yX7_stuffHere, Cond.selects RX7 yX7_stuffHere yX7_stuffHere, Cond.code yX7_stuffHere cX7_stuffHere 4 (some .int), Cond.methodLink RX7 113 yX7_readsTold, Cond.instanceMethod yX7_readsTold, Cond.selects RX7 yX7_readsTold yX7_readsTold, Cond.code yX7_readsTold cX7_readsTold 2 (some .boolean), Cond.methodLink RX7 119 yX7_lesser, Cond.static yX7_lesser, Cond.code yX7_lesser cX7_lesser 2 (some .int), Cond.methodLink RX7 139 yX7_does, Cond.instanceMethod yX7_does, Cond.selects RX7 yX7_does yX7_does, Cond.code yX7_does cX7_does 3 none, Cond.methodLink RL 27 yX6_wall, Cond.instanceMethod yX6_wall]
def wsL_law_r17 : List Cond := [Cond.selects RX6 yX6_wall yX6_wall, Cond.code yX6_wall cX6_wall 2 (some .int), Cond.constant RX6 64 (-2000000003), Cond.fieldLink RX6 65 "WallHeat$Reader" "drawn" "LWallHeat$Wall;", Cond.fieldLink RX6 72 "WallHeat$Wall" "now" "LWallHeat$Warmth;", Cond.fieldLink RX6 82 "WallHeat$Reader" "clauses" "I", Cond.methodLink RX6 68 yX4_become, Cond.methodLink RX6 75 yX5_forget, Cond.instanceMethod yX5_forget, Cond.selects RX5 yX5_forget yX5_forget, Cond.code yX5_forget cX5_forget 1 none, Cond.methodLink RX6 78 yX1_forget, Cond.instanceMethod yX1_forget, Cond.selects RX1 yX1_forget yX1_forget, Cond.code yX1_forget cX1_forget 2 none, Cond.fieldLink RX1 25 "WallHeat$Past" "undoable" "I", Cond.methodLink RX6 79 yX6_missPage, Cond.instanceMethod yX6_missPage, Cond.selects RX6 yX6_missPage yX6_missPage, Cond.code yX6_missPage cX6_missPage 3 none, Cond.fieldLink RX6 216 "WallHeat$Book" "there" "Z", Cond.fieldLink RX6 220 "WallHeat$Book" "keys" "I", Cond.methodLink RX6 212 yX6_bookAt, Cond.instanceMethod yX6_bookAt]
def wsL_law_r18 : List Cond := [Cond.selects RX6 yX6_bookAt yX6_bookAt, Cond.code yX6_bookAt cX6_bookAt 2 (some (.object "WallHeat$Book")), Cond.methodLink RL 30 yX7_wall, Cond.instanceMethod yX7_wall, Cond.selects RX7 yX7_wall yX7_wall, Cond.code yX7_wall cX7_wall 2 (some .int), Cond.constant RX7 156 (-2000000003), Cond.fieldLink RX7 157 "WallHeatModel" "undos" "I", Cond.methodLink RL 31 yX6_find, Cond.instanceMethod yX6_find, Cond.selects RX6 yX6_find yX6_find, Cond.code yX6_find cX6_find 1 (some .int), Cond.methodLink RX6 85 yX4_stuffNamed, Cond.methodLink RL 34 yX7_find, Cond.instanceMethod yX7_find, Cond.selects RX7 yX7_find yX7_find, Cond.code yX7_find cX7_find 5 (some .int), Cond.methodLink RL 35 yX6_stuff, Cond.instanceMethod yX6_stuff, Cond.selects RX6 yX6_stuff yX6_stuff, Cond.code yX6_stuff cX6_stuff 3 (some .int), Cond.constant RX6 93 (-2000000001), Cond.fieldLink RX6 94 "WallHeat$Wall" "passes" "[I", Cond.fieldLink RX6 102 "WallHeat$Wall" "holds" "[I"]
def wsL_law_r19 : List Cond := [Cond.fieldLink RX6 105 "WallHeat$Wall" "lengths" "[I", Cond.methodLink RX6 89 yX4_isStuff, Cond.instanceMethod yX4_isStuff, Cond.selects RX4 yX4_isStuff yX4_isStuff, Cond.code yX4_isStuff cX4_isStuff 2 (some .boolean), Cond.methodLink RX6 108 yX4_cellsOf, Cond.instanceMethod yX4_cellsOf, Cond.selects RX4 yX4_cellsOf yX4_cellsOf, Cond.code yX4_cellsOf cX4_cellsOf 4 (some .int), Cond.methodLink RL 39 yX7_stuff, Cond.instanceMethod yX7_stuff, Cond.selects RX7 yX7_stuff yX7_stuff, Cond.code yX7_stuff cX7_stuff 3 (some .int), Cond.constant RX7 167 (-2000000001), Cond.methodLink RX7 164 yX7_isStuff, Cond.instanceMethod yX7_isStuff, Cond.selects RX7 yX7_isStuff yX7_isStuff, Cond.code yX7_isStuff cX7_isStuff 2 (some .boolean), Cond.methodLink RX7 168 yX7_cellsOf, Cond.instanceMethod yX7_cellsOf, Cond.selects RX7 yX7_cellsOf yX7_cellsOf, Cond.code yX7_cellsOf cX7_cellsOf 4 (some .int), Cond.methodLink RL 40 yX6_cell, Cond.instanceMethod yX6_cell]
def wsL_law_r20 : List Cond := [Cond.selects RX6 yX6_cell yX6_cell, Cond.code yX6_cell cX6_cell 4 (some .int), Cond.fieldLink RX6 115 "WallHeat$Warmth" "heats" "[I", Cond.fieldLink RX6 118 "WallHeat$Wall" "stuffOf" "[I", Cond.methodLink RX6 112 yX4_isCell, Cond.instanceMethod yX4_isCell, Cond.selects RX4 yX4_isCell yX4_isCell, Cond.code yX4_isCell cX4_isCell 2 (some .boolean), Cond.methodLink RX6 121 yX4_holdsAt, Cond.instanceMethod yX4_holdsAt, Cond.selects RX4 yX4_holdsAt yX4_holdsAt, Cond.code yX4_holdsAt cX4_holdsAt 2 (some .int), Cond.methodLink RX6 124 yX6_lowest, Cond.static yX6_lowest, Cond.code yX6_lowest cX6_lowest 5 (some .long), Cond.methodLink RX6 275 Lib.MathLoose.abs_long.x, Cond.static Lib.MathLoose.abs_long.x, Cond.code Lib.MathLoose.abs_long.x Lib.MathLoose.abs_long.code 2 (some .long), Cond.methodLink RX6 281 yX6_commonDivisor, Cond.static yX6_commonDivisor, Cond.code yX6_commonDivisor cX6_commonDivisor 11 (some .long), Cond.methodLink RX6 285 yX6_cut, Cond.static yX6_cut, Cond.code yX6_cut cX6_cut 4 (some .long)]
def wsL_law_r21 : List Cond := [Cond.methodLink RL 43 yX7_cell, Cond.instanceMethod yX7_cell, Cond.selects RX7 yX7_cell yX7_cell, Cond.code yX7_cell cX7_cell 3 (some .int), Cond.methodLink RX7 172 yX7_isCell, Cond.instanceMethod yX7_isCell, Cond.selects RX7 yX7_isCell yX7_isCell, Cond.code yX7_isCell cX7_isCell 2 (some .boolean), Cond.methodLink RX7 175 yX7_holdsOf, Cond.instanceMethod yX7_holdsOf, Cond.selects RX7 yX7_holdsOf yX7_holdsOf, Cond.code yX7_holdsOf cX7_holdsOf 2 (some .int), Cond.methodLink RX7 178 yX7_told, Cond.static yX7_told, Cond.code yX7_told cX7_told 7 (some .long), Cond.methodLink RX7 160 yX7_divisor, Cond.static yX7_divisor, Cond.code yX7_divisor cX7_divisor 10 (some .long), Cond.methodLink RL 44 yX6_rest, Cond.instanceMethod yX6_rest, Cond.selects RX6 yX6_rest yX6_rest, Cond.code yX6_rest cX6_rest 9 (some .long), Cond.constantLong RX6 128 (-2000000001), Cond.constantLong RX6 133 (-2000000002)]
def wsL_law_r22 : List Cond := [Cond.fieldLink RX6 143 "WallHeat$Warmth" "right" "I", Cond.fieldLink RX6 146 "WallHeat$Warmth" "left" "I", Cond.methodLink RX6 130 yX6_isPart, Cond.static yX6_isPart, Cond.code yX6_isPart cX6_isPart 1 (some .boolean), Cond.methodLink RX6 135 yX4_resistsRightOf, Cond.instanceMethod yX4_resistsRightOf, Cond.selects RX4 yX4_resistsRightOf yX4_resistsRightOf, Cond.code yX4_resistsRightOf cX4_resistsRightOf 5 (some .long), Cond.constantLong RX4 133 (2), Cond.methodLink RX4 135 yX4_passesAt, Cond.instanceMethod yX4_passesAt, Cond.selects RX4 yX4_passesAt yX4_passesAt, Cond.code yX4_passesAt cX4_passesAt 2 (some .int), Cond.static yX6_halfResists, Cond.code yX6_halfResists cX6_halfResists 1 (some .long), Cond.constantLong RX6 288 (232792560), Cond.methodLink RX6 139 yX4_resistsInAll, Cond.instanceMethod yX4_resistsInAll, Cond.selects RX4 yX4_resistsInAll yX4_resistsInAll, Cond.code yX4_resistsInAll cX4_resistsInAll 4 (some .long), Cond.methodLink RL 48 yX7_rest, Cond.instanceMethod yX7_rest, Cond.selects RX7 yX7_rest yX7_rest]
def wsL_law_r23 : List Cond := [Cond.code yX7_rest cX7_rest 10 (some .long), Cond.constantLong RX7 182 (-2000000001), Cond.constantLong RX7 184 (-2000000002), Cond.constantLong RX7 186 (465585120), Cond.constantLong RX7 191 (2), Cond.methodLink RX7 188 yX7_passesOf, Cond.instanceMethod yX7_passesOf, Cond.selects RX7 yX7_passesOf yX7_passesOf, Cond.code yX7_passesOf cX7_passesOf 2 (some .int), Cond.methodLink RL 49 yX6_step, Cond.instanceMethod yX6_step, Cond.selects RX6 yX6_step yX6_step, Cond.code yX6_step cX6_step 3 (some .int), Cond.fieldLink RX6 149 "WallHeat$Wall" "cells" "I", Cond.methodLink RX6 152 yX1_remember, Cond.instanceMethod yX1_remember, Cond.selects RX1 yX1_remember yX1_remember, Cond.code yX1_remember cX1_remember 3 none, Cond.fieldLink RX1 33 "WallHeat$Past" "top" "I", Cond.methodLink RX1 44 Lib.Math.min.name, Cond.methodLink RX1 36 yX1_slot, Cond.static yX1_slot, Cond.code yX1_slot cX1_slot 2 (some (.object "WallHeat$Warmth")), Cond.methodLink RX1 40 yX5_become]
def wsL_law_r24 : List Cond := [Cond.methodLink RX6 156 yX4_advance, Cond.instanceMethod yX4_advance, Cond.selects RX4 yX4_advance yX4_advance, Cond.code yX4_advance cX4_advance 3 (some .boolean), Cond.fieldLink RX4 99 "WallHeat$Warmth" "in" "I", Cond.fieldLink RX4 102 "WallHeat$Warmth" "out" "I", Cond.fieldLink RX4 105 "WallHeat$Warmth" "steps" "I", Cond.methodLink RX4 88 yX4_flowAt, Cond.instanceMethod yX4_flowAt, Cond.selects RX4 yX4_flowAt yX4_flowAt, Cond.code yX4_flowAt cX4_flowAt 9 (some .int), Cond.methodLink RX4 108 yX4_degreesBelow, Cond.instanceMethod yX4_degreesBelow, Cond.selects RX4 yX4_degreesBelow yX4_degreesBelow, Cond.code yX4_degreesBelow cX4_degreesBelow 2 (some .long), Cond.methodLink RX4 126 yX4_isCell, Cond.methodLink RX4 129 yX4_holdsAt, Cond.methodLink RX4 112 yX4_degreesAbove, Cond.instanceMethod yX4_degreesAbove, Cond.selects RX4 yX4_degreesAbove yX4_degreesAbove, Cond.code yX4_degreesAbove cX4_degreesAbove 3 (some .long), Cond.methodLink RX4 116 yX4_betweenAbove, Cond.instanceMethod yX4_betweenAbove, Cond.selects RX4 yX4_betweenAbove yX4_betweenAbove]
def wsL_law_r25 : List Cond := [Cond.code yX4_betweenAbove cX4_betweenAbove 2 (some .long), Cond.methodLink RX4 119 yX4_betweenBelow, Cond.instanceMethod yX4_betweenBelow, Cond.selects RX4 yX4_betweenBelow yX4_betweenBelow, Cond.code yX4_betweenBelow cX4_betweenBelow 2 (some .long), Cond.methodLink RX4 92 yX4_heatBehind, Cond.instanceMethod yX4_heatBehind, Cond.selects RX4 yX4_heatBehind yX4_heatBehind, Cond.code yX4_heatBehind cX4_heatBehind 3 (some .int), Cond.static yX6_isHeat, Cond.code yX6_isHeat cX6_isHeat 1 (some .boolean), Cond.methodLink RL 52 yX7_step, Cond.instanceMethod yX7_step, Cond.selects RX7 yX7_step yX7_step, Cond.code yX7_step cX7_step 3 (some .int), Cond.constantLong RX7 205 (50), Cond.methodLink RX7 207 yX7_keepPast, Cond.instanceMethod yX7_keepPast, Cond.selects RX7 yX7_keepPast yX7_keepPast, Cond.code yX7_keepPast cX7_keepPast 2 none, Cond.methodLink RX7 201 yX7_copyRow, Cond.instanceMethod yX7_copyRow, Cond.selects RX7 yX7_copyRow yX7_copyRow, Cond.code yX7_copyRow cX7_copyRow 4 none]
def wsL_law_r26 : List Cond := [Cond.methodLink RX7 210 yX7_steps, Cond.instanceMethod yX7_steps, Cond.selects RX7 yX7_steps yX7_steps, Cond.code yX7_steps cX7_steps 4 (some .boolean), Cond.constantLong RX7 196 (20000), Cond.methodLink RX7 193 yX7_flowAt, Cond.instanceMethod yX7_flowAt, Cond.selects RX7 yX7_flowAt yX7_flowAt, Cond.code yX7_flowAt cX7_flowAt 8 (some .int), Cond.methodLink RL 53 yX6_heat, Cond.instanceMethod yX6_heat, Cond.selects RX6 yX6_heat yX6_heat, Cond.code yX6_heat cX6_heat 4 (some .int), Cond.methodLink RX6 160 yX6_isHeat, Cond.methodLink RX6 163 yX6_set, Cond.methodLink RL 56 yX7_heat, Cond.instanceMethod yX7_heat, Cond.selects RX7 yX7_heat yX7_heat, Cond.code yX7_heat cX7_heat 4 (some .int), Cond.constantLong RX7 213 (-9999), Cond.constantLong RX7 215 (9999), Cond.methodLink RL 57 yX6_air, Cond.instanceMethod yX6_air, Cond.selects RX6 yX6_air yX6_air]
def wsL_law_r27 : List Cond := [Cond.code yX6_air cX6_air 4 (some .int), Cond.methodLink RX6 167 yX6_isDegrees, Cond.static yX6_isDegrees, Cond.code yX6_isDegrees cX6_isDegrees 1 (some .boolean), Cond.methodLink RL 60 yX7_air, Cond.instanceMethod yX7_air, Cond.selects RX7 yX7_air yX7_air, Cond.code yX7_air cX7_air 4 (some .int), Cond.constantLong RX7 217 (999), Cond.methodLink RL 61 yX6_pace, Cond.instanceMethod yX6_pace, Cond.selects RX6 yX6_pace yX6_pace, Cond.code yX6_pace cX6_pace 2 (some .int), Cond.fieldLink RX6 170 "WallHeat$Warmth" "pace" "I", Cond.methodLink RX6 173 yX4_safe, Cond.instanceMethod yX4_safe, Cond.selects RX4 yX4_safe yX4_safe, Cond.code yX4_safe cX4_safe 8 (some .int), Cond.methodLink RX4 138 Lib.MathLoose.max_long.x, Cond.static Lib.MathLoose.max_long.x, Cond.code Lib.MathLoose.max_long.x Lib.MathLoose.max_long.code 4 (some .long), Cond.methodLink RL 64 yX7_pace, Cond.instanceMethod yX7_pace, Cond.selects RX7 yX7_pace yX7_pace]
def wsL_law_r28 : List Cond := [Cond.code yX7_pace cX7_pace 2 (some .int), Cond.methodLink RX7 219 yX7_safe, Cond.instanceMethod yX7_safe, Cond.selects RX7 yX7_safe yX7_safe, Cond.code yX7_safe cX7_safe 3 (some .int), Cond.methodLink RX7 198 yX7_safeFor, Cond.instanceMethod yX7_safeFor, Cond.selects RX7 yX7_safeFor yX7_safeFor, Cond.code yX7_safeFor cX7_safeFor 7 (some .int), Cond.methodLink RL 65 yX6_undo, Cond.instanceMethod yX6_undo, Cond.selects RX6 yX6_undo yX6_undo, Cond.code yX6_undo cX6_undo 1 (some .int), Cond.fieldLink RX6 177 "WallHeat$Past" "undoable" "I", Cond.methodLink RX6 180 yX1_takeBack, Cond.instanceMethod yX1_takeBack, Cond.selects RX1 yX1_takeBack yX1_takeBack, Cond.code yX1_takeBack cX1_takeBack 4 none, Cond.methodLink RL 68 yX7_undo, Cond.instanceMethod yX7_undo, Cond.selects RX7 yX7_undo yX7_undo, Cond.code yX7_undo cX7_undo 1 (some .int), Cond.methodLink RL 69 yX6_keep, Cond.instanceMethod yX6_keep]
def wsL_law_r29 : List Cond := [Cond.selects RX6 yX6_keep yX6_keep, Cond.code yX6_keep cX6_keep 2 (some .int), Cond.methodLink RX6 183 yX1_store, Cond.instanceMethod yX1_store, Cond.selects RX1 yX1_store yX1_store, Cond.code yX1_store cX1_store 4 none, Cond.methodLink RX6 187 yX5_allHeat, Cond.instanceMethod yX5_allHeat, Cond.selects RX5 yX5_allHeat yX5_allHeat, Cond.code yX5_allHeat cX5_allHeat 2 (some .int), Cond.static yX6_total, Cond.code yX6_total cX6_total 4 (some .int), Cond.methodLink RL 72 yX7_keep, Cond.instanceMethod yX7_keep, Cond.selects RX7 yX7_keep yX7_keep, Cond.code yX7_keep cX7_keep 2 (some .int), Cond.methodLink RX7 222 yX7_allHeat, Cond.instanceMethod yX7_allHeat, Cond.selects RX7 yX7_allHeat yX7_allHeat, Cond.code yX7_allHeat cX7_allHeat 3 (some .int), Cond.methodLink RL 73 yX6_back, Cond.instanceMethod yX6_back, Cond.selects RX6 yX6_back yX6_back, Cond.code yX6_back cX6_back 2 (some .int)]
def wsL_law_r30 : List Cond := [Cond.methodLink RX6 190 yX1_isStored, Cond.instanceMethod yX1_isStored, Cond.selects RX1 yX1_isStored yX1_isStored, Cond.code yX1_isStored cX1_isStored 2 (some .boolean), Cond.methodLink RX6 193 yX1_restore, Cond.instanceMethod yX1_restore, Cond.selects RX1 yX1_restore yX1_restore, Cond.code yX1_restore cX1_restore 4 none, Cond.methodLink RL 76 yX7_back, Cond.instanceMethod yX7_back, Cond.selects RX7 yX7_back yX7_back, Cond.code yX7_back cX7_back 2 (some .int), Cond.methodLink RL 77 yX6_flow, Cond.instanceMethod yX6_flow, Cond.selects RX6 yX6_flow yX6_flow, Cond.code yX6_flow cX6_flow 2 (some .int), Cond.methodLink RX6 196 yX4_flowAt, Cond.methodLink RL 80 yX7_flow, Cond.instanceMethod yX7_flow, Cond.selects RX7 yX7_flow yX7_flow, Cond.code yX7_flow cX7_flow 2 (some .int), Cond.methodLink RL 81 yX6_until, Cond.instanceMethod yX6_until, Cond.selects RX6 yX6_until yX6_until]
def wsL_law_r31 : List Cond := [Cond.code yX6_until cX6_until 5 (some .int), Cond.methodLink RX6 200 yX5_become, Cond.methodLink RL 84 yX7_until, Cond.instanceMethod yX7_until, Cond.selects RX7 yX7_until yX7_until, Cond.code yX7_until cX7_until 5 (some .int), Cond.methodLink RL 85 yX6_resists, Cond.instanceMethod yX6_resists, Cond.selects RX6 yX6_resists yX6_resists, Cond.code yX6_resists cX6_resists 2 (some .int), Cond.constantLong RX6 202 (465585120), Cond.methodLink RL 88 yX7_resists, Cond.instanceMethod yX7_resists, Cond.selects RX7 yX7_resists yX7_resists, Cond.code yX7_resists cX7_resists 2 (some .int), Cond.constantLong RX7 225 (232792560), Cond.methodLink RX7 227 yX7_resistance, Cond.instanceMethod yX7_resistance, Cond.selects RX7 yX7_resistance yX7_resistance, Cond.code yX7_resistance cX7_resistance 6 (some .long), Cond.methodLink RL 89 yX6_swapped, Cond.instanceMethod yX6_swapped, Cond.selects RX6 yX6_swapped yX6_swapped, Cond.code yX6_swapped cX6_swapped 8 (some .int)]
def wsL_law_r32 : List Cond := [Cond.constantLong RX6 204 (2), Cond.methodLink RX6 206 yX4_passesAt, Cond.methodLink RX6 209 yX6_halfResists, Cond.methodLink RL 93 yX7_swapped, Cond.instanceMethod yX7_swapped, Cond.selects RX7 yX7_swapped yX7_swapped, Cond.code yX7_swapped cX7_swapped 4 (some .int), Cond.methodLink RL 94 yX6_gain, Cond.instanceMethod yX6_gain, Cond.selects RX6 yX6_gain yX6_gain, Cond.code yX6_gain cX6_gain 2 (some .int), Cond.methodLink RL 97 yX7_gain, Cond.instanceMethod yX7_gain, Cond.selects RX7 yX7_gain yX7_gain, Cond.code yX7_gain cX7_gain 2 (some .int), Cond.methodLink RL 98 yX6_page, Cond.instanceMethod yX6_page, Cond.selects RX6 yX6_page yX6_page, Cond.code yX6_page cX6_page 3 (some .int), Cond.methodLink RL 101 yX7_page, Cond.instanceMethod yX7_page, Cond.selects RX7 yX7_page yX7_page, Cond.code yX7_page cX7_page 2 (some .int), Cond.methodLink RX7 237 yX7_isPage]
def wsL_law_r33 : List Cond := [Cond.static yX7_isPage, Cond.code yX7_isPage cX7_isPage 1 (some .boolean), Cond.methodLink RL 102 yX6_put, Cond.instanceMethod yX6_put, Cond.selects RX6 yX6_put yX6_put, Cond.code yX6_put cX6_put 8 (some .int), Cond.constant RX6 227 (-2000000011), Cond.constant RX6 232 (-2000000013), Cond.fieldLink RX6 237 "WallHeat$Book" "values" "[I", Cond.methodLink RX6 223 yX6_isKey, Cond.static yX6_isKey, Cond.code yX6_isKey cX6_isKey 2 (some .boolean), Cond.methodLink RX6 228 yX0_placeOf, Cond.instanceMethod yX0_placeOf, Cond.selects RX0 yX0_placeOf yX0_placeOf, Cond.code yX0_placeOf cX0_placeOf 4 (some .int), Cond.fieldLink RX0 21 "WallHeat$Book" "keys" "I", Cond.methodLink RX6 233 yX0_enter, Cond.instanceMethod yX0_enter, Cond.selects RX0 yX0_enter yX0_enter, Cond.code yX0_enter cX0_enter 4 (some .int), Cond.methodLink RL 106 yX7_put, Cond.instanceMethod yX7_put, Cond.selects RX7 yX7_put yX7_put]
def wsL_law_r34 : List Cond := [Cond.code yX7_put cX7_put 7 (some .int), Cond.constantLong RX7 244 (-999), Cond.constant RX7 246 (-2000000011), Cond.constant RX7 251 (-2000000013), Cond.methodLink RX7 240 yX7_isKey, Cond.static yX7_isKey, Cond.code yX7_isKey cX7_isKey 2 (some .boolean), Cond.constantLong RX7 231 (25), Cond.constantLong RX7 233 (-99), Cond.constantLong RX7 235 (99), Cond.methodLink RX7 247 yX7_placeOf, Cond.instanceMethod yX7_placeOf, Cond.selects RX7 yX7_placeOf yX7_placeOf, Cond.code yX7_placeOf cX7_placeOf 5 (some .int), Cond.methodLink RL 107 yX6_get, Cond.instanceMethod yX6_get, Cond.selects RX6 yX6_get yX6_get, Cond.code yX6_get cX6_get 6 (some .int), Cond.constant RX6 240 (-2000000012), Cond.methodLink RL 110 yX7_get, Cond.instanceMethod yX7_get, Cond.selects RX7 yX7_get yX7_get, Cond.code yX7_get cX7_get 5 (some .int), Cond.constant RX7 252 (-2000000012)]
def wsL_law_r35 : List Cond := [Cond.methodLink RL 111 yX6_strike, Cond.instanceMethod yX6_strike, Cond.selects RX6 yX6_strike yX6_strike, Cond.code yX6_strike cX6_strike 6 (some .int), Cond.methodLink RX6 241 yX0_remove, Cond.instanceMethod yX0_remove, Cond.selects RX0 yX0_remove yX0_remove, Cond.code yX0_remove cX0_remove 3 (some .int), Cond.methodLink RL 114 yX7_strike, Cond.instanceMethod yX7_strike, Cond.selects RX7 yX7_strike yX7_strike, Cond.code yX7_strike cX7_strike 7 (some .int), Cond.methodLink RX7 253 yX7_get, Cond.methodLink RL 115 yX6_common, Cond.instanceMethod yX6_common, Cond.selects RX6 yX6_common yX6_common, Cond.code yX6_common cX6_common 5 (some .int), Cond.methodLink RX6 244 yX0_alikeWith, Cond.instanceMethod yX0_alikeWith, Cond.selects RX0 yX0_alikeWith yX0_alikeWith, Cond.code yX0_alikeWith cX0_alikeWith 5 (some .int), Cond.methodLink RX0 33 yX0_placeOf, Cond.methodLink RL 118 yX7_common, Cond.instanceMethod yX7_common]
def wsL_law_r36 : List Cond := [Cond.selects RX7 yX7_common yX7_common, Cond.code yX7_common cX7_common 6 (some .int), Cond.methodLink RL 119 yX6_sum, Cond.instanceMethod yX6_sum, Cond.selects RX6 yX6_sum yX6_sum, Cond.code yX6_sum cX6_sum 4 (some .int), Cond.fieldLink RX6 248 "WallHeat$Book" "numbers" "[I", Cond.methodLink RX6 251 yX6_total, Cond.methodLink RL 122 yX7_sum, Cond.instanceMethod yX7_sum, Cond.selects RX7 yX7_sum yX7_sum, Cond.code yX7_sum cX7_sum 5 (some .int), Cond.methodLink RL 123 yX6_drop, Cond.instanceMethod yX6_drop, Cond.selects RX6 yX6_drop yX6_drop, Cond.code yX6_drop cX6_drop 4 (some .int), Cond.methodLink RL 126 yX7_drop, Cond.instanceMethod yX7_drop, Cond.selects RX7 yX7_drop yX7_drop, Cond.code yX7_drop cX7_drop 3 (some .int), Cond.methodLink RL 127 yX6_count, Cond.instanceMethod yX6_count, Cond.selects RX6 yX6_count yX6_count, Cond.code yX6_count cX6_count 2 (some .int)]
def wsL_law_r37 : List Cond := [Cond.fieldLink RX6 254 "WallHeat$Wall" "stuffs" "I", Cond.fieldLink RX6 257 "WallHeat$Warmth" "in" "I", Cond.fieldLink RX6 260 "WallHeat$Warmth" "out" "I", Cond.fieldLink RX6 269 "WallHeat$Warmth" "steps" "I", Cond.methodLink RX6 263 yX4_mostOf, Cond.instanceMethod yX4_mostOf, Cond.selects RX4 yX4_mostOf yX4_mostOf, Cond.code yX4_mostOf cX4_mostOf 4 (some .int), Cond.methodLink RX4 146 yX4_compareDegrees, Cond.instanceMethod yX4_compareDegrees, Cond.selects RX4 yX4_compareDegrees yX4_compareDegrees, Cond.code yX4_compareDegrees cX4_compareDegrees 3 (some .int), Cond.methodLink RX4 150 yJ6_compare_7cf53, Cond.static yJ6_compare_7cf53, Cond.initialized RJ6, Cond.code yJ6_compare_7cf53 cJ6_compare_7cf53 2 (some .int), Cond.methodLink RX6 266 yX4_alikePairs, Cond.instanceMethod yX4_alikePairs, Cond.selects RX4 yX4_alikePairs yX4_alikePairs, Cond.code yX4_alikePairs cX4_alikePairs 4 (some .int), Cond.methodLink RX4 155 yX4_isAlike, Cond.instanceMethod yX4_isAlike, Cond.selects RX4 yX4_isAlike yX4_isAlike, Cond.code yX4_isAlike cX4_isAlike 3 (some .boolean)]
def wsL_law_r38 : List Cond := [Cond.methodLink RX6 272 yX6_keysOfAllPages, Cond.instanceMethod yX6_keysOfAllPages, Cond.selects RX6 yX6_keysOfAllPages yX6_keysOfAllPages, Cond.code yX6_keysOfAllPages cX6_keysOfAllPages 4 (some .int), Cond.methodLink RL 130 yX7_count, Cond.instanceMethod yX7_count, Cond.selects RX7 yX7_count yX7_count, Cond.code yX7_count cX7_count 2 (some .int), Cond.methodLink RX7 256 yX7_extreme, Cond.instanceMethod yX7_extreme, Cond.selects RX7 yX7_extreme yX7_extreme, Cond.code yX7_extreme cX7_extreme 6 (some .int), Cond.methodLink RX7 260 yX7_alike, Cond.instanceMethod yX7_alike, Cond.selects RX7 yX7_alike yX7_alike, Cond.code yX7_alike cX7_alike 4 (some .int), Cond.methodLink RX7 263 yX7_allKeys, Cond.instanceMethod yX7_allKeys, Cond.selects RX7 yX7_allKeys yX7_allKeys, Cond.code yX7_allKeys cX7_allKeys 3 (some .int)]
def wsL_law : List Cond := (wsL_law_r1 ++ (wsL_law_r2 ++ (wsL_law_r3 ++ (wsL_law_r4 ++ (wsL_law_r5 ++ (wsL_law_r6 ++ (wsL_law_r7 ++ (wsL_law_r8 ++ (wsL_law_r9 ++ (wsL_law_r10 ++ (wsL_law_r11 ++ (wsL_law_r12 ++ (wsL_law_r13 ++ (wsL_law_r14 ++ (wsL_law_r15 ++ (wsL_law_r16 ++ (wsL_law_r17 ++ (wsL_law_r18 ++ (wsL_law_r19 ++ (wsL_law_r20 ++ (wsL_law_r21 ++ (wsL_law_r22 ++ (wsL_law_r23 ++ (wsL_law_r24 ++ (wsL_law_r25 ++ (wsL_law_r26 ++ (wsL_law_r27 ++ (wsL_law_r28 ++ (wsL_law_r29 ++ (wsL_law_r30 ++ (wsL_law_r31 ++ (wsL_law_r32 ++ (wsL_law_r33 ++ (wsL_law_r34 ++ (wsL_law_r35 ++ (wsL_law_r36 ++ (wsL_law_r37 ++ wsL_law_r38))))))))))))))))))))))))))))))))))))) ++ wsX60 ++ wsX70 ++ wsX20 ++ wsX40 ++ wsX50 ++ wsX10 ++ wsX00 ++ wsX30 ++ ([] : List Cond)
theorem lwm_0 {w : Cond} (h : w ∈ k2_sels lw_privs) : w ∈ lw_tbl := List.mem_append_left _ h
theorem lwm_1 {w : Cond} (h : w ∈ tables_1_1) : w ∈ lw_tbl := List.mem_append_right _ (List.mem_append_left _ h)
theorem lwm_2 {w : Cond} (h : w ∈ tables_1_2) : w ∈ lw_tbl := List.mem_append_right _ (List.mem_append_right _ (List.mem_append_left _ h))
theorem lwm_3 {w : Cond} (h : w ∈ tables_1_3) : w ∈ lw_tbl := List.mem_append_right _ (List.mem_append_right _ (List.mem_append_right _ (List.mem_append_left _ h)))
theorem lwm_4 {w : Cond} (h : w ∈ tables_1_4) : w ∈ lw_tbl := List.mem_append_right _ (List.mem_append_right _ (List.mem_append_right _ (List.mem_append_right _ (List.mem_append_left _ h))))
theorem lwm_5 {w : Cond} (h : w ∈ tables_1_5) : w ∈ lw_tbl := List.mem_append_right _ (List.mem_append_right _ (List.mem_append_right _ (List.mem_append_right _ (List.mem_append_right _ h))))
set_option maxRecDepth 100000 in
theorem wsin_1 : ∀ w ∈ wsL_law_r1, w ∈ lw_tbl := List.forall_mem_cons.mpr ⟨lwm_1 (List.mem_of_getElem? (i := 15) rfl), List.forall_mem_cons.mpr ⟨lwm_1 (List.mem_of_getElem? (i := 16) rfl), List.forall_mem_cons.mpr ⟨lwm_1 (List.mem_of_getElem? (i := 1) rfl), List.forall_mem_cons.mpr ⟨lwm_3 (List.mem_of_getElem? (i := 239) rfl), List.forall_mem_cons.mpr ⟨lwm_4 (List.mem_of_getElem? (i := 0) rfl), List.forall_mem_cons.mpr ⟨lwm_1 (List.mem_of_getElem? (i := 8) rfl), List.forall_mem_cons.mpr ⟨lwm_1 (List.mem_of_getElem? (i := 17) rfl), List.forall_mem_cons.mpr ⟨lwm_1 (List.mem_of_getElem? (i := 18) rfl), List.forall_mem_cons.mpr ⟨lwm_1 (List.mem_of_getElem? (i := 19) rfl), List.forall_mem_cons.mpr ⟨lwm_1 (List.mem_of_getElem? (i := 20) rfl), List.forall_mem_cons.mpr ⟨lwm_1 (List.mem_of_getElem? (i := 21) rfl), List.forall_mem_cons.mpr ⟨lwm_1 (List.mem_of_getElem? (i := 22) rfl), List.forall_mem_cons.mpr ⟨lwm_1 (List.mem_of_getElem? (i := 23) rfl), List.forall_mem_cons.mpr ⟨lwm_1 (List.mem_of_getElem? (i := 24) rfl), List.forall_mem_cons.mpr ⟨lwm_1 (List.mem_of_getElem? (i := 2) rfl), List.forall_mem_cons.mpr ⟨lwm_1 (List.mem_of_getElem? (i := 216) rfl), List.forall_mem_cons.mpr ⟨lwm_1 (List.mem_of_getElem? (i := 160) rfl), List.forall_mem_cons.mpr ⟨lwm_1 (List.mem_of_getElem? (i := 59) rfl), List.forall_mem_cons.mpr ⟨lwm_1 (List.mem_of_getElem? (i := 4) rfl), List.forall_mem_cons.mpr ⟨lwm_1 (List.mem_of_getElem? (i := 217) rfl), List.forall_mem_cons.mpr ⟨lwm_1 (List.mem_of_getElem? (i := 162) rfl), List.forall_mem_cons.mpr ⟨lwm_1 (List.mem_of_getElem? (i := 65) rfl), List.forall_mem_cons.mpr ⟨lwm_1 (List.mem_of_getElem? (i := 5) rfl), List.forall_mem_cons.mpr ⟨lwm_1 (List.mem_of_getElem? (i := 218) rfl), fun _ h => absurd h List.not_mem_nil⟩⟩⟩⟩⟩⟩⟩⟩⟩⟩⟩⟩⟩⟩⟩⟩⟩⟩⟩⟩⟩⟩⟩⟩
set_option maxRecDepth 100000 in
theorem wsin_2 : ∀ w ∈ wsL_law_r2, w ∈ lw_tbl := List.forall_mem_cons.mpr ⟨lwm_1 (List.mem_of_getElem? (i := 164) rfl), List.forall_mem_cons.mpr ⟨lwm_1 (List.mem_of_getElem? (i := 165) rfl), List.forall_mem_cons.mpr ⟨lwm_1 (List.mem_of_getElem? (i := 6) rfl), List.forall_mem_cons.mpr ⟨lwm_1 (List.mem_of_getElem? (i := 219) rfl), List.forall_mem_cons.mpr ⟨lwm_1 (List.mem_of_getElem? (i := 190) rfl), List.forall_mem_cons.mpr ⟨lwm_1 (List.mem_of_getElem? (i := 220) rfl), List.forall_mem_cons.mpr ⟨lwm_1 (List.mem_of_getElem? (i := 192) rfl), List.forall_mem_cons.mpr ⟨lwm_1 (List.mem_of_getElem? (i := 7) rfl), List.forall_mem_cons.mpr ⟨lwm_1 (List.mem_of_getElem? (i := 26) rfl), List.forall_mem_cons.mpr ⟨lwm_1 (List.mem_of_getElem? (i := 27) rfl), List.forall_mem_cons.mpr ⟨lwm_1 (List.mem_of_getElem? (i := 28) rfl), List.forall_mem_cons.mpr ⟨lwm_1 (List.mem_of_getElem? (i := 29) rfl), List.forall_mem_cons.mpr ⟨lwm_1 (List.mem_of_getElem? (i := 30) rfl), List.forall_mem_cons.mpr ⟨lwm_1 (List.mem_of_getElem? (i := 3) rfl), List.forall_mem_cons.mpr ⟨lwm_1 (List.mem_of_getElem? (i := 147) rfl), List.forall_mem_cons.mpr ⟨lwm_1 (List.mem_of_getElem? (i := 58) rfl), List.forall_mem_cons.mpr ⟨lwm_1 (List.mem_of_getElem? (i := 149) rfl), List.forall_mem_cons.mpr ⟨lwm_1 (List.mem_of_getElem? (i := 32) rfl), List.forall_mem_cons.mpr ⟨lwm_1 (List.mem_of_getElem? (i := 33) rfl), List.forall_mem_cons.mpr ⟨lwm_1 (List.mem_of_getElem? (i := 34) rfl), List.forall_mem_cons.mpr ⟨lwm_1 (List.mem_of_getElem? (i := 57) rfl), List.forall_mem_cons.mpr ⟨lwm_1 (List.mem_of_getElem? (i := 35) rfl), List.forall_mem_cons.mpr ⟨lwm_1 (List.mem_of_getElem? (i := 61) rfl), List.forall_mem_cons.mpr ⟨lwm_1 (List.mem_of_getElem? (i := 62) rfl), fun _ h => absurd h List.not_mem_nil⟩⟩⟩⟩⟩⟩⟩⟩⟩⟩⟩⟩⟩⟩⟩⟩⟩⟩⟩⟩⟩⟩⟩⟩
set_option maxRecDepth 100000 in
theorem wsin_3 : ∀ w ∈ wsL_law_r3, w ∈ lw_tbl := List.forall_mem_cons.mpr ⟨lwm_1 (List.mem_of_getElem? (i := 63) rfl), List.forall_mem_cons.mpr ⟨lwm_1 (List.mem_of_getElem? (i := 112) rfl), List.forall_mem_cons.mpr ⟨lwm_1 (List.mem_of_getElem? (i := 113) rfl), List.forall_mem_cons.mpr ⟨lwm_1 (List.mem_of_getElem? (i := 115) rfl), List.forall_mem_cons.mpr ⟨lwm_1 (List.mem_of_getElem? (i := 117) rfl), List.forall_mem_cons.mpr ⟨lwm_1 (List.mem_of_getElem? (i := 122) rfl), List.forall_mem_cons.mpr ⟨lwm_1 (List.mem_of_getElem? (i := 64) rfl), List.forall_mem_cons.mpr ⟨lwm_1 (List.mem_of_getElem? (i := 124) rfl), List.forall_mem_cons.mpr ⟨lwm_1 (List.mem_of_getElem? (i := 127) rfl), List.forall_mem_cons.mpr ⟨lwm_1 (List.mem_of_getElem? (i := 67) rfl), List.forall_mem_cons.mpr ⟨lwm_1 (List.mem_of_getElem? (i := 68) rfl), List.forall_mem_cons.mpr ⟨lwm_1 (List.mem_of_getElem? (i := 69) rfl), List.forall_mem_cons.mpr ⟨lwm_1 (List.mem_of_getElem? (i := 70) rfl), List.forall_mem_cons.mpr ⟨lwm_1 (List.mem_of_getElem? (i := 82) rfl), List.forall_mem_cons.mpr ⟨lwm_1 (List.mem_of_getElem? (i := 166) rfl), List.forall_mem_cons.mpr ⟨lwm_1 (List.mem_of_getElem? (i := 167) rfl), List.forall_mem_cons.mpr ⟨lwm_1 (List.mem_of_getElem? (i := 168) rfl), List.forall_mem_cons.mpr ⟨lwm_1 (List.mem_of_getElem? (i := 169) rfl), List.forall_mem_cons.mpr ⟨lwm_1 (List.mem_of_getElem? (i := 170) rfl), List.forall_mem_cons.mpr ⟨lwm_1 (List.mem_of_getElem? (i := 173) rfl), List.forall_mem_cons.mpr ⟨lwm_1 (List.mem_of_getElem? (i := 174) rfl), List.forall_mem_cons.mpr ⟨lwm_1 (List.mem_of_getElem? (i := 175) rfl), List.forall_mem_cons.mpr ⟨lwm_1 (List.mem_of_getElem? (i := 194) rfl), List.forall_mem_cons.mpr ⟨lwm_1 (List.mem_of_getElem? (i := 195) rfl), fun _ h => absurd h List.not_mem_nil⟩⟩⟩⟩⟩⟩⟩⟩⟩⟩⟩⟩⟩⟩⟩⟩⟩⟩⟩⟩⟩⟩⟩⟩
set_option maxRecDepth 100000 in
theorem wsin_4 : ∀ w ∈ wsL_law_r4, w ∈ lw_tbl := List.forall_mem_cons.mpr ⟨lwm_1 (List.mem_of_getElem? (i := 196) rfl), List.forall_mem_cons.mpr ⟨lwm_1 (List.mem_of_getElem? (i := 200) rfl), List.forall_mem_cons.mpr ⟨lwm_1 (List.mem_of_getElem? (i := 201) rfl), List.forall_mem_cons.mpr ⟨lwm_1 (List.mem_of_getElem? (i := 203) rfl), List.forall_mem_cons.mpr ⟨lwm_4 (List.mem_of_getElem? (i := 1) rfl), List.forall_mem_cons.mpr ⟨lwm_4 (List.mem_of_getElem? (i := 2) rfl), List.forall_mem_cons.mpr ⟨lwm_4 (List.mem_of_getElem? (i := 3) rfl), List.forall_mem_cons.mpr ⟨lwm_4 (List.mem_of_getElem? (i := 4) rfl), List.forall_mem_cons.mpr ⟨lwm_4 (List.mem_of_getElem? (i := 5) rfl), List.forall_mem_cons.mpr ⟨lwm_4 (List.mem_of_getElem? (i := 7) rfl), List.forall_mem_cons.mpr ⟨lwm_4 (List.mem_of_getElem? (i := 8) rfl), List.forall_mem_cons.mpr ⟨lwm_4 (List.mem_of_getElem? (i := 9) rfl), List.forall_mem_cons.mpr ⟨lwm_4 (List.mem_of_getElem? (i := 10) rfl), List.forall_mem_cons.mpr ⟨lwm_4 (List.mem_of_getElem? (i := 12) rfl), List.forall_mem_cons.mpr ⟨lwm_4 (List.mem_of_getElem? (i := 87) rfl), List.forall_mem_cons.mpr ⟨lwm_4 (List.mem_of_getElem? (i := 14) rfl), List.forall_mem_cons.mpr ⟨lwm_4 (List.mem_of_getElem? (i := 15) rfl), List.forall_mem_cons.mpr ⟨lwm_4 (List.mem_of_getElem? (i := 17) rfl), List.forall_mem_cons.mpr ⟨lwm_4 (List.mem_of_getElem? (i := 18) rfl), List.forall_mem_cons.mpr ⟨lwm_4 (List.mem_of_getElem? (i := 19) rfl), List.forall_mem_cons.mpr ⟨lwm_4 (List.mem_of_getElem? (i := 20) rfl), List.forall_mem_cons.mpr ⟨lwm_4 (List.mem_of_getElem? (i := 25) rfl), List.forall_mem_cons.mpr ⟨lwm_4 (List.mem_of_getElem? (i := 26) rfl), List.forall_mem_cons.mpr ⟨lwm_4 (List.mem_of_getElem? (i := 29) rfl), fun _ h => absurd h List.not_mem_nil⟩⟩⟩⟩⟩⟩⟩⟩⟩⟩⟩⟩⟩⟩⟩⟩⟩⟩⟩⟩⟩⟩⟩⟩
set_option maxRecDepth 100000 in
theorem wsin_5 : ∀ w ∈ wsL_law_r5, w ∈ lw_tbl := List.forall_mem_cons.mpr ⟨lwm_4 (List.mem_of_getElem? (i := 30) rfl), List.forall_mem_cons.mpr ⟨lwm_4 (List.mem_of_getElem? (i := 31) rfl), List.forall_mem_cons.mpr ⟨lwm_1 (List.mem_of_getElem? (i := 232) rfl), List.forall_mem_cons.mpr ⟨lwm_1 (List.mem_of_getElem? (i := 233) rfl), List.forall_mem_cons.mpr ⟨lwm_1 (List.mem_of_getElem? (i := 234) rfl), List.forall_mem_cons.mpr ⟨lwm_1 (List.mem_of_getElem? (i := 235) rfl), List.forall_mem_cons.mpr ⟨lwm_1 (List.mem_of_getElem? (i := 236) rfl), List.forall_mem_cons.mpr ⟨lwm_1 (List.mem_of_getElem? (i := 148) rfl), List.forall_mem_cons.mpr ⟨lwm_1 (List.mem_of_getElem? (i := 38) rfl), List.forall_mem_cons.mpr ⟨lwm_1 (List.mem_of_getElem? (i := 237) rfl), List.forall_mem_cons.mpr ⟨lwm_1 (List.mem_of_getElem? (i := 238) rfl), List.forall_mem_cons.mpr ⟨lwm_1 (List.mem_of_getElem? (i := 239) rfl), List.forall_mem_cons.mpr ⟨lwm_2 (List.mem_of_getElem? (i := 0) rfl), List.forall_mem_cons.mpr ⟨lwm_2 (List.mem_of_getElem? (i := 1) rfl), List.forall_mem_cons.mpr ⟨lwm_1 (List.mem_of_getElem? (i := 37) rfl), List.forall_mem_cons.mpr ⟨lwm_2 (List.mem_of_getElem? (i := 3) rfl), List.forall_mem_cons.mpr ⟨lwm_2 (List.mem_of_getElem? (i := 4) rfl), List.forall_mem_cons.mpr ⟨lwm_4 (List.mem_of_getElem? (i := 88) rfl), List.forall_mem_cons.mpr ⟨lwm_4 (List.mem_of_getElem? (i := 89) rfl), List.forall_mem_cons.mpr ⟨lwm_4 (List.mem_of_getElem? (i := 90) rfl), List.forall_mem_cons.mpr ⟨lwm_4 (List.mem_of_getElem? (i := 91) rfl), List.forall_mem_cons.mpr ⟨lwm_4 (List.mem_of_getElem? (i := 92) rfl), List.forall_mem_cons.mpr ⟨lwm_4 (List.mem_of_getElem? (i := 96) rfl), List.forall_mem_cons.mpr ⟨lwm_4 (List.mem_of_getElem? (i := 16) rfl), fun _ h => absurd h List.not_mem_nil⟩⟩⟩⟩⟩⟩⟩⟩⟩⟩⟩⟩⟩⟩⟩⟩⟩⟩⟩⟩⟩⟩⟩⟩
set_option maxRecDepth 100000 in
theorem wsin_6 : ∀ w ∈ wsL_law_r6, w ∈ lw_tbl := List.forall_mem_cons.mpr ⟨lwm_4 (List.mem_of_getElem? (i := 97) rfl), List.forall_mem_cons.mpr ⟨lwm_4 (List.mem_of_getElem? (i := 93) rfl), List.forall_mem_cons.mpr ⟨lwm_4 (List.mem_of_getElem? (i := 94) rfl), List.forall_mem_cons.mpr ⟨lwm_4 (List.mem_of_getElem? (i := 95) rfl), List.forall_mem_cons.mpr ⟨lwm_2 (List.mem_of_getElem? (i := 5) rfl), List.forall_mem_cons.mpr ⟨lwm_2 (List.mem_of_getElem? (i := 6) rfl), List.forall_mem_cons.mpr ⟨lwm_2 (List.mem_of_getElem? (i := 7) rfl), List.forall_mem_cons.mpr ⟨lwm_2 (List.mem_of_getElem? (i := 8) rfl), List.forall_mem_cons.mpr ⟨lwm_4 (List.mem_of_getElem? (i := 98) rfl), List.forall_mem_cons.mpr ⟨lwm_4 (List.mem_of_getElem? (i := 99) rfl), List.forall_mem_cons.mpr ⟨lwm_4 (List.mem_of_getElem? (i := 100) rfl), List.forall_mem_cons.mpr ⟨lwm_4 (List.mem_of_getElem? (i := 101) rfl), List.forall_mem_cons.mpr ⟨lwm_2 (List.mem_of_getElem? (i := 9) rfl), List.forall_mem_cons.mpr ⟨lwm_2 (List.mem_of_getElem? (i := 10) rfl), List.forall_mem_cons.mpr ⟨lwm_2 (List.mem_of_getElem? (i := 11) rfl), List.forall_mem_cons.mpr ⟨lwm_2 (List.mem_of_getElem? (i := 12) rfl), List.forall_mem_cons.mpr ⟨lwm_2 (List.mem_of_getElem? (i := 13) rfl), List.forall_mem_cons.mpr ⟨lwm_2 (List.mem_of_getElem? (i := 14) rfl), List.forall_mem_cons.mpr ⟨lwm_2 (List.mem_of_getElem? (i := 15) rfl), List.forall_mem_cons.mpr ⟨lwm_2 (List.mem_of_getElem? (i := 16) rfl), List.forall_mem_cons.mpr ⟨lwm_1 (List.mem_of_getElem? (i := 151) rfl), List.forall_mem_cons.mpr ⟨lwm_1 (List.mem_of_getElem? (i := 39) rfl), List.forall_mem_cons.mpr ⟨lwm_1 (List.mem_of_getElem? (i := 44) rfl), List.forall_mem_cons.mpr ⟨lwm_1 (List.mem_of_getElem? (i := 42) rfl), fun _ h => absurd h List.not_mem_nil⟩⟩⟩⟩⟩⟩⟩⟩⟩⟩⟩⟩⟩⟩⟩⟩⟩⟩⟩⟩⟩⟩⟩⟩
set_option maxRecDepth 100000 in
theorem wsin_7 : ∀ w ∈ wsL_law_r7, w ∈ lw_tbl := List.forall_mem_cons.mpr ⟨lwm_2 (List.mem_of_getElem? (i := 17) rfl), List.forall_mem_cons.mpr ⟨lwm_2 (List.mem_of_getElem? (i := 18) rfl), List.forall_mem_cons.mpr ⟨lwm_2 (List.mem_of_getElem? (i := 19) rfl), List.forall_mem_cons.mpr ⟨lwm_2 (List.mem_of_getElem? (i := 20) rfl), List.forall_mem_cons.mpr ⟨lwm_1 (List.mem_of_getElem? (i := 109) rfl), List.forall_mem_cons.mpr ⟨lwm_1 (List.mem_of_getElem? (i := 119) rfl), List.forall_mem_cons.mpr ⟨lwm_2 (List.mem_of_getElem? (i := 22) rfl), List.forall_mem_cons.mpr ⟨lwm_2 (List.mem_of_getElem? (i := 23) rfl), List.forall_mem_cons.mpr ⟨lwm_2 (List.mem_of_getElem? (i := 24) rfl), List.forall_mem_cons.mpr ⟨lwm_2 (List.mem_of_getElem? (i := 25) rfl), List.forall_mem_cons.mpr ⟨lwm_2 (List.mem_of_getElem? (i := 26) rfl), List.forall_mem_cons.mpr ⟨lwm_2 (List.mem_of_getElem? (i := 27) rfl), List.forall_mem_cons.mpr ⟨lwm_2 (List.mem_of_getElem? (i := 28) rfl), List.forall_mem_cons.mpr ⟨lwm_2 (List.mem_of_getElem? (i := 29) rfl), List.forall_mem_cons.mpr ⟨lwm_2 (List.mem_of_getElem? (i := 30) rfl), List.forall_mem_cons.mpr ⟨lwm_1 (List.mem_of_getElem? (i := 74) rfl), List.forall_mem_cons.mpr ⟨lwm_1 (List.mem_of_getElem? (i := 78) rfl), List.forall_mem_cons.mpr ⟨lwm_1 (List.mem_of_getElem? (i := 85) rfl), List.forall_mem_cons.mpr ⟨lwm_1 (List.mem_of_getElem? (i := 88) rfl), List.forall_mem_cons.mpr ⟨lwm_1 (List.mem_of_getElem? (i := 91) rfl), List.forall_mem_cons.mpr ⟨lwm_2 (List.mem_of_getElem? (i := 32) rfl), List.forall_mem_cons.mpr ⟨lwm_2 (List.mem_of_getElem? (i := 33) rfl), List.forall_mem_cons.mpr ⟨lwm_2 (List.mem_of_getElem? (i := 34) rfl), List.forall_mem_cons.mpr ⟨lwm_2 (List.mem_of_getElem? (i := 35) rfl), fun _ h => absurd h List.not_mem_nil⟩⟩⟩⟩⟩⟩⟩⟩⟩⟩⟩⟩⟩⟩⟩⟩⟩⟩⟩⟩⟩⟩⟩⟩
set_option maxRecDepth 100000 in
theorem wsin_8 : ∀ w ∈ wsL_law_r8, w ∈ lw_tbl := List.forall_mem_cons.mpr ⟨lwm_1 (List.mem_of_getElem? (i := 40) rfl), List.forall_mem_cons.mpr ⟨lwm_1 (List.mem_of_getElem? (i := 43) rfl), List.forall_mem_cons.mpr ⟨lwm_1 (List.mem_of_getElem? (i := 45) rfl), List.forall_mem_cons.mpr ⟨lwm_2 (List.mem_of_getElem? (i := 37) rfl), List.forall_mem_cons.mpr ⟨lwm_2 (List.mem_of_getElem? (i := 38) rfl), List.forall_mem_cons.mpr ⟨lwm_2 (List.mem_of_getElem? (i := 39) rfl), List.forall_mem_cons.mpr ⟨lwm_2 (List.mem_of_getElem? (i := 40) rfl), List.forall_mem_cons.mpr ⟨lwm_2 (List.mem_of_getElem? (i := 42) rfl), List.forall_mem_cons.mpr ⟨lwm_0 (List.mem_of_getElem? (i := 0) rfl), List.forall_mem_cons.mpr ⟨lwm_2 (List.mem_of_getElem? (i := 43) rfl), List.forall_mem_cons.mpr ⟨lwm_1 (List.mem_of_getElem? (i := 110) rfl), List.forall_mem_cons.mpr ⟨lwm_2 (List.mem_of_getElem? (i := 45) rfl), List.forall_mem_cons.mpr ⟨lwm_2 (List.mem_of_getElem? (i := 47) rfl), List.forall_mem_cons.mpr ⟨lwm_0 (List.mem_of_getElem? (i := 1) rfl), List.forall_mem_cons.mpr ⟨lwm_2 (List.mem_of_getElem? (i := 48) rfl), List.forall_mem_cons.mpr ⟨lwm_2 (List.mem_of_getElem? (i := 49) rfl), List.forall_mem_cons.mpr ⟨lwm_2 (List.mem_of_getElem? (i := 50) rfl), List.forall_mem_cons.mpr ⟨lwm_2 (List.mem_of_getElem? (i := 51) rfl), List.forall_mem_cons.mpr ⟨lwm_2 (List.mem_of_getElem? (i := 52) rfl), List.forall_mem_cons.mpr ⟨lwm_2 (List.mem_of_getElem? (i := 53) rfl), List.forall_mem_cons.mpr ⟨lwm_2 (List.mem_of_getElem? (i := 54) rfl), List.forall_mem_cons.mpr ⟨lwm_2 (List.mem_of_getElem? (i := 55) rfl), List.forall_mem_cons.mpr ⟨lwm_2 (List.mem_of_getElem? (i := 56) rfl), List.forall_mem_cons.mpr ⟨lwm_2 (List.mem_of_getElem? (i := 57) rfl), fun _ h => absurd h List.not_mem_nil⟩⟩⟩⟩⟩⟩⟩⟩⟩⟩⟩⟩⟩⟩⟩⟩⟩⟩⟩⟩⟩⟩⟩⟩
set_option maxRecDepth 100000 in
theorem wsin_9 : ∀ w ∈ wsL_law_r9, w ∈ lw_tbl := List.forall_mem_cons.mpr ⟨lwm_2 (List.mem_of_getElem? (i := 58) rfl), List.forall_mem_cons.mpr ⟨lwm_2 (List.mem_of_getElem? (i := 59) rfl), List.forall_mem_cons.mpr ⟨lwm_1 (List.mem_of_getElem? (i := 9) rfl), List.forall_mem_cons.mpr ⟨lwm_2 (List.mem_of_getElem? (i := 60) rfl), List.forall_mem_cons.mpr ⟨lwm_5 (List.mem_of_getElem? (i := 123) rfl), List.forall_mem_cons.mpr ⟨lwm_2 (List.mem_of_getElem? (i := 61) rfl), List.forall_mem_cons.mpr ⟨lwm_2 (List.mem_of_getElem? (i := 62) rfl), List.forall_mem_cons.mpr ⟨lwm_2 (List.mem_of_getElem? (i := 63) rfl), List.forall_mem_cons.mpr ⟨lwm_2 (List.mem_of_getElem? (i := 64) rfl), List.forall_mem_cons.mpr ⟨lwm_2 (List.mem_of_getElem? (i := 65) rfl), List.forall_mem_cons.mpr ⟨lwm_5 (List.mem_of_getElem? (i := 124) rfl), List.forall_mem_cons.mpr ⟨lwm_2 (List.mem_of_getElem? (i := 67) rfl), List.forall_mem_cons.mpr ⟨lwm_2 (List.mem_of_getElem? (i := 68) rfl), List.forall_mem_cons.mpr ⟨lwm_2 (List.mem_of_getElem? (i := 69) rfl), List.forall_mem_cons.mpr ⟨lwm_2 (List.mem_of_getElem? (i := 70) rfl), List.forall_mem_cons.mpr ⟨lwm_2 (List.mem_of_getElem? (i := 71) rfl), List.forall_mem_cons.mpr ⟨lwm_2 (List.mem_of_getElem? (i := 72) rfl), List.forall_mem_cons.mpr ⟨lwm_2 (List.mem_of_getElem? (i := 73) rfl), List.forall_mem_cons.mpr ⟨lwm_2 (List.mem_of_getElem? (i := 74) rfl), List.forall_mem_cons.mpr ⟨lwm_2 (List.mem_of_getElem? (i := 75) rfl), List.forall_mem_cons.mpr ⟨lwm_2 (List.mem_of_getElem? (i := 76) rfl), List.forall_mem_cons.mpr ⟨lwm_1 (List.mem_of_getElem? (i := 10) rfl), List.forall_mem_cons.mpr ⟨lwm_2 (List.mem_of_getElem? (i := 77) rfl), List.forall_mem_cons.mpr ⟨lwm_2 (List.mem_of_getElem? (i := 78) rfl), fun _ h => absurd h List.not_mem_nil⟩⟩⟩⟩⟩⟩⟩⟩⟩⟩⟩⟩⟩⟩⟩⟩⟩⟩⟩⟩⟩⟩⟩⟩
set_option maxRecDepth 100000 in
theorem wsin_10 : ∀ w ∈ wsL_law_r10, w ∈ lw_tbl := List.forall_mem_cons.mpr ⟨lwm_2 (List.mem_of_getElem? (i := 79) rfl), List.forall_mem_cons.mpr ⟨lwm_2 (List.mem_of_getElem? (i := 80) rfl), List.forall_mem_cons.mpr ⟨lwm_2 (List.mem_of_getElem? (i := 81) rfl), List.forall_mem_cons.mpr ⟨lwm_2 (List.mem_of_getElem? (i := 83) rfl), List.forall_mem_cons.mpr ⟨lwm_2 (List.mem_of_getElem? (i := 84) rfl), List.forall_mem_cons.mpr ⟨lwm_1 (List.mem_of_getElem? (i := 11) rfl), List.forall_mem_cons.mpr ⟨lwm_2 (List.mem_of_getElem? (i := 85) rfl), List.forall_mem_cons.mpr ⟨lwm_2 (List.mem_of_getElem? (i := 86) rfl), List.forall_mem_cons.mpr ⟨lwm_2 (List.mem_of_getElem? (i := 87) rfl), List.forall_mem_cons.mpr ⟨lwm_1 (List.mem_of_getElem? (i := 12) rfl), List.forall_mem_cons.mpr ⟨lwm_2 (List.mem_of_getElem? (i := 88) rfl), List.forall_mem_cons.mpr ⟨lwm_2 (List.mem_of_getElem? (i := 89) rfl), List.forall_mem_cons.mpr ⟨lwm_2 (List.mem_of_getElem? (i := 90) rfl), List.forall_mem_cons.mpr ⟨lwm_2 (List.mem_of_getElem? (i := 91) rfl), List.forall_mem_cons.mpr ⟨lwm_2 (List.mem_of_getElem? (i := 92) rfl), List.forall_mem_cons.mpr ⟨lwm_2 (List.mem_of_getElem? (i := 93) rfl), List.forall_mem_cons.mpr ⟨lwm_2 (List.mem_of_getElem? (i := 94) rfl), List.forall_mem_cons.mpr ⟨lwm_2 (List.mem_of_getElem? (i := 95) rfl), List.forall_mem_cons.mpr ⟨lwm_2 (List.mem_of_getElem? (i := 96) rfl), List.forall_mem_cons.mpr ⟨lwm_2 (List.mem_of_getElem? (i := 97) rfl), List.forall_mem_cons.mpr ⟨lwm_2 (List.mem_of_getElem? (i := 98) rfl), List.forall_mem_cons.mpr ⟨lwm_2 (List.mem_of_getElem? (i := 99) rfl), List.forall_mem_cons.mpr ⟨lwm_2 (List.mem_of_getElem? (i := 101) rfl), List.forall_mem_cons.mpr ⟨lwm_2 (List.mem_of_getElem? (i := 103) rfl), fun _ h => absurd h List.not_mem_nil⟩⟩⟩⟩⟩⟩⟩⟩⟩⟩⟩⟩⟩⟩⟩⟩⟩⟩⟩⟩⟩⟩⟩⟩
set_option maxRecDepth 100000 in
theorem wsin_11 : ∀ w ∈ wsL_law_r11, w ∈ lw_tbl := List.forall_mem_cons.mpr ⟨lwm_2 (List.mem_of_getElem? (i := 105) rfl), List.forall_mem_cons.mpr ⟨lwm_2 (List.mem_of_getElem? (i := 107) rfl), List.forall_mem_cons.mpr ⟨lwm_0 (List.mem_of_getElem? (i := 2) rfl), List.forall_mem_cons.mpr ⟨lwm_2 (List.mem_of_getElem? (i := 108) rfl), List.forall_mem_cons.mpr ⟨lwm_2 (List.mem_of_getElem? (i := 109) rfl), List.forall_mem_cons.mpr ⟨lwm_2 (List.mem_of_getElem? (i := 111) rfl), List.forall_mem_cons.mpr ⟨lwm_0 (List.mem_of_getElem? (i := 3) rfl), List.forall_mem_cons.mpr ⟨lwm_2 (List.mem_of_getElem? (i := 112) rfl), List.forall_mem_cons.mpr ⟨lwm_2 (List.mem_of_getElem? (i := 113) rfl), List.forall_mem_cons.mpr ⟨lwm_2 (List.mem_of_getElem? (i := 114) rfl), List.forall_mem_cons.mpr ⟨lwm_2 (List.mem_of_getElem? (i := 115) rfl), List.forall_mem_cons.mpr ⟨lwm_2 (List.mem_of_getElem? (i := 116) rfl), List.forall_mem_cons.mpr ⟨lwm_2 (List.mem_of_getElem? (i := 117) rfl), List.forall_mem_cons.mpr ⟨lwm_2 (List.mem_of_getElem? (i := 118) rfl), List.forall_mem_cons.mpr ⟨lwm_2 (List.mem_of_getElem? (i := 119) rfl), List.forall_mem_cons.mpr ⟨lwm_2 (List.mem_of_getElem? (i := 120) rfl), List.forall_mem_cons.mpr ⟨lwm_1 (List.mem_of_getElem? (i := 75) rfl), List.forall_mem_cons.mpr ⟨lwm_1 (List.mem_of_getElem? (i := 79) rfl), List.forall_mem_cons.mpr ⟨lwm_1 (List.mem_of_getElem? (i := 83) rfl), List.forall_mem_cons.mpr ⟨lwm_2 (List.mem_of_getElem? (i := 122) rfl), List.forall_mem_cons.mpr ⟨lwm_2 (List.mem_of_getElem? (i := 124) rfl), List.forall_mem_cons.mpr ⟨lwm_0 (List.mem_of_getElem? (i := 4) rfl), List.forall_mem_cons.mpr ⟨lwm_2 (List.mem_of_getElem? (i := 125) rfl), List.forall_mem_cons.mpr ⟨lwm_2 (List.mem_of_getElem? (i := 126) rfl), fun _ h => absurd h List.not_mem_nil⟩⟩⟩⟩⟩⟩⟩⟩⟩⟩⟩⟩⟩⟩⟩⟩⟩⟩⟩⟩⟩⟩⟩⟩
set_option maxRecDepth 100000 in
theorem wsin_12 : ∀ w ∈ wsL_law_r12, w ∈ lw_tbl := List.forall_mem_cons.mpr ⟨lwm_2 (List.mem_of_getElem? (i := 127) rfl), List.forall_mem_cons.mpr ⟨lwm_2 (List.mem_of_getElem? (i := 128) rfl), List.forall_mem_cons.mpr ⟨lwm_2 (List.mem_of_getElem? (i := 129) rfl), List.forall_mem_cons.mpr ⟨lwm_2 (List.mem_of_getElem? (i := 130) rfl), List.forall_mem_cons.mpr ⟨lwm_2 (List.mem_of_getElem? (i := 131) rfl), List.forall_mem_cons.mpr ⟨lwm_2 (List.mem_of_getElem? (i := 133) rfl), List.forall_mem_cons.mpr ⟨lwm_0 (List.mem_of_getElem? (i := 5) rfl), List.forall_mem_cons.mpr ⟨lwm_2 (List.mem_of_getElem? (i := 134) rfl), List.forall_mem_cons.mpr ⟨lwm_1 (List.mem_of_getElem? (i := 36) rfl), List.forall_mem_cons.mpr ⟨lwm_2 (List.mem_of_getElem? (i := 136) rfl), List.forall_mem_cons.mpr ⟨lwm_2 (List.mem_of_getElem? (i := 137) rfl), List.forall_mem_cons.mpr ⟨lwm_2 (List.mem_of_getElem? (i := 138) rfl), List.forall_mem_cons.mpr ⟨lwm_2 (List.mem_of_getElem? (i := 139) rfl), List.forall_mem_cons.mpr ⟨lwm_1 (List.mem_of_getElem? (i := 41) rfl), List.forall_mem_cons.mpr ⟨lwm_2 (List.mem_of_getElem? (i := 140) rfl), List.forall_mem_cons.mpr ⟨lwm_2 (List.mem_of_getElem? (i := 142) rfl), List.forall_mem_cons.mpr ⟨lwm_2 (List.mem_of_getElem? (i := 143) rfl), List.forall_mem_cons.mpr ⟨lwm_2 (List.mem_of_getElem? (i := 144) rfl), List.forall_mem_cons.mpr ⟨lwm_2 (List.mem_of_getElem? (i := 145) rfl), List.forall_mem_cons.mpr ⟨lwm_2 (List.mem_of_getElem? (i := 147) rfl), List.forall_mem_cons.mpr ⟨lwm_2 (List.mem_of_getElem? (i := 149) rfl), List.forall_mem_cons.mpr ⟨lwm_0 (List.mem_of_getElem? (i := 6) rfl), List.forall_mem_cons.mpr ⟨lwm_2 (List.mem_of_getElem? (i := 150) rfl), List.forall_mem_cons.mpr ⟨lwm_1 (List.mem_of_getElem? (i := 120) rfl), fun _ h => absurd h List.not_mem_nil⟩⟩⟩⟩⟩⟩⟩⟩⟩⟩⟩⟩⟩⟩⟩⟩⟩⟩⟩⟩⟩⟩⟩⟩
set_option maxRecDepth 100000 in
theorem wsin_13 : ∀ w ∈ wsL_law_r13, w ∈ lw_tbl := List.forall_mem_cons.mpr ⟨lwm_2 (List.mem_of_getElem? (i := 151) rfl), List.forall_mem_cons.mpr ⟨lwm_2 (List.mem_of_getElem? (i := 152) rfl), List.forall_mem_cons.mpr ⟨lwm_1 (List.mem_of_getElem? (i := 13) rfl), List.forall_mem_cons.mpr ⟨lwm_2 (List.mem_of_getElem? (i := 153) rfl), List.forall_mem_cons.mpr ⟨lwm_2 (List.mem_of_getElem? (i := 154) rfl), List.forall_mem_cons.mpr ⟨lwm_2 (List.mem_of_getElem? (i := 155) rfl), List.forall_mem_cons.mpr ⟨lwm_2 (List.mem_of_getElem? (i := 156) rfl), List.forall_mem_cons.mpr ⟨lwm_2 (List.mem_of_getElem? (i := 157) rfl), List.forall_mem_cons.mpr ⟨lwm_1 (List.mem_of_getElem? (i := 73) rfl), List.forall_mem_cons.mpr ⟨lwm_2 (List.mem_of_getElem? (i := 159) rfl), List.forall_mem_cons.mpr ⟨lwm_2 (List.mem_of_getElem? (i := 161) rfl), List.forall_mem_cons.mpr ⟨lwm_0 (List.mem_of_getElem? (i := 7) rfl), List.forall_mem_cons.mpr ⟨lwm_2 (List.mem_of_getElem? (i := 162) rfl), List.forall_mem_cons.mpr ⟨lwm_1 (List.mem_of_getElem? (i := 126) rfl), List.forall_mem_cons.mpr ⟨lwm_1 (List.mem_of_getElem? (i := 76) rfl), List.forall_mem_cons.mpr ⟨lwm_1 (List.mem_of_getElem? (i := 80) rfl), List.forall_mem_cons.mpr ⟨lwm_2 (List.mem_of_getElem? (i := 164) rfl), List.forall_mem_cons.mpr ⟨lwm_2 (List.mem_of_getElem? (i := 166) rfl), List.forall_mem_cons.mpr ⟨lwm_0 (List.mem_of_getElem? (i := 8) rfl), List.forall_mem_cons.mpr ⟨lwm_2 (List.mem_of_getElem? (i := 167) rfl), List.forall_mem_cons.mpr ⟨lwm_1 (List.mem_of_getElem? (i := 72) rfl), List.forall_mem_cons.mpr ⟨lwm_2 (List.mem_of_getElem? (i := 169) rfl), List.forall_mem_cons.mpr ⟨lwm_2 (List.mem_of_getElem? (i := 170) rfl), List.forall_mem_cons.mpr ⟨lwm_2 (List.mem_of_getElem? (i := 171) rfl), fun _ h => absurd h List.not_mem_nil⟩⟩⟩⟩⟩⟩⟩⟩⟩⟩⟩⟩⟩⟩⟩⟩⟩⟩⟩⟩⟩⟩⟩⟩
set_option maxRecDepth 100000 in
theorem wsin_14 : ∀ w ∈ wsL_law_r14, w ∈ lw_tbl := List.forall_mem_cons.mpr ⟨lwm_2 (List.mem_of_getElem? (i := 172) rfl), List.forall_mem_cons.mpr ⟨lwm_4 (List.mem_of_getElem? (i := 102) rfl), List.forall_mem_cons.mpr ⟨lwm_4 (List.mem_of_getElem? (i := 103) rfl), List.forall_mem_cons.mpr ⟨lwm_4 (List.mem_of_getElem? (i := 104) rfl), List.forall_mem_cons.mpr ⟨lwm_4 (List.mem_of_getElem? (i := 105) rfl), List.forall_mem_cons.mpr ⟨lwm_4 (List.mem_of_getElem? (i := 21) rfl), List.forall_mem_cons.mpr ⟨lwm_4 (List.mem_of_getElem? (i := 106) rfl), List.forall_mem_cons.mpr ⟨lwm_4 (List.mem_of_getElem? (i := 108) rfl), List.forall_mem_cons.mpr ⟨lwm_0 (List.mem_of_getElem? (i := 19) rfl), List.forall_mem_cons.mpr ⟨lwm_4 (List.mem_of_getElem? (i := 109) rfl), List.forall_mem_cons.mpr ⟨lwm_4 (List.mem_of_getElem? (i := 28) rfl), List.forall_mem_cons.mpr ⟨lwm_4 (List.mem_of_getElem? (i := 22) rfl), List.forall_mem_cons.mpr ⟨lwm_4 (List.mem_of_getElem? (i := 27) rfl), List.forall_mem_cons.mpr ⟨lwm_4 (List.mem_of_getElem? (i := 110) rfl), List.forall_mem_cons.mpr ⟨lwm_4 (List.mem_of_getElem? (i := 112) rfl), List.forall_mem_cons.mpr ⟨lwm_0 (List.mem_of_getElem? (i := 20) rfl), List.forall_mem_cons.mpr ⟨lwm_4 (List.mem_of_getElem? (i := 113) rfl), List.forall_mem_cons.mpr ⟨lwm_4 (List.mem_of_getElem? (i := 6) rfl), List.forall_mem_cons.mpr ⟨lwm_4 (List.mem_of_getElem? (i := 23) rfl), List.forall_mem_cons.mpr ⟨lwm_4 (List.mem_of_getElem? (i := 11) rfl), List.forall_mem_cons.mpr ⟨lwm_4 (List.mem_of_getElem? (i := 24) rfl), List.forall_mem_cons.mpr ⟨lwm_4 (List.mem_of_getElem? (i := 114) rfl), List.forall_mem_cons.mpr ⟨lwm_4 (List.mem_of_getElem? (i := 116) rfl), List.forall_mem_cons.mpr ⟨lwm_0 (List.mem_of_getElem? (i := 21) rfl), fun _ h => absurd h List.not_mem_nil⟩⟩⟩⟩⟩⟩⟩⟩⟩⟩⟩⟩⟩⟩⟩⟩⟩⟩⟩⟩⟩⟩⟩⟩
set_option maxRecDepth 100000 in
theorem wsin_15 : ∀ w ∈ wsL_law_r15, w ∈ lw_tbl := List.forall_mem_cons.mpr ⟨lwm_4 (List.mem_of_getElem? (i := 117) rfl), List.forall_mem_cons.mpr ⟨lwm_4 (List.mem_of_getElem? (i := 118) rfl), List.forall_mem_cons.mpr ⟨lwm_4 (List.mem_of_getElem? (i := 119) rfl), List.forall_mem_cons.mpr ⟨lwm_4 (List.mem_of_getElem? (i := 120) rfl), List.forall_mem_cons.mpr ⟨lwm_4 (List.mem_of_getElem? (i := 121) rfl), List.forall_mem_cons.mpr ⟨lwm_4 (List.mem_of_getElem? (i := 122) rfl), List.forall_mem_cons.mpr ⟨lwm_4 (List.mem_of_getElem? (i := 123) rfl), List.forall_mem_cons.mpr ⟨lwm_4 (List.mem_of_getElem? (i := 124) rfl), List.forall_mem_cons.mpr ⟨lwm_4 (List.mem_of_getElem? (i := 125) rfl), List.forall_mem_cons.mpr ⟨lwm_4 (List.mem_of_getElem? (i := 126) rfl), List.forall_mem_cons.mpr ⟨lwm_4 (List.mem_of_getElem? (i := 127) rfl), List.forall_mem_cons.mpr ⟨lwm_4 (List.mem_of_getElem? (i := 128) rfl), List.forall_mem_cons.mpr ⟨lwm_4 (List.mem_of_getElem? (i := 130) rfl), List.forall_mem_cons.mpr ⟨lwm_0 (List.mem_of_getElem? (i := 22) rfl), List.forall_mem_cons.mpr ⟨lwm_4 (List.mem_of_getElem? (i := 131) rfl), List.forall_mem_cons.mpr ⟨lwm_4 (List.mem_of_getElem? (i := 132) rfl), List.forall_mem_cons.mpr ⟨lwm_4 (List.mem_of_getElem? (i := 134) rfl), List.forall_mem_cons.mpr ⟨lwm_0 (List.mem_of_getElem? (i := 23) rfl), List.forall_mem_cons.mpr ⟨lwm_4 (List.mem_of_getElem? (i := 135) rfl), List.forall_mem_cons.mpr ⟨lwm_4 (List.mem_of_getElem? (i := 136) rfl), List.forall_mem_cons.mpr ⟨lwm_4 (List.mem_of_getElem? (i := 138) rfl), List.forall_mem_cons.mpr ⟨lwm_0 (List.mem_of_getElem? (i := 24) rfl), List.forall_mem_cons.mpr ⟨lwm_4 (List.mem_of_getElem? (i := 139) rfl), List.forall_mem_cons.mpr ⟨lwm_4 (List.mem_of_getElem? (i := 140) rfl), fun _ h => absurd h List.not_mem_nil⟩⟩⟩⟩⟩⟩⟩⟩⟩⟩⟩⟩⟩⟩⟩⟩⟩⟩⟩⟩⟩⟩⟩⟩
set_option maxRecDepth 100000 in
theorem wsin_16 : ∀ w ∈ wsL_law_r16, w ∈ lw_tbl := List.forall_mem_cons.mpr ⟨lwm_4 (List.mem_of_getElem? (i := 142) rfl), List.forall_mem_cons.mpr ⟨lwm_0 (List.mem_of_getElem? (i := 25) rfl), List.forall_mem_cons.mpr ⟨lwm_4 (List.mem_of_getElem? (i := 143) rfl), List.forall_mem_cons.mpr ⟨lwm_4 (List.mem_of_getElem? (i := 144) rfl), List.forall_mem_cons.mpr ⟨lwm_4 (List.mem_of_getElem? (i := 146) rfl), List.forall_mem_cons.mpr ⟨lwm_0 (List.mem_of_getElem? (i := 26) rfl), List.forall_mem_cons.mpr ⟨lwm_4 (List.mem_of_getElem? (i := 147) rfl), List.forall_mem_cons.mpr ⟨lwm_4 (List.mem_of_getElem? (i := 148) rfl), List.forall_mem_cons.mpr ⟨lwm_4 (List.mem_of_getElem? (i := 150) rfl), List.forall_mem_cons.mpr ⟨lwm_0 (List.mem_of_getElem? (i := 27) rfl), List.forall_mem_cons.mpr ⟨lwm_4 (List.mem_of_getElem? (i := 151) rfl), List.forall_mem_cons.mpr ⟨lwm_4 (List.mem_of_getElem? (i := 152) rfl), List.forall_mem_cons.mpr ⟨lwm_4 (List.mem_of_getElem? (i := 154) rfl), List.forall_mem_cons.mpr ⟨lwm_0 (List.mem_of_getElem? (i := 28) rfl), List.forall_mem_cons.mpr ⟨lwm_4 (List.mem_of_getElem? (i := 155) rfl), List.forall_mem_cons.mpr ⟨lwm_4 (List.mem_of_getElem? (i := 156) rfl), List.forall_mem_cons.mpr ⟨lwm_4 (List.mem_of_getElem? (i := 157) rfl), List.forall_mem_cons.mpr ⟨lwm_4 (List.mem_of_getElem? (i := 158) rfl), List.forall_mem_cons.mpr ⟨lwm_4 (List.mem_of_getElem? (i := 159) rfl), List.forall_mem_cons.mpr ⟨lwm_4 (List.mem_of_getElem? (i := 161) rfl), List.forall_mem_cons.mpr ⟨lwm_0 (List.mem_of_getElem? (i := 29) rfl), List.forall_mem_cons.mpr ⟨lwm_4 (List.mem_of_getElem? (i := 162) rfl), List.forall_mem_cons.mpr ⟨lwm_2 (List.mem_of_getElem? (i := 174) rfl), List.forall_mem_cons.mpr ⟨lwm_2 (List.mem_of_getElem? (i := 175) rfl), fun _ h => absurd h List.not_mem_nil⟩⟩⟩⟩⟩⟩⟩⟩⟩⟩⟩⟩⟩⟩⟩⟩⟩⟩⟩⟩⟩⟩⟩⟩
set_option maxRecDepth 100000 in
theorem wsin_17 : ∀ w ∈ wsL_law_r17, w ∈ lw_tbl := List.forall_mem_cons.mpr ⟨lwm_2 (List.mem_of_getElem? (i := 176) rfl), List.forall_mem_cons.mpr ⟨lwm_2 (List.mem_of_getElem? (i := 177) rfl), List.forall_mem_cons.mpr ⟨lwm_2 (List.mem_of_getElem? (i := 178) rfl), List.forall_mem_cons.mpr ⟨lwm_1 (List.mem_of_getElem? (i := 150) rfl), List.forall_mem_cons.mpr ⟨lwm_1 (List.mem_of_getElem? (i := 125) rfl), List.forall_mem_cons.mpr ⟨lwm_1 (List.mem_of_getElem? (i := 152) rfl), List.forall_mem_cons.mpr ⟨lwm_2 (List.mem_of_getElem? (i := 179) rfl), List.forall_mem_cons.mpr ⟨lwm_2 (List.mem_of_getElem? (i := 180) rfl), List.forall_mem_cons.mpr ⟨lwm_2 (List.mem_of_getElem? (i := 181) rfl), List.forall_mem_cons.mpr ⟨lwm_2 (List.mem_of_getElem? (i := 182) rfl), List.forall_mem_cons.mpr ⟨lwm_2 (List.mem_of_getElem? (i := 183) rfl), List.forall_mem_cons.mpr ⟨lwm_2 (List.mem_of_getElem? (i := 184) rfl), List.forall_mem_cons.mpr ⟨lwm_2 (List.mem_of_getElem? (i := 185) rfl), List.forall_mem_cons.mpr ⟨lwm_2 (List.mem_of_getElem? (i := 186) rfl), List.forall_mem_cons.mpr ⟨lwm_2 (List.mem_of_getElem? (i := 187) rfl), List.forall_mem_cons.mpr ⟨lwm_1 (List.mem_of_getElem? (i := 177) rfl), List.forall_mem_cons.mpr ⟨lwm_2 (List.mem_of_getElem? (i := 189) rfl), List.forall_mem_cons.mpr ⟨lwm_2 (List.mem_of_getElem? (i := 191) rfl), List.forall_mem_cons.mpr ⟨lwm_0 (List.mem_of_getElem? (i := 9) rfl), List.forall_mem_cons.mpr ⟨lwm_2 (List.mem_of_getElem? (i := 192) rfl), List.forall_mem_cons.mpr ⟨lwm_1 (List.mem_of_getElem? (i := 197) rfl), List.forall_mem_cons.mpr ⟨lwm_1 (List.mem_of_getElem? (i := 199) rfl), List.forall_mem_cons.mpr ⟨lwm_2 (List.mem_of_getElem? (i := 193) rfl), List.forall_mem_cons.mpr ⟨lwm_2 (List.mem_of_getElem? (i := 195) rfl), fun _ h => absurd h List.not_mem_nil⟩⟩⟩⟩⟩⟩⟩⟩⟩⟩⟩⟩⟩⟩⟩⟩⟩⟩⟩⟩⟩⟩⟩⟩
set_option maxRecDepth 100000 in
theorem wsin_18 : ∀ w ∈ wsL_law_r18, w ∈ lw_tbl := List.forall_mem_cons.mpr ⟨lwm_0 (List.mem_of_getElem? (i := 10) rfl), List.forall_mem_cons.mpr ⟨lwm_2 (List.mem_of_getElem? (i := 196) rfl), List.forall_mem_cons.mpr ⟨lwm_4 (List.mem_of_getElem? (i := 163) rfl), List.forall_mem_cons.mpr ⟨lwm_4 (List.mem_of_getElem? (i := 164) rfl), List.forall_mem_cons.mpr ⟨lwm_4 (List.mem_of_getElem? (i := 165) rfl), List.forall_mem_cons.mpr ⟨lwm_4 (List.mem_of_getElem? (i := 166) rfl), List.forall_mem_cons.mpr ⟨lwm_4 (List.mem_of_getElem? (i := 167) rfl), List.forall_mem_cons.mpr ⟨lwm_4 (List.mem_of_getElem? (i := 13) rfl), List.forall_mem_cons.mpr ⟨lwm_2 (List.mem_of_getElem? (i := 197) rfl), List.forall_mem_cons.mpr ⟨lwm_2 (List.mem_of_getElem? (i := 198) rfl), List.forall_mem_cons.mpr ⟨lwm_2 (List.mem_of_getElem? (i := 199) rfl), List.forall_mem_cons.mpr ⟨lwm_2 (List.mem_of_getElem? (i := 200) rfl), List.forall_mem_cons.mpr ⟨lwm_2 (List.mem_of_getElem? (i := 201) rfl), List.forall_mem_cons.mpr ⟨lwm_4 (List.mem_of_getElem? (i := 168) rfl), List.forall_mem_cons.mpr ⟨lwm_4 (List.mem_of_getElem? (i := 169) rfl), List.forall_mem_cons.mpr ⟨lwm_4 (List.mem_of_getElem? (i := 170) rfl), List.forall_mem_cons.mpr ⟨lwm_4 (List.mem_of_getElem? (i := 171) rfl), List.forall_mem_cons.mpr ⟨lwm_2 (List.mem_of_getElem? (i := 202) rfl), List.forall_mem_cons.mpr ⟨lwm_2 (List.mem_of_getElem? (i := 203) rfl), List.forall_mem_cons.mpr ⟨lwm_2 (List.mem_of_getElem? (i := 204) rfl), List.forall_mem_cons.mpr ⟨lwm_2 (List.mem_of_getElem? (i := 205) rfl), List.forall_mem_cons.mpr ⟨lwm_2 (List.mem_of_getElem? (i := 210) rfl), List.forall_mem_cons.mpr ⟨lwm_1 (List.mem_of_getElem? (i := 116) rfl), List.forall_mem_cons.mpr ⟨lwm_1 (List.mem_of_getElem? (i := 118) rfl), fun _ h => absurd h List.not_mem_nil⟩⟩⟩⟩⟩⟩⟩⟩⟩⟩⟩⟩⟩⟩⟩⟩⟩⟩⟩⟩⟩⟩⟩⟩
set_option maxRecDepth 100000 in
theorem wsin_19 : ∀ w ∈ wsL_law_r19, w ∈ lw_tbl := List.forall_mem_cons.mpr ⟨lwm_1 (List.mem_of_getElem? (i := 114) rfl), List.forall_mem_cons.mpr ⟨lwm_2 (List.mem_of_getElem? (i := 206) rfl), List.forall_mem_cons.mpr ⟨lwm_2 (List.mem_of_getElem? (i := 207) rfl), List.forall_mem_cons.mpr ⟨lwm_2 (List.mem_of_getElem? (i := 208) rfl), List.forall_mem_cons.mpr ⟨lwm_2 (List.mem_of_getElem? (i := 209) rfl), List.forall_mem_cons.mpr ⟨lwm_2 (List.mem_of_getElem? (i := 211) rfl), List.forall_mem_cons.mpr ⟨lwm_2 (List.mem_of_getElem? (i := 212) rfl), List.forall_mem_cons.mpr ⟨lwm_2 (List.mem_of_getElem? (i := 213) rfl), List.forall_mem_cons.mpr ⟨lwm_2 (List.mem_of_getElem? (i := 214) rfl), List.forall_mem_cons.mpr ⟨lwm_4 (List.mem_of_getElem? (i := 172) rfl), List.forall_mem_cons.mpr ⟨lwm_4 (List.mem_of_getElem? (i := 173) rfl), List.forall_mem_cons.mpr ⟨lwm_4 (List.mem_of_getElem? (i := 174) rfl), List.forall_mem_cons.mpr ⟨lwm_4 (List.mem_of_getElem? (i := 175) rfl), List.forall_mem_cons.mpr ⟨lwm_4 (List.mem_of_getElem? (i := 180) rfl), List.forall_mem_cons.mpr ⟨lwm_4 (List.mem_of_getElem? (i := 176) rfl), List.forall_mem_cons.mpr ⟨lwm_4 (List.mem_of_getElem? (i := 178) rfl), List.forall_mem_cons.mpr ⟨lwm_0 (List.mem_of_getElem? (i := 30) rfl), List.forall_mem_cons.mpr ⟨lwm_4 (List.mem_of_getElem? (i := 179) rfl), List.forall_mem_cons.mpr ⟨lwm_4 (List.mem_of_getElem? (i := 181) rfl), List.forall_mem_cons.mpr ⟨lwm_4 (List.mem_of_getElem? (i := 183) rfl), List.forall_mem_cons.mpr ⟨lwm_0 (List.mem_of_getElem? (i := 31) rfl), List.forall_mem_cons.mpr ⟨lwm_4 (List.mem_of_getElem? (i := 184) rfl), List.forall_mem_cons.mpr ⟨lwm_2 (List.mem_of_getElem? (i := 215) rfl), List.forall_mem_cons.mpr ⟨lwm_2 (List.mem_of_getElem? (i := 216) rfl), fun _ h => absurd h List.not_mem_nil⟩⟩⟩⟩⟩⟩⟩⟩⟩⟩⟩⟩⟩⟩⟩⟩⟩⟩⟩⟩⟩⟩⟩⟩
set_option maxRecDepth 100000 in
theorem wsin_20 : ∀ w ∈ wsL_law_r20, w ∈ lw_tbl := List.forall_mem_cons.mpr ⟨lwm_2 (List.mem_of_getElem? (i := 217) rfl), List.forall_mem_cons.mpr ⟨lwm_2 (List.mem_of_getElem? (i := 218) rfl), List.forall_mem_cons.mpr ⟨lwm_1 (List.mem_of_getElem? (i := 71) rfl), List.forall_mem_cons.mpr ⟨lwm_1 (List.mem_of_getElem? (i := 123) rfl), List.forall_mem_cons.mpr ⟨lwm_2 (List.mem_of_getElem? (i := 219) rfl), List.forall_mem_cons.mpr ⟨lwm_2 (List.mem_of_getElem? (i := 220) rfl), List.forall_mem_cons.mpr ⟨lwm_2 (List.mem_of_getElem? (i := 221) rfl), List.forall_mem_cons.mpr ⟨lwm_2 (List.mem_of_getElem? (i := 222) rfl), List.forall_mem_cons.mpr ⟨lwm_2 (List.mem_of_getElem? (i := 223) rfl), List.forall_mem_cons.mpr ⟨lwm_2 (List.mem_of_getElem? (i := 224) rfl), List.forall_mem_cons.mpr ⟨lwm_2 (List.mem_of_getElem? (i := 225) rfl), List.forall_mem_cons.mpr ⟨lwm_2 (List.mem_of_getElem? (i := 226) rfl), List.forall_mem_cons.mpr ⟨lwm_2 (List.mem_of_getElem? (i := 227) rfl), List.forall_mem_cons.mpr ⟨lwm_2 (List.mem_of_getElem? (i := 228) rfl), List.forall_mem_cons.mpr ⟨lwm_2 (List.mem_of_getElem? (i := 229) rfl), List.forall_mem_cons.mpr ⟨lwm_2 (List.mem_of_getElem? (i := 230) rfl), List.forall_mem_cons.mpr ⟨lwm_2 (List.mem_of_getElem? (i := 231) rfl), List.forall_mem_cons.mpr ⟨lwm_2 (List.mem_of_getElem? (i := 232) rfl), List.forall_mem_cons.mpr ⟨lwm_2 (List.mem_of_getElem? (i := 233) rfl), List.forall_mem_cons.mpr ⟨lwm_2 (List.mem_of_getElem? (i := 234) rfl), List.forall_mem_cons.mpr ⟨lwm_2 (List.mem_of_getElem? (i := 235) rfl), List.forall_mem_cons.mpr ⟨lwm_2 (List.mem_of_getElem? (i := 236) rfl), List.forall_mem_cons.mpr ⟨lwm_2 (List.mem_of_getElem? (i := 237) rfl), List.forall_mem_cons.mpr ⟨lwm_2 (List.mem_of_getElem? (i := 238) rfl), fun _ h => absurd h List.not_mem_nil⟩⟩⟩⟩⟩⟩⟩⟩⟩⟩⟩⟩⟩⟩⟩⟩⟩⟩⟩⟩⟩⟩⟩⟩
set_option maxRecDepth 100000 in
theorem wsin_21 : ∀ w ∈ wsL_law_r21, w ∈ lw_tbl := List.forall_mem_cons.mpr ⟨lwm_4 (List.mem_of_getElem? (i := 185) rfl), List.forall_mem_cons.mpr ⟨lwm_4 (List.mem_of_getElem? (i := 186) rfl), List.forall_mem_cons.mpr ⟨lwm_4 (List.mem_of_getElem? (i := 187) rfl), List.forall_mem_cons.mpr ⟨lwm_4 (List.mem_of_getElem? (i := 188) rfl), List.forall_mem_cons.mpr ⟨lwm_4 (List.mem_of_getElem? (i := 189) rfl), List.forall_mem_cons.mpr ⟨lwm_4 (List.mem_of_getElem? (i := 191) rfl), List.forall_mem_cons.mpr ⟨lwm_0 (List.mem_of_getElem? (i := 32) rfl), List.forall_mem_cons.mpr ⟨lwm_4 (List.mem_of_getElem? (i := 192) rfl), List.forall_mem_cons.mpr ⟨lwm_4 (List.mem_of_getElem? (i := 193) rfl), List.forall_mem_cons.mpr ⟨lwm_4 (List.mem_of_getElem? (i := 195) rfl), List.forall_mem_cons.mpr ⟨lwm_0 (List.mem_of_getElem? (i := 33) rfl), List.forall_mem_cons.mpr ⟨lwm_4 (List.mem_of_getElem? (i := 196) rfl), List.forall_mem_cons.mpr ⟨lwm_4 (List.mem_of_getElem? (i := 197) rfl), List.forall_mem_cons.mpr ⟨lwm_4 (List.mem_of_getElem? (i := 198) rfl), List.forall_mem_cons.mpr ⟨lwm_4 (List.mem_of_getElem? (i := 199) rfl), List.forall_mem_cons.mpr ⟨lwm_4 (List.mem_of_getElem? (i := 200) rfl), List.forall_mem_cons.mpr ⟨lwm_4 (List.mem_of_getElem? (i := 201) rfl), List.forall_mem_cons.mpr ⟨lwm_4 (List.mem_of_getElem? (i := 202) rfl), List.forall_mem_cons.mpr ⟨lwm_2 (List.mem_of_getElem? (i := 239) rfl), List.forall_mem_cons.mpr ⟨lwm_3 (List.mem_of_getElem? (i := 0) rfl), List.forall_mem_cons.mpr ⟨lwm_3 (List.mem_of_getElem? (i := 1) rfl), List.forall_mem_cons.mpr ⟨lwm_3 (List.mem_of_getElem? (i := 2) rfl), List.forall_mem_cons.mpr ⟨lwm_3 (List.mem_of_getElem? (i := 3) rfl), List.forall_mem_cons.mpr ⟨lwm_3 (List.mem_of_getElem? (i := 7) rfl), fun _ h => absurd h List.not_mem_nil⟩⟩⟩⟩⟩⟩⟩⟩⟩⟩⟩⟩⟩⟩⟩⟩⟩⟩⟩⟩⟩⟩⟩⟩
set_option maxRecDepth 100000 in
theorem wsin_22 : ∀ w ∈ wsL_law_r22, w ∈ lw_tbl := List.forall_mem_cons.mpr ⟨lwm_1 (List.mem_of_getElem? (i := 81) rfl), List.forall_mem_cons.mpr ⟨lwm_1 (List.mem_of_getElem? (i := 77) rfl), List.forall_mem_cons.mpr ⟨lwm_3 (List.mem_of_getElem? (i := 4) rfl), List.forall_mem_cons.mpr ⟨lwm_3 (List.mem_of_getElem? (i := 5) rfl), List.forall_mem_cons.mpr ⟨lwm_3 (List.mem_of_getElem? (i := 6) rfl), List.forall_mem_cons.mpr ⟨lwm_3 (List.mem_of_getElem? (i := 8) rfl), List.forall_mem_cons.mpr ⟨lwm_3 (List.mem_of_getElem? (i := 9) rfl), List.forall_mem_cons.mpr ⟨lwm_3 (List.mem_of_getElem? (i := 10) rfl), List.forall_mem_cons.mpr ⟨lwm_3 (List.mem_of_getElem? (i := 11) rfl), List.forall_mem_cons.mpr ⟨lwm_3 (List.mem_of_getElem? (i := 20) rfl), List.forall_mem_cons.mpr ⟨lwm_3 (List.mem_of_getElem? (i := 12) rfl), List.forall_mem_cons.mpr ⟨lwm_3 (List.mem_of_getElem? (i := 13) rfl), List.forall_mem_cons.mpr ⟨lwm_3 (List.mem_of_getElem? (i := 14) rfl), List.forall_mem_cons.mpr ⟨lwm_3 (List.mem_of_getElem? (i := 15) rfl), List.forall_mem_cons.mpr ⟨lwm_3 (List.mem_of_getElem? (i := 17) rfl), List.forall_mem_cons.mpr ⟨lwm_3 (List.mem_of_getElem? (i := 18) rfl), List.forall_mem_cons.mpr ⟨lwm_3 (List.mem_of_getElem? (i := 19) rfl), List.forall_mem_cons.mpr ⟨lwm_3 (List.mem_of_getElem? (i := 21) rfl), List.forall_mem_cons.mpr ⟨lwm_3 (List.mem_of_getElem? (i := 22) rfl), List.forall_mem_cons.mpr ⟨lwm_3 (List.mem_of_getElem? (i := 23) rfl), List.forall_mem_cons.mpr ⟨lwm_3 (List.mem_of_getElem? (i := 24) rfl), List.forall_mem_cons.mpr ⟨lwm_4 (List.mem_of_getElem? (i := 203) rfl), List.forall_mem_cons.mpr ⟨lwm_4 (List.mem_of_getElem? (i := 204) rfl), List.forall_mem_cons.mpr ⟨lwm_4 (List.mem_of_getElem? (i := 205) rfl), fun _ h => absurd h List.not_mem_nil⟩⟩⟩⟩⟩⟩⟩⟩⟩⟩⟩⟩⟩⟩⟩⟩⟩⟩⟩⟩⟩⟩⟩⟩
set_option maxRecDepth 100000 in
theorem wsin_23 : ∀ w ∈ wsL_law_r23, w ∈ lw_tbl := List.forall_mem_cons.mpr ⟨lwm_4 (List.mem_of_getElem? (i := 206) rfl), List.forall_mem_cons.mpr ⟨lwm_4 (List.mem_of_getElem? (i := 207) rfl), List.forall_mem_cons.mpr ⟨lwm_4 (List.mem_of_getElem? (i := 208) rfl), List.forall_mem_cons.mpr ⟨lwm_4 (List.mem_of_getElem? (i := 209) rfl), List.forall_mem_cons.mpr ⟨lwm_4 (List.mem_of_getElem? (i := 214) rfl), List.forall_mem_cons.mpr ⟨lwm_4 (List.mem_of_getElem? (i := 210) rfl), List.forall_mem_cons.mpr ⟨lwm_4 (List.mem_of_getElem? (i := 212) rfl), List.forall_mem_cons.mpr ⟨lwm_0 (List.mem_of_getElem? (i := 34) rfl), List.forall_mem_cons.mpr ⟨lwm_4 (List.mem_of_getElem? (i := 213) rfl), List.forall_mem_cons.mpr ⟨lwm_3 (List.mem_of_getElem? (i := 25) rfl), List.forall_mem_cons.mpr ⟨lwm_3 (List.mem_of_getElem? (i := 26) rfl), List.forall_mem_cons.mpr ⟨lwm_3 (List.mem_of_getElem? (i := 27) rfl), List.forall_mem_cons.mpr ⟨lwm_3 (List.mem_of_getElem? (i := 28) rfl), List.forall_mem_cons.mpr ⟨lwm_1 (List.mem_of_getElem? (i := 121) rfl), List.forall_mem_cons.mpr ⟨lwm_3 (List.mem_of_getElem? (i := 29) rfl), List.forall_mem_cons.mpr ⟨lwm_3 (List.mem_of_getElem? (i := 30) rfl), List.forall_mem_cons.mpr ⟨lwm_3 (List.mem_of_getElem? (i := 31) rfl), List.forall_mem_cons.mpr ⟨lwm_3 (List.mem_of_getElem? (i := 32) rfl), List.forall_mem_cons.mpr ⟨lwm_1 (List.mem_of_getElem? (i := 176) rfl), List.forall_mem_cons.mpr ⟨lwm_3 (List.mem_of_getElem? (i := 37) rfl), List.forall_mem_cons.mpr ⟨lwm_3 (List.mem_of_getElem? (i := 33) rfl), List.forall_mem_cons.mpr ⟨lwm_3 (List.mem_of_getElem? (i := 34) rfl), List.forall_mem_cons.mpr ⟨lwm_3 (List.mem_of_getElem? (i := 35) rfl), List.forall_mem_cons.mpr ⟨lwm_3 (List.mem_of_getElem? (i := 36) rfl), fun _ h => absurd h List.not_mem_nil⟩⟩⟩⟩⟩⟩⟩⟩⟩⟩⟩⟩⟩⟩⟩⟩⟩⟩⟩⟩⟩⟩⟩⟩
set_option maxRecDepth 100000 in
theorem wsin_24 : ∀ w ∈ wsL_law_r24, w ∈ lw_tbl := List.forall_mem_cons.mpr ⟨lwm_3 (List.mem_of_getElem? (i := 38) rfl), List.forall_mem_cons.mpr ⟨lwm_3 (List.mem_of_getElem? (i := 39) rfl), List.forall_mem_cons.mpr ⟨lwm_3 (List.mem_of_getElem? (i := 40) rfl), List.forall_mem_cons.mpr ⟨lwm_3 (List.mem_of_getElem? (i := 41) rfl), List.forall_mem_cons.mpr ⟨lwm_1 (List.mem_of_getElem? (i := 86) rfl), List.forall_mem_cons.mpr ⟨lwm_1 (List.mem_of_getElem? (i := 89) rfl), List.forall_mem_cons.mpr ⟨lwm_1 (List.mem_of_getElem? (i := 92) rfl), List.forall_mem_cons.mpr ⟨lwm_3 (List.mem_of_getElem? (i := 42) rfl), List.forall_mem_cons.mpr ⟨lwm_3 (List.mem_of_getElem? (i := 43) rfl), List.forall_mem_cons.mpr ⟨lwm_3 (List.mem_of_getElem? (i := 44) rfl), List.forall_mem_cons.mpr ⟨lwm_3 (List.mem_of_getElem? (i := 45) rfl), List.forall_mem_cons.mpr ⟨lwm_3 (List.mem_of_getElem? (i := 46) rfl), List.forall_mem_cons.mpr ⟨lwm_3 (List.mem_of_getElem? (i := 48) rfl), List.forall_mem_cons.mpr ⟨lwm_0 (List.mem_of_getElem? (i := 11) rfl), List.forall_mem_cons.mpr ⟨lwm_3 (List.mem_of_getElem? (i := 49) rfl), List.forall_mem_cons.mpr ⟨lwm_3 (List.mem_of_getElem? (i := 50) rfl), List.forall_mem_cons.mpr ⟨lwm_3 (List.mem_of_getElem? (i := 51) rfl), List.forall_mem_cons.mpr ⟨lwm_3 (List.mem_of_getElem? (i := 52) rfl), List.forall_mem_cons.mpr ⟨lwm_3 (List.mem_of_getElem? (i := 54) rfl), List.forall_mem_cons.mpr ⟨lwm_0 (List.mem_of_getElem? (i := 12) rfl), List.forall_mem_cons.mpr ⟨lwm_3 (List.mem_of_getElem? (i := 55) rfl), List.forall_mem_cons.mpr ⟨lwm_3 (List.mem_of_getElem? (i := 56) rfl), List.forall_mem_cons.mpr ⟨lwm_3 (List.mem_of_getElem? (i := 58) rfl), List.forall_mem_cons.mpr ⟨lwm_0 (List.mem_of_getElem? (i := 13) rfl), fun _ h => absurd h List.not_mem_nil⟩⟩⟩⟩⟩⟩⟩⟩⟩⟩⟩⟩⟩⟩⟩⟩⟩⟩⟩⟩⟩⟩⟩⟩
set_option maxRecDepth 100000 in
theorem wsin_25 : ∀ w ∈ wsL_law_r25, w ∈ lw_tbl := List.forall_mem_cons.mpr ⟨lwm_3 (List.mem_of_getElem? (i := 59) rfl), List.forall_mem_cons.mpr ⟨lwm_3 (List.mem_of_getElem? (i := 60) rfl), List.forall_mem_cons.mpr ⟨lwm_3 (List.mem_of_getElem? (i := 62) rfl), List.forall_mem_cons.mpr ⟨lwm_0 (List.mem_of_getElem? (i := 14) rfl), List.forall_mem_cons.mpr ⟨lwm_3 (List.mem_of_getElem? (i := 63) rfl), List.forall_mem_cons.mpr ⟨lwm_3 (List.mem_of_getElem? (i := 65) rfl), List.forall_mem_cons.mpr ⟨lwm_3 (List.mem_of_getElem? (i := 67) rfl), List.forall_mem_cons.mpr ⟨lwm_0 (List.mem_of_getElem? (i := 15) rfl), List.forall_mem_cons.mpr ⟨lwm_3 (List.mem_of_getElem? (i := 68) rfl), List.forall_mem_cons.mpr ⟨lwm_3 (List.mem_of_getElem? (i := 70) rfl), List.forall_mem_cons.mpr ⟨lwm_3 (List.mem_of_getElem? (i := 71) rfl), List.forall_mem_cons.mpr ⟨lwm_4 (List.mem_of_getElem? (i := 215) rfl), List.forall_mem_cons.mpr ⟨lwm_4 (List.mem_of_getElem? (i := 216) rfl), List.forall_mem_cons.mpr ⟨lwm_4 (List.mem_of_getElem? (i := 217) rfl), List.forall_mem_cons.mpr ⟨lwm_4 (List.mem_of_getElem? (i := 218) rfl), List.forall_mem_cons.mpr ⟨lwm_4 (List.mem_of_getElem? (i := 219) rfl), List.forall_mem_cons.mpr ⟨lwm_4 (List.mem_of_getElem? (i := 220) rfl), List.forall_mem_cons.mpr ⟨lwm_4 (List.mem_of_getElem? (i := 222) rfl), List.forall_mem_cons.mpr ⟨lwm_0 (List.mem_of_getElem? (i := 35) rfl), List.forall_mem_cons.mpr ⟨lwm_4 (List.mem_of_getElem? (i := 223) rfl), List.forall_mem_cons.mpr ⟨lwm_4 (List.mem_of_getElem? (i := 224) rfl), List.forall_mem_cons.mpr ⟨lwm_4 (List.mem_of_getElem? (i := 226) rfl), List.forall_mem_cons.mpr ⟨lwm_0 (List.mem_of_getElem? (i := 36) rfl), List.forall_mem_cons.mpr ⟨lwm_4 (List.mem_of_getElem? (i := 227) rfl), fun _ h => absurd h List.not_mem_nil⟩⟩⟩⟩⟩⟩⟩⟩⟩⟩⟩⟩⟩⟩⟩⟩⟩⟩⟩⟩⟩⟩⟩⟩
set_option maxRecDepth 100000 in
theorem wsin_26 : ∀ w ∈ wsL_law_r26, w ∈ lw_tbl := List.forall_mem_cons.mpr ⟨lwm_4 (List.mem_of_getElem? (i := 228) rfl), List.forall_mem_cons.mpr ⟨lwm_4 (List.mem_of_getElem? (i := 230) rfl), List.forall_mem_cons.mpr ⟨lwm_0 (List.mem_of_getElem? (i := 37) rfl), List.forall_mem_cons.mpr ⟨lwm_4 (List.mem_of_getElem? (i := 231) rfl), List.forall_mem_cons.mpr ⟨lwm_4 (List.mem_of_getElem? (i := 236) rfl), List.forall_mem_cons.mpr ⟨lwm_4 (List.mem_of_getElem? (i := 232) rfl), List.forall_mem_cons.mpr ⟨lwm_4 (List.mem_of_getElem? (i := 234) rfl), List.forall_mem_cons.mpr ⟨lwm_0 (List.mem_of_getElem? (i := 38) rfl), List.forall_mem_cons.mpr ⟨lwm_4 (List.mem_of_getElem? (i := 235) rfl), List.forall_mem_cons.mpr ⟨lwm_3 (List.mem_of_getElem? (i := 72) rfl), List.forall_mem_cons.mpr ⟨lwm_3 (List.mem_of_getElem? (i := 73) rfl), List.forall_mem_cons.mpr ⟨lwm_3 (List.mem_of_getElem? (i := 74) rfl), List.forall_mem_cons.mpr ⟨lwm_3 (List.mem_of_getElem? (i := 75) rfl), List.forall_mem_cons.mpr ⟨lwm_3 (List.mem_of_getElem? (i := 76) rfl), List.forall_mem_cons.mpr ⟨lwm_3 (List.mem_of_getElem? (i := 77) rfl), List.forall_mem_cons.mpr ⟨lwm_4 (List.mem_of_getElem? (i := 237) rfl), List.forall_mem_cons.mpr ⟨lwm_4 (List.mem_of_getElem? (i := 238) rfl), List.forall_mem_cons.mpr ⟨lwm_4 (List.mem_of_getElem? (i := 239) rfl), List.forall_mem_cons.mpr ⟨lwm_5 (List.mem_of_getElem? (i := 0) rfl), List.forall_mem_cons.mpr ⟨lwm_5 (List.mem_of_getElem? (i := 1) rfl), List.forall_mem_cons.mpr ⟨lwm_5 (List.mem_of_getElem? (i := 2) rfl), List.forall_mem_cons.mpr ⟨lwm_3 (List.mem_of_getElem? (i := 78) rfl), List.forall_mem_cons.mpr ⟨lwm_3 (List.mem_of_getElem? (i := 79) rfl), List.forall_mem_cons.mpr ⟨lwm_3 (List.mem_of_getElem? (i := 80) rfl), fun _ h => absurd h List.not_mem_nil⟩⟩⟩⟩⟩⟩⟩⟩⟩⟩⟩⟩⟩⟩⟩⟩⟩⟩⟩⟩⟩⟩⟩⟩
set_option maxRecDepth 100000 in
theorem wsin_27 : ∀ w ∈ wsL_law_r27, w ∈ lw_tbl := List.forall_mem_cons.mpr ⟨lwm_3 (List.mem_of_getElem? (i := 81) rfl), List.forall_mem_cons.mpr ⟨lwm_3 (List.mem_of_getElem? (i := 82) rfl), List.forall_mem_cons.mpr ⟨lwm_3 (List.mem_of_getElem? (i := 83) rfl), List.forall_mem_cons.mpr ⟨lwm_3 (List.mem_of_getElem? (i := 84) rfl), List.forall_mem_cons.mpr ⟨lwm_5 (List.mem_of_getElem? (i := 3) rfl), List.forall_mem_cons.mpr ⟨lwm_5 (List.mem_of_getElem? (i := 4) rfl), List.forall_mem_cons.mpr ⟨lwm_5 (List.mem_of_getElem? (i := 5) rfl), List.forall_mem_cons.mpr ⟨lwm_5 (List.mem_of_getElem? (i := 6) rfl), List.forall_mem_cons.mpr ⟨lwm_5 (List.mem_of_getElem? (i := 7) rfl), List.forall_mem_cons.mpr ⟨lwm_3 (List.mem_of_getElem? (i := 85) rfl), List.forall_mem_cons.mpr ⟨lwm_3 (List.mem_of_getElem? (i := 86) rfl), List.forall_mem_cons.mpr ⟨lwm_3 (List.mem_of_getElem? (i := 87) rfl), List.forall_mem_cons.mpr ⟨lwm_3 (List.mem_of_getElem? (i := 88) rfl), List.forall_mem_cons.mpr ⟨lwm_1 (List.mem_of_getElem? (i := 84) rfl), List.forall_mem_cons.mpr ⟨lwm_3 (List.mem_of_getElem? (i := 89) rfl), List.forall_mem_cons.mpr ⟨lwm_3 (List.mem_of_getElem? (i := 90) rfl), List.forall_mem_cons.mpr ⟨lwm_3 (List.mem_of_getElem? (i := 91) rfl), List.forall_mem_cons.mpr ⟨lwm_3 (List.mem_of_getElem? (i := 92) rfl), List.forall_mem_cons.mpr ⟨lwm_3 (List.mem_of_getElem? (i := 93) rfl), List.forall_mem_cons.mpr ⟨lwm_3 (List.mem_of_getElem? (i := 94) rfl), List.forall_mem_cons.mpr ⟨lwm_3 (List.mem_of_getElem? (i := 95) rfl), List.forall_mem_cons.mpr ⟨lwm_5 (List.mem_of_getElem? (i := 8) rfl), List.forall_mem_cons.mpr ⟨lwm_5 (List.mem_of_getElem? (i := 9) rfl), List.forall_mem_cons.mpr ⟨lwm_5 (List.mem_of_getElem? (i := 10) rfl), fun _ h => absurd h List.not_mem_nil⟩⟩⟩⟩⟩⟩⟩⟩⟩⟩⟩⟩⟩⟩⟩⟩⟩⟩⟩⟩⟩⟩⟩⟩
set_option maxRecDepth 100000 in
theorem wsin_28 : ∀ w ∈ wsL_law_r28, w ∈ lw_tbl := List.forall_mem_cons.mpr ⟨lwm_5 (List.mem_of_getElem? (i := 11) rfl), List.forall_mem_cons.mpr ⟨lwm_5 (List.mem_of_getElem? (i := 12) rfl), List.forall_mem_cons.mpr ⟨lwm_5 (List.mem_of_getElem? (i := 14) rfl), List.forall_mem_cons.mpr ⟨lwm_0 (List.mem_of_getElem? (i := 39) rfl), List.forall_mem_cons.mpr ⟨lwm_5 (List.mem_of_getElem? (i := 15) rfl), List.forall_mem_cons.mpr ⟨lwm_5 (List.mem_of_getElem? (i := 16) rfl), List.forall_mem_cons.mpr ⟨lwm_5 (List.mem_of_getElem? (i := 18) rfl), List.forall_mem_cons.mpr ⟨lwm_0 (List.mem_of_getElem? (i := 40) rfl), List.forall_mem_cons.mpr ⟨lwm_5 (List.mem_of_getElem? (i := 19) rfl), List.forall_mem_cons.mpr ⟨lwm_3 (List.mem_of_getElem? (i := 96) rfl), List.forall_mem_cons.mpr ⟨lwm_3 (List.mem_of_getElem? (i := 97) rfl), List.forall_mem_cons.mpr ⟨lwm_3 (List.mem_of_getElem? (i := 98) rfl), List.forall_mem_cons.mpr ⟨lwm_3 (List.mem_of_getElem? (i := 99) rfl), List.forall_mem_cons.mpr ⟨lwm_1 (List.mem_of_getElem? (i := 178) rfl), List.forall_mem_cons.mpr ⟨lwm_3 (List.mem_of_getElem? (i := 100) rfl), List.forall_mem_cons.mpr ⟨lwm_3 (List.mem_of_getElem? (i := 101) rfl), List.forall_mem_cons.mpr ⟨lwm_3 (List.mem_of_getElem? (i := 102) rfl), List.forall_mem_cons.mpr ⟨lwm_3 (List.mem_of_getElem? (i := 103) rfl), List.forall_mem_cons.mpr ⟨lwm_5 (List.mem_of_getElem? (i := 20) rfl), List.forall_mem_cons.mpr ⟨lwm_5 (List.mem_of_getElem? (i := 21) rfl), List.forall_mem_cons.mpr ⟨lwm_5 (List.mem_of_getElem? (i := 22) rfl), List.forall_mem_cons.mpr ⟨lwm_5 (List.mem_of_getElem? (i := 23) rfl), List.forall_mem_cons.mpr ⟨lwm_3 (List.mem_of_getElem? (i := 104) rfl), List.forall_mem_cons.mpr ⟨lwm_3 (List.mem_of_getElem? (i := 105) rfl), fun _ h => absurd h List.not_mem_nil⟩⟩⟩⟩⟩⟩⟩⟩⟩⟩⟩⟩⟩⟩⟩⟩⟩⟩⟩⟩⟩⟩⟩⟩
set_option maxRecDepth 100000 in
theorem wsin_29 : ∀ w ∈ wsL_law_r29, w ∈ lw_tbl := List.forall_mem_cons.mpr ⟨lwm_3 (List.mem_of_getElem? (i := 106) rfl), List.forall_mem_cons.mpr ⟨lwm_3 (List.mem_of_getElem? (i := 107) rfl), List.forall_mem_cons.mpr ⟨lwm_3 (List.mem_of_getElem? (i := 108) rfl), List.forall_mem_cons.mpr ⟨lwm_3 (List.mem_of_getElem? (i := 109) rfl), List.forall_mem_cons.mpr ⟨lwm_3 (List.mem_of_getElem? (i := 110) rfl), List.forall_mem_cons.mpr ⟨lwm_3 (List.mem_of_getElem? (i := 111) rfl), List.forall_mem_cons.mpr ⟨lwm_3 (List.mem_of_getElem? (i := 112) rfl), List.forall_mem_cons.mpr ⟨lwm_3 (List.mem_of_getElem? (i := 113) rfl), List.forall_mem_cons.mpr ⟨lwm_3 (List.mem_of_getElem? (i := 114) rfl), List.forall_mem_cons.mpr ⟨lwm_3 (List.mem_of_getElem? (i := 115) rfl), List.forall_mem_cons.mpr ⟨lwm_3 (List.mem_of_getElem? (i := 117) rfl), List.forall_mem_cons.mpr ⟨lwm_3 (List.mem_of_getElem? (i := 118) rfl), List.forall_mem_cons.mpr ⟨lwm_5 (List.mem_of_getElem? (i := 24) rfl), List.forall_mem_cons.mpr ⟨lwm_5 (List.mem_of_getElem? (i := 25) rfl), List.forall_mem_cons.mpr ⟨lwm_5 (List.mem_of_getElem? (i := 26) rfl), List.forall_mem_cons.mpr ⟨lwm_5 (List.mem_of_getElem? (i := 27) rfl), List.forall_mem_cons.mpr ⟨lwm_5 (List.mem_of_getElem? (i := 28) rfl), List.forall_mem_cons.mpr ⟨lwm_5 (List.mem_of_getElem? (i := 30) rfl), List.forall_mem_cons.mpr ⟨lwm_0 (List.mem_of_getElem? (i := 41) rfl), List.forall_mem_cons.mpr ⟨lwm_5 (List.mem_of_getElem? (i := 31) rfl), List.forall_mem_cons.mpr ⟨lwm_3 (List.mem_of_getElem? (i := 119) rfl), List.forall_mem_cons.mpr ⟨lwm_3 (List.mem_of_getElem? (i := 120) rfl), List.forall_mem_cons.mpr ⟨lwm_3 (List.mem_of_getElem? (i := 121) rfl), List.forall_mem_cons.mpr ⟨lwm_3 (List.mem_of_getElem? (i := 122) rfl), fun _ h => absurd h List.not_mem_nil⟩⟩⟩⟩⟩⟩⟩⟩⟩⟩⟩⟩⟩⟩⟩⟩⟩⟩⟩⟩⟩⟩⟩⟩
set_option maxRecDepth 100000 in
theorem wsin_30 : ∀ w ∈ wsL_law_r30, w ∈ lw_tbl := List.forall_mem_cons.mpr ⟨lwm_3 (List.mem_of_getElem? (i := 123) rfl), List.forall_mem_cons.mpr ⟨lwm_3 (List.mem_of_getElem? (i := 124) rfl), List.forall_mem_cons.mpr ⟨lwm_3 (List.mem_of_getElem? (i := 125) rfl), List.forall_mem_cons.mpr ⟨lwm_3 (List.mem_of_getElem? (i := 126) rfl), List.forall_mem_cons.mpr ⟨lwm_3 (List.mem_of_getElem? (i := 128) rfl), List.forall_mem_cons.mpr ⟨lwm_3 (List.mem_of_getElem? (i := 129) rfl), List.forall_mem_cons.mpr ⟨lwm_3 (List.mem_of_getElem? (i := 130) rfl), List.forall_mem_cons.mpr ⟨lwm_3 (List.mem_of_getElem? (i := 131) rfl), List.forall_mem_cons.mpr ⟨lwm_5 (List.mem_of_getElem? (i := 32) rfl), List.forall_mem_cons.mpr ⟨lwm_5 (List.mem_of_getElem? (i := 33) rfl), List.forall_mem_cons.mpr ⟨lwm_5 (List.mem_of_getElem? (i := 34) rfl), List.forall_mem_cons.mpr ⟨lwm_5 (List.mem_of_getElem? (i := 35) rfl), List.forall_mem_cons.mpr ⟨lwm_3 (List.mem_of_getElem? (i := 132) rfl), List.forall_mem_cons.mpr ⟨lwm_3 (List.mem_of_getElem? (i := 133) rfl), List.forall_mem_cons.mpr ⟨lwm_3 (List.mem_of_getElem? (i := 134) rfl), List.forall_mem_cons.mpr ⟨lwm_3 (List.mem_of_getElem? (i := 135) rfl), List.forall_mem_cons.mpr ⟨lwm_3 (List.mem_of_getElem? (i := 136) rfl), List.forall_mem_cons.mpr ⟨lwm_5 (List.mem_of_getElem? (i := 36) rfl), List.forall_mem_cons.mpr ⟨lwm_5 (List.mem_of_getElem? (i := 37) rfl), List.forall_mem_cons.mpr ⟨lwm_5 (List.mem_of_getElem? (i := 38) rfl), List.forall_mem_cons.mpr ⟨lwm_5 (List.mem_of_getElem? (i := 39) rfl), List.forall_mem_cons.mpr ⟨lwm_3 (List.mem_of_getElem? (i := 137) rfl), List.forall_mem_cons.mpr ⟨lwm_3 (List.mem_of_getElem? (i := 138) rfl), List.forall_mem_cons.mpr ⟨lwm_3 (List.mem_of_getElem? (i := 139) rfl), fun _ h => absurd h List.not_mem_nil⟩⟩⟩⟩⟩⟩⟩⟩⟩⟩⟩⟩⟩⟩⟩⟩⟩⟩⟩⟩⟩⟩⟩⟩
set_option maxRecDepth 100000 in
theorem wsin_31 : ∀ w ∈ wsL_law_r31, w ∈ lw_tbl := List.forall_mem_cons.mpr ⟨lwm_3 (List.mem_of_getElem? (i := 140) rfl), List.forall_mem_cons.mpr ⟨lwm_3 (List.mem_of_getElem? (i := 141) rfl), List.forall_mem_cons.mpr ⟨lwm_5 (List.mem_of_getElem? (i := 40) rfl), List.forall_mem_cons.mpr ⟨lwm_5 (List.mem_of_getElem? (i := 41) rfl), List.forall_mem_cons.mpr ⟨lwm_5 (List.mem_of_getElem? (i := 42) rfl), List.forall_mem_cons.mpr ⟨lwm_5 (List.mem_of_getElem? (i := 43) rfl), List.forall_mem_cons.mpr ⟨lwm_3 (List.mem_of_getElem? (i := 142) rfl), List.forall_mem_cons.mpr ⟨lwm_3 (List.mem_of_getElem? (i := 143) rfl), List.forall_mem_cons.mpr ⟨lwm_3 (List.mem_of_getElem? (i := 144) rfl), List.forall_mem_cons.mpr ⟨lwm_3 (List.mem_of_getElem? (i := 145) rfl), List.forall_mem_cons.mpr ⟨lwm_3 (List.mem_of_getElem? (i := 146) rfl), List.forall_mem_cons.mpr ⟨lwm_5 (List.mem_of_getElem? (i := 44) rfl), List.forall_mem_cons.mpr ⟨lwm_5 (List.mem_of_getElem? (i := 45) rfl), List.forall_mem_cons.mpr ⟨lwm_5 (List.mem_of_getElem? (i := 46) rfl), List.forall_mem_cons.mpr ⟨lwm_5 (List.mem_of_getElem? (i := 47) rfl), List.forall_mem_cons.mpr ⟨lwm_5 (List.mem_of_getElem? (i := 52) rfl), List.forall_mem_cons.mpr ⟨lwm_5 (List.mem_of_getElem? (i := 48) rfl), List.forall_mem_cons.mpr ⟨lwm_5 (List.mem_of_getElem? (i := 50) rfl), List.forall_mem_cons.mpr ⟨lwm_0 (List.mem_of_getElem? (i := 42) rfl), List.forall_mem_cons.mpr ⟨lwm_5 (List.mem_of_getElem? (i := 51) rfl), List.forall_mem_cons.mpr ⟨lwm_3 (List.mem_of_getElem? (i := 147) rfl), List.forall_mem_cons.mpr ⟨lwm_3 (List.mem_of_getElem? (i := 148) rfl), List.forall_mem_cons.mpr ⟨lwm_3 (List.mem_of_getElem? (i := 149) rfl), List.forall_mem_cons.mpr ⟨lwm_3 (List.mem_of_getElem? (i := 150) rfl), fun _ h => absurd h List.not_mem_nil⟩⟩⟩⟩⟩⟩⟩⟩⟩⟩⟩⟩⟩⟩⟩⟩⟩⟩⟩⟩⟩⟩⟩⟩
set_option maxRecDepth 100000 in
theorem wsin_32 : ∀ w ∈ wsL_law_r32, w ∈ lw_tbl := List.forall_mem_cons.mpr ⟨lwm_3 (List.mem_of_getElem? (i := 151) rfl), List.forall_mem_cons.mpr ⟨lwm_3 (List.mem_of_getElem? (i := 152) rfl), List.forall_mem_cons.mpr ⟨lwm_3 (List.mem_of_getElem? (i := 153) rfl), List.forall_mem_cons.mpr ⟨lwm_5 (List.mem_of_getElem? (i := 53) rfl), List.forall_mem_cons.mpr ⟨lwm_5 (List.mem_of_getElem? (i := 54) rfl), List.forall_mem_cons.mpr ⟨lwm_5 (List.mem_of_getElem? (i := 55) rfl), List.forall_mem_cons.mpr ⟨lwm_5 (List.mem_of_getElem? (i := 56) rfl), List.forall_mem_cons.mpr ⟨lwm_3 (List.mem_of_getElem? (i := 154) rfl), List.forall_mem_cons.mpr ⟨lwm_3 (List.mem_of_getElem? (i := 155) rfl), List.forall_mem_cons.mpr ⟨lwm_3 (List.mem_of_getElem? (i := 156) rfl), List.forall_mem_cons.mpr ⟨lwm_3 (List.mem_of_getElem? (i := 157) rfl), List.forall_mem_cons.mpr ⟨lwm_5 (List.mem_of_getElem? (i := 57) rfl), List.forall_mem_cons.mpr ⟨lwm_5 (List.mem_of_getElem? (i := 58) rfl), List.forall_mem_cons.mpr ⟨lwm_5 (List.mem_of_getElem? (i := 59) rfl), List.forall_mem_cons.mpr ⟨lwm_5 (List.mem_of_getElem? (i := 60) rfl), List.forall_mem_cons.mpr ⟨lwm_3 (List.mem_of_getElem? (i := 158) rfl), List.forall_mem_cons.mpr ⟨lwm_3 (List.mem_of_getElem? (i := 159) rfl), List.forall_mem_cons.mpr ⟨lwm_3 (List.mem_of_getElem? (i := 160) rfl), List.forall_mem_cons.mpr ⟨lwm_3 (List.mem_of_getElem? (i := 161) rfl), List.forall_mem_cons.mpr ⟨lwm_5 (List.mem_of_getElem? (i := 61) rfl), List.forall_mem_cons.mpr ⟨lwm_5 (List.mem_of_getElem? (i := 62) rfl), List.forall_mem_cons.mpr ⟨lwm_5 (List.mem_of_getElem? (i := 63) rfl), List.forall_mem_cons.mpr ⟨lwm_5 (List.mem_of_getElem? (i := 64) rfl), List.forall_mem_cons.mpr ⟨lwm_5 (List.mem_of_getElem? (i := 65) rfl), fun _ h => absurd h List.not_mem_nil⟩⟩⟩⟩⟩⟩⟩⟩⟩⟩⟩⟩⟩⟩⟩⟩⟩⟩⟩⟩⟩⟩⟩⟩
set_option maxRecDepth 100000 in
theorem wsin_33 : ∀ w ∈ wsL_law_r33, w ∈ lw_tbl := List.forall_mem_cons.mpr ⟨lwm_5 (List.mem_of_getElem? (i := 66) rfl), List.forall_mem_cons.mpr ⟨lwm_5 (List.mem_of_getElem? (i := 67) rfl), List.forall_mem_cons.mpr ⟨lwm_3 (List.mem_of_getElem? (i := 162) rfl), List.forall_mem_cons.mpr ⟨lwm_3 (List.mem_of_getElem? (i := 163) rfl), List.forall_mem_cons.mpr ⟨lwm_3 (List.mem_of_getElem? (i := 164) rfl), List.forall_mem_cons.mpr ⟨lwm_3 (List.mem_of_getElem? (i := 165) rfl), List.forall_mem_cons.mpr ⟨lwm_3 (List.mem_of_getElem? (i := 169) rfl), List.forall_mem_cons.mpr ⟨lwm_3 (List.mem_of_getElem? (i := 175) rfl), List.forall_mem_cons.mpr ⟨lwm_1 (List.mem_of_getElem? (i := 204) rfl), List.forall_mem_cons.mpr ⟨lwm_3 (List.mem_of_getElem? (i := 166) rfl), List.forall_mem_cons.mpr ⟨lwm_3 (List.mem_of_getElem? (i := 167) rfl), List.forall_mem_cons.mpr ⟨lwm_3 (List.mem_of_getElem? (i := 168) rfl), List.forall_mem_cons.mpr ⟨lwm_3 (List.mem_of_getElem? (i := 170) rfl), List.forall_mem_cons.mpr ⟨lwm_3 (List.mem_of_getElem? (i := 171) rfl), List.forall_mem_cons.mpr ⟨lwm_3 (List.mem_of_getElem? (i := 172) rfl), List.forall_mem_cons.mpr ⟨lwm_3 (List.mem_of_getElem? (i := 173) rfl), List.forall_mem_cons.mpr ⟨lwm_1 (List.mem_of_getElem? (i := 198) rfl), List.forall_mem_cons.mpr ⟨lwm_3 (List.mem_of_getElem? (i := 176) rfl), List.forall_mem_cons.mpr ⟨lwm_3 (List.mem_of_getElem? (i := 177) rfl), List.forall_mem_cons.mpr ⟨lwm_3 (List.mem_of_getElem? (i := 178) rfl), List.forall_mem_cons.mpr ⟨lwm_3 (List.mem_of_getElem? (i := 179) rfl), List.forall_mem_cons.mpr ⟨lwm_5 (List.mem_of_getElem? (i := 68) rfl), List.forall_mem_cons.mpr ⟨lwm_5 (List.mem_of_getElem? (i := 69) rfl), List.forall_mem_cons.mpr ⟨lwm_5 (List.mem_of_getElem? (i := 70) rfl), fun _ h => absurd h List.not_mem_nil⟩⟩⟩⟩⟩⟩⟩⟩⟩⟩⟩⟩⟩⟩⟩⟩⟩⟩⟩⟩⟩⟩⟩⟩
set_option maxRecDepth 100000 in
theorem wsin_34 : ∀ w ∈ wsL_law_r34, w ∈ lw_tbl := List.forall_mem_cons.mpr ⟨lwm_5 (List.mem_of_getElem? (i := 71) rfl), List.forall_mem_cons.mpr ⟨lwm_5 (List.mem_of_getElem? (i := 78) rfl), List.forall_mem_cons.mpr ⟨lwm_5 (List.mem_of_getElem? (i := 79) rfl), List.forall_mem_cons.mpr ⟨lwm_5 (List.mem_of_getElem? (i := 84) rfl), List.forall_mem_cons.mpr ⟨lwm_5 (List.mem_of_getElem? (i := 72) rfl), List.forall_mem_cons.mpr ⟨lwm_5 (List.mem_of_getElem? (i := 73) rfl), List.forall_mem_cons.mpr ⟨lwm_5 (List.mem_of_getElem? (i := 74) rfl), List.forall_mem_cons.mpr ⟨lwm_5 (List.mem_of_getElem? (i := 75) rfl), List.forall_mem_cons.mpr ⟨lwm_5 (List.mem_of_getElem? (i := 76) rfl), List.forall_mem_cons.mpr ⟨lwm_5 (List.mem_of_getElem? (i := 77) rfl), List.forall_mem_cons.mpr ⟨lwm_5 (List.mem_of_getElem? (i := 80) rfl), List.forall_mem_cons.mpr ⟨lwm_5 (List.mem_of_getElem? (i := 82) rfl), List.forall_mem_cons.mpr ⟨lwm_0 (List.mem_of_getElem? (i := 43) rfl), List.forall_mem_cons.mpr ⟨lwm_5 (List.mem_of_getElem? (i := 83) rfl), List.forall_mem_cons.mpr ⟨lwm_3 (List.mem_of_getElem? (i := 181) rfl), List.forall_mem_cons.mpr ⟨lwm_3 (List.mem_of_getElem? (i := 182) rfl), List.forall_mem_cons.mpr ⟨lwm_3 (List.mem_of_getElem? (i := 183) rfl), List.forall_mem_cons.mpr ⟨lwm_3 (List.mem_of_getElem? (i := 184) rfl), List.forall_mem_cons.mpr ⟨lwm_3 (List.mem_of_getElem? (i := 185) rfl), List.forall_mem_cons.mpr ⟨lwm_5 (List.mem_of_getElem? (i := 85) rfl), List.forall_mem_cons.mpr ⟨lwm_5 (List.mem_of_getElem? (i := 86) rfl), List.forall_mem_cons.mpr ⟨lwm_5 (List.mem_of_getElem? (i := 87) rfl), List.forall_mem_cons.mpr ⟨lwm_5 (List.mem_of_getElem? (i := 88) rfl), List.forall_mem_cons.mpr ⟨lwm_5 (List.mem_of_getElem? (i := 89) rfl), fun _ h => absurd h List.not_mem_nil⟩⟩⟩⟩⟩⟩⟩⟩⟩⟩⟩⟩⟩⟩⟩⟩⟩⟩⟩⟩⟩⟩⟩⟩
set_option maxRecDepth 100000 in
theorem wsin_35 : ∀ w ∈ wsL_law_r35, w ∈ lw_tbl := List.forall_mem_cons.mpr ⟨lwm_3 (List.mem_of_getElem? (i := 186) rfl), List.forall_mem_cons.mpr ⟨lwm_3 (List.mem_of_getElem? (i := 187) rfl), List.forall_mem_cons.mpr ⟨lwm_3 (List.mem_of_getElem? (i := 188) rfl), List.forall_mem_cons.mpr ⟨lwm_3 (List.mem_of_getElem? (i := 189) rfl), List.forall_mem_cons.mpr ⟨lwm_3 (List.mem_of_getElem? (i := 190) rfl), List.forall_mem_cons.mpr ⟨lwm_3 (List.mem_of_getElem? (i := 191) rfl), List.forall_mem_cons.mpr ⟨lwm_3 (List.mem_of_getElem? (i := 192) rfl), List.forall_mem_cons.mpr ⟨lwm_3 (List.mem_of_getElem? (i := 193) rfl), List.forall_mem_cons.mpr ⟨lwm_5 (List.mem_of_getElem? (i := 90) rfl), List.forall_mem_cons.mpr ⟨lwm_5 (List.mem_of_getElem? (i := 91) rfl), List.forall_mem_cons.mpr ⟨lwm_5 (List.mem_of_getElem? (i := 92) rfl), List.forall_mem_cons.mpr ⟨lwm_5 (List.mem_of_getElem? (i := 93) rfl), List.forall_mem_cons.mpr ⟨lwm_5 (List.mem_of_getElem? (i := 94) rfl), List.forall_mem_cons.mpr ⟨lwm_3 (List.mem_of_getElem? (i := 194) rfl), List.forall_mem_cons.mpr ⟨lwm_3 (List.mem_of_getElem? (i := 195) rfl), List.forall_mem_cons.mpr ⟨lwm_3 (List.mem_of_getElem? (i := 196) rfl), List.forall_mem_cons.mpr ⟨lwm_3 (List.mem_of_getElem? (i := 197) rfl), List.forall_mem_cons.mpr ⟨lwm_3 (List.mem_of_getElem? (i := 198) rfl), List.forall_mem_cons.mpr ⟨lwm_3 (List.mem_of_getElem? (i := 199) rfl), List.forall_mem_cons.mpr ⟨lwm_3 (List.mem_of_getElem? (i := 200) rfl), List.forall_mem_cons.mpr ⟨lwm_3 (List.mem_of_getElem? (i := 201) rfl), List.forall_mem_cons.mpr ⟨lwm_3 (List.mem_of_getElem? (i := 202) rfl), List.forall_mem_cons.mpr ⟨lwm_5 (List.mem_of_getElem? (i := 95) rfl), List.forall_mem_cons.mpr ⟨lwm_5 (List.mem_of_getElem? (i := 96) rfl), fun _ h => absurd h List.not_mem_nil⟩⟩⟩⟩⟩⟩⟩⟩⟩⟩⟩⟩⟩⟩⟩⟩⟩⟩⟩⟩⟩⟩⟩⟩
set_option maxRecDepth 100000 in
theorem wsin_36 : ∀ w ∈ wsL_law_r36, w ∈ lw_tbl := List.forall_mem_cons.mpr ⟨lwm_5 (List.mem_of_getElem? (i := 97) rfl), List.forall_mem_cons.mpr ⟨lwm_5 (List.mem_of_getElem? (i := 98) rfl), List.forall_mem_cons.mpr ⟨lwm_3 (List.mem_of_getElem? (i := 203) rfl), List.forall_mem_cons.mpr ⟨lwm_3 (List.mem_of_getElem? (i := 204) rfl), List.forall_mem_cons.mpr ⟨lwm_3 (List.mem_of_getElem? (i := 205) rfl), List.forall_mem_cons.mpr ⟨lwm_3 (List.mem_of_getElem? (i := 206) rfl), List.forall_mem_cons.mpr ⟨lwm_1 (List.mem_of_getElem? (i := 202) rfl), List.forall_mem_cons.mpr ⟨lwm_3 (List.mem_of_getElem? (i := 207) rfl), List.forall_mem_cons.mpr ⟨lwm_5 (List.mem_of_getElem? (i := 99) rfl), List.forall_mem_cons.mpr ⟨lwm_5 (List.mem_of_getElem? (i := 100) rfl), List.forall_mem_cons.mpr ⟨lwm_5 (List.mem_of_getElem? (i := 101) rfl), List.forall_mem_cons.mpr ⟨lwm_5 (List.mem_of_getElem? (i := 102) rfl), List.forall_mem_cons.mpr ⟨lwm_3 (List.mem_of_getElem? (i := 208) rfl), List.forall_mem_cons.mpr ⟨lwm_3 (List.mem_of_getElem? (i := 209) rfl), List.forall_mem_cons.mpr ⟨lwm_3 (List.mem_of_getElem? (i := 210) rfl), List.forall_mem_cons.mpr ⟨lwm_3 (List.mem_of_getElem? (i := 211) rfl), List.forall_mem_cons.mpr ⟨lwm_5 (List.mem_of_getElem? (i := 103) rfl), List.forall_mem_cons.mpr ⟨lwm_5 (List.mem_of_getElem? (i := 104) rfl), List.forall_mem_cons.mpr ⟨lwm_5 (List.mem_of_getElem? (i := 105) rfl), List.forall_mem_cons.mpr ⟨lwm_5 (List.mem_of_getElem? (i := 106) rfl), List.forall_mem_cons.mpr ⟨lwm_3 (List.mem_of_getElem? (i := 212) rfl), List.forall_mem_cons.mpr ⟨lwm_3 (List.mem_of_getElem? (i := 213) rfl), List.forall_mem_cons.mpr ⟨lwm_3 (List.mem_of_getElem? (i := 214) rfl), List.forall_mem_cons.mpr ⟨lwm_3 (List.mem_of_getElem? (i := 215) rfl), fun _ h => absurd h List.not_mem_nil⟩⟩⟩⟩⟩⟩⟩⟩⟩⟩⟩⟩⟩⟩⟩⟩⟩⟩⟩⟩⟩⟩⟩⟩
set_option maxRecDepth 100000 in
theorem wsin_37 : ∀ w ∈ wsL_law_r37, w ∈ lw_tbl := List.forall_mem_cons.mpr ⟨lwm_1 (List.mem_of_getElem? (i := 111) rfl), List.forall_mem_cons.mpr ⟨lwm_1 (List.mem_of_getElem? (i := 87) rfl), List.forall_mem_cons.mpr ⟨lwm_1 (List.mem_of_getElem? (i := 90) rfl), List.forall_mem_cons.mpr ⟨lwm_1 (List.mem_of_getElem? (i := 93) rfl), List.forall_mem_cons.mpr ⟨lwm_3 (List.mem_of_getElem? (i := 216) rfl), List.forall_mem_cons.mpr ⟨lwm_3 (List.mem_of_getElem? (i := 217) rfl), List.forall_mem_cons.mpr ⟨lwm_3 (List.mem_of_getElem? (i := 218) rfl), List.forall_mem_cons.mpr ⟨lwm_3 (List.mem_of_getElem? (i := 219) rfl), List.forall_mem_cons.mpr ⟨lwm_3 (List.mem_of_getElem? (i := 220) rfl), List.forall_mem_cons.mpr ⟨lwm_3 (List.mem_of_getElem? (i := 222) rfl), List.forall_mem_cons.mpr ⟨lwm_0 (List.mem_of_getElem? (i := 16) rfl), List.forall_mem_cons.mpr ⟨lwm_3 (List.mem_of_getElem? (i := 223) rfl), List.forall_mem_cons.mpr ⟨lwm_3 (List.mem_of_getElem? (i := 224) rfl), List.forall_mem_cons.mpr ⟨lwm_3 (List.mem_of_getElem? (i := 225) rfl), List.forall_mem_cons.mpr ⟨lwm_1 (List.mem_of_getElem? (i := 14) rfl), List.forall_mem_cons.mpr ⟨lwm_3 (List.mem_of_getElem? (i := 226) rfl), List.forall_mem_cons.mpr ⟨lwm_3 (List.mem_of_getElem? (i := 227) rfl), List.forall_mem_cons.mpr ⟨lwm_3 (List.mem_of_getElem? (i := 228) rfl), List.forall_mem_cons.mpr ⟨lwm_3 (List.mem_of_getElem? (i := 229) rfl), List.forall_mem_cons.mpr ⟨lwm_3 (List.mem_of_getElem? (i := 230) rfl), List.forall_mem_cons.mpr ⟨lwm_3 (List.mem_of_getElem? (i := 231) rfl), List.forall_mem_cons.mpr ⟨lwm_3 (List.mem_of_getElem? (i := 233) rfl), List.forall_mem_cons.mpr ⟨lwm_0 (List.mem_of_getElem? (i := 17) rfl), List.forall_mem_cons.mpr ⟨lwm_3 (List.mem_of_getElem? (i := 234) rfl), fun _ h => absurd h List.not_mem_nil⟩⟩⟩⟩⟩⟩⟩⟩⟩⟩⟩⟩⟩⟩⟩⟩⟩⟩⟩⟩⟩⟩⟩⟩
set_option maxRecDepth 100000 in
theorem wsin_38 : ∀ w ∈ wsL_law_r38, w ∈ lw_tbl := List.forall_mem_cons.mpr ⟨lwm_3 (List.mem_of_getElem? (i := 235) rfl), List.forall_mem_cons.mpr ⟨lwm_3 (List.mem_of_getElem? (i := 237) rfl), List.forall_mem_cons.mpr ⟨lwm_0 (List.mem_of_getElem? (i := 18) rfl), List.forall_mem_cons.mpr ⟨lwm_3 (List.mem_of_getElem? (i := 238) rfl), List.forall_mem_cons.mpr ⟨lwm_5 (List.mem_of_getElem? (i := 107) rfl), List.forall_mem_cons.mpr ⟨lwm_5 (List.mem_of_getElem? (i := 108) rfl), List.forall_mem_cons.mpr ⟨lwm_5 (List.mem_of_getElem? (i := 109) rfl), List.forall_mem_cons.mpr ⟨lwm_5 (List.mem_of_getElem? (i := 110) rfl), List.forall_mem_cons.mpr ⟨lwm_5 (List.mem_of_getElem? (i := 111) rfl), List.forall_mem_cons.mpr ⟨lwm_5 (List.mem_of_getElem? (i := 113) rfl), List.forall_mem_cons.mpr ⟨lwm_0 (List.mem_of_getElem? (i := 44) rfl), List.forall_mem_cons.mpr ⟨lwm_5 (List.mem_of_getElem? (i := 114) rfl), List.forall_mem_cons.mpr ⟨lwm_5 (List.mem_of_getElem? (i := 115) rfl), List.forall_mem_cons.mpr ⟨lwm_5 (List.mem_of_getElem? (i := 117) rfl), List.forall_mem_cons.mpr ⟨lwm_0 (List.mem_of_getElem? (i := 45) rfl), List.forall_mem_cons.mpr ⟨lwm_5 (List.mem_of_getElem? (i := 118) rfl), List.forall_mem_cons.mpr ⟨lwm_5 (List.mem_of_getElem? (i := 119) rfl), List.forall_mem_cons.mpr ⟨lwm_5 (List.mem_of_getElem? (i := 121) rfl), List.forall_mem_cons.mpr ⟨lwm_0 (List.mem_of_getElem? (i := 46) rfl), List.forall_mem_cons.mpr ⟨lwm_5 (List.mem_of_getElem? (i := 122) rfl), fun _ h => absurd h List.not_mem_nil⟩⟩⟩⟩⟩⟩⟩⟩⟩⟩⟩⟩⟩⟩⟩⟩⟩⟩⟩⟩
theorem wsinX6 : ∀ w ∈ wsX60, w ∈ lw_tbl := List.forall_mem_cons.mpr ⟨lwm_1 (List.mem_of_getElem? (i := 221) rfl), List.forall_mem_cons.mpr ⟨lwm_1 (List.mem_of_getElem? (i := 223) rfl), List.forall_mem_cons.mpr ⟨lwm_1 (List.mem_of_getElem? (i := 225) rfl), List.forall_mem_cons.mpr ⟨lwm_1 (List.mem_of_getElem? (i := 227) rfl), List.forall_mem_cons.mpr ⟨lwm_1 (List.mem_of_getElem? (i := 229) rfl), fun _ h => absurd h List.not_mem_nil⟩⟩⟩⟩⟩
theorem wsinX7 : ∀ w ∈ wsX70, w ∈ lw_tbl := List.forall_mem_cons.mpr ⟨lwm_4 (List.mem_of_getElem? (i := 32) rfl), List.forall_mem_cons.mpr ⟨lwm_4 (List.mem_of_getElem? (i := 34) rfl), List.forall_mem_cons.mpr ⟨lwm_4 (List.mem_of_getElem? (i := 36) rfl), List.forall_mem_cons.mpr ⟨lwm_4 (List.mem_of_getElem? (i := 38) rfl), List.forall_mem_cons.mpr ⟨lwm_4 (List.mem_of_getElem? (i := 40) rfl), List.forall_mem_cons.mpr ⟨lwm_4 (List.mem_of_getElem? (i := 42) rfl), List.forall_mem_cons.mpr ⟨lwm_4 (List.mem_of_getElem? (i := 44) rfl), List.forall_mem_cons.mpr ⟨lwm_4 (List.mem_of_getElem? (i := 46) rfl), List.forall_mem_cons.mpr ⟨lwm_4 (List.mem_of_getElem? (i := 48) rfl), List.forall_mem_cons.mpr ⟨lwm_4 (List.mem_of_getElem? (i := 50) rfl), List.forall_mem_cons.mpr ⟨lwm_4 (List.mem_of_getElem? (i := 52) rfl), List.forall_mem_cons.mpr ⟨lwm_4 (List.mem_of_getElem? (i := 54) rfl), List.forall_mem_cons.mpr ⟨lwm_4 (List.mem_of_getElem? (i := 56) rfl), List.forall_mem_cons.mpr ⟨lwm_4 (List.mem_of_getElem? (i := 58) rfl), List.forall_mem_cons.mpr ⟨lwm_4 (List.mem_of_getElem? (i := 60) rfl), List.forall_mem_cons.mpr ⟨lwm_4 (List.mem_of_getElem? (i := 62) rfl), List.forall_mem_cons.mpr ⟨lwm_4 (List.mem_of_getElem? (i := 64) rfl), List.forall_mem_cons.mpr ⟨lwm_4 (List.mem_of_getElem? (i := 66) rfl), List.forall_mem_cons.mpr ⟨lwm_4 (List.mem_of_getElem? (i := 68) rfl), List.forall_mem_cons.mpr ⟨lwm_4 (List.mem_of_getElem? (i := 70) rfl), List.forall_mem_cons.mpr ⟨lwm_4 (List.mem_of_getElem? (i := 72) rfl), List.forall_mem_cons.mpr ⟨lwm_4 (List.mem_of_getElem? (i := 74) rfl), List.forall_mem_cons.mpr ⟨lwm_4 (List.mem_of_getElem? (i := 76) rfl), List.forall_mem_cons.mpr ⟨lwm_4 (List.mem_of_getElem? (i := 78) rfl), List.forall_mem_cons.mpr ⟨lwm_4 (List.mem_of_getElem? (i := 80) rfl), List.forall_mem_cons.mpr ⟨lwm_4 (List.mem_of_getElem? (i := 82) rfl), List.forall_mem_cons.mpr ⟨lwm_4 (List.mem_of_getElem? (i := 84) rfl), fun _ h => absurd h List.not_mem_nil⟩⟩⟩⟩⟩⟩⟩⟩⟩⟩⟩⟩⟩⟩⟩⟩⟩⟩⟩⟩⟩⟩⟩⟩⟩⟩⟩
theorem wsinX2 : ∀ w ∈ wsX20, w ∈ lw_tbl := List.forall_mem_cons.mpr ⟨lwm_1 (List.mem_of_getElem? (i := 153) rfl), List.forall_mem_cons.mpr ⟨lwm_1 (List.mem_of_getElem? (i := 155) rfl), List.forall_mem_cons.mpr ⟨lwm_1 (List.mem_of_getElem? (i := 157) rfl), fun _ h => absurd h List.not_mem_nil⟩⟩⟩
theorem wsinX4 : ∀ w ∈ wsX40, w ∈ lw_tbl := List.forall_mem_cons.mpr ⟨lwm_1 (List.mem_of_getElem? (i := 128) rfl), List.forall_mem_cons.mpr ⟨lwm_1 (List.mem_of_getElem? (i := 130) rfl), List.forall_mem_cons.mpr ⟨lwm_1 (List.mem_of_getElem? (i := 132) rfl), List.forall_mem_cons.mpr ⟨lwm_1 (List.mem_of_getElem? (i := 134) rfl), List.forall_mem_cons.mpr ⟨lwm_1 (List.mem_of_getElem? (i := 136) rfl), List.forall_mem_cons.mpr ⟨lwm_1 (List.mem_of_getElem? (i := 138) rfl), List.forall_mem_cons.mpr ⟨lwm_1 (List.mem_of_getElem? (i := 140) rfl), List.forall_mem_cons.mpr ⟨lwm_1 (List.mem_of_getElem? (i := 142) rfl), List.forall_mem_cons.mpr ⟨lwm_1 (List.mem_of_getElem? (i := 144) rfl), fun _ h => absurd h List.not_mem_nil⟩⟩⟩⟩⟩⟩⟩⟩⟩
theorem wsinX5 : ∀ w ∈ wsX50, w ∈ lw_tbl := List.forall_mem_cons.mpr ⟨lwm_1 (List.mem_of_getElem? (i := 94) rfl), List.forall_mem_cons.mpr ⟨lwm_1 (List.mem_of_getElem? (i := 96) rfl), List.forall_mem_cons.mpr ⟨lwm_1 (List.mem_of_getElem? (i := 98) rfl), List.forall_mem_cons.mpr ⟨lwm_1 (List.mem_of_getElem? (i := 100) rfl), List.forall_mem_cons.mpr ⟨lwm_1 (List.mem_of_getElem? (i := 102) rfl), List.forall_mem_cons.mpr ⟨lwm_1 (List.mem_of_getElem? (i := 104) rfl), List.forall_mem_cons.mpr ⟨lwm_1 (List.mem_of_getElem? (i := 106) rfl), fun _ h => absurd h List.not_mem_nil⟩⟩⟩⟩⟩⟩⟩
theorem wsinX1 : ∀ w ∈ wsX10, w ∈ lw_tbl := List.forall_mem_cons.mpr ⟨lwm_1 (List.mem_of_getElem? (i := 179) rfl), List.forall_mem_cons.mpr ⟨lwm_1 (List.mem_of_getElem? (i := 181) rfl), List.forall_mem_cons.mpr ⟨lwm_1 (List.mem_of_getElem? (i := 183) rfl), List.forall_mem_cons.mpr ⟨lwm_1 (List.mem_of_getElem? (i := 185) rfl), List.forall_mem_cons.mpr ⟨lwm_1 (List.mem_of_getElem? (i := 187) rfl), fun _ h => absurd h List.not_mem_nil⟩⟩⟩⟩⟩
theorem wsinX0 : ∀ w ∈ wsX00, w ∈ lw_tbl := List.forall_mem_cons.mpr ⟨lwm_1 (List.mem_of_getElem? (i := 205) rfl), List.forall_mem_cons.mpr ⟨lwm_1 (List.mem_of_getElem? (i := 207) rfl), List.forall_mem_cons.mpr ⟨lwm_1 (List.mem_of_getElem? (i := 209) rfl), List.forall_mem_cons.mpr ⟨lwm_1 (List.mem_of_getElem? (i := 211) rfl), List.forall_mem_cons.mpr ⟨lwm_1 (List.mem_of_getElem? (i := 213) rfl), fun _ h => absurd h List.not_mem_nil⟩⟩⟩⟩⟩
theorem wsinX3 : ∀ w ∈ wsX30, w ∈ lw_tbl := List.forall_mem_cons.mpr ⟨lwm_1 (List.mem_of_getElem? (i := 46) rfl), List.forall_mem_cons.mpr ⟨lwm_1 (List.mem_of_getElem? (i := 48) rfl), List.forall_mem_cons.mpr ⟨lwm_1 (List.mem_of_getElem? (i := 50) rfl), List.forall_mem_cons.mpr ⟨lwm_1 (List.mem_of_getElem? (i := 52) rfl), List.forall_mem_cons.mpr ⟨lwm_1 (List.mem_of_getElem? (i := 54) rfl), fun _ h => absurd h List.not_mem_nil⟩⟩⟩⟩⟩
theorem wsL_law_in : ∀ w ∈ wsL_law, w ∈ lw_tbl := by
  intro w h
  unfold wsL_law at h
  rcases List.mem_append.mp h with h | h
  rotate_left
  · exact absurd h List.not_mem_nil
  rcases List.mem_append.mp h with h | h
  rotate_left
  · exact wsinX3 w h
  rcases List.mem_append.mp h with h | h
  rotate_left
  · exact wsinX0 w h
  rcases List.mem_append.mp h with h | h
  rotate_left
  · exact wsinX1 w h
  rcases List.mem_append.mp h with h | h
  rotate_left
  · exact wsinX5 w h
  rcases List.mem_append.mp h with h | h
  rotate_left
  · exact wsinX4 w h
  rcases List.mem_append.mp h with h | h
  rotate_left
  · exact wsinX2 w h
  rcases List.mem_append.mp h with h | h
  rotate_left
  · exact wsinX7 w h
  rcases List.mem_append.mp h with h | h
  rotate_left
  · exact wsinX6 w h
  rcases List.mem_append.mp h with h | h
  · exact wsin_1 w h
  rcases List.mem_append.mp h with h | h
  · exact wsin_2 w h
  rcases List.mem_append.mp h with h | h
  · exact wsin_3 w h
  rcases List.mem_append.mp h with h | h
  · exact wsin_4 w h
  rcases List.mem_append.mp h with h | h
  · exact wsin_5 w h
  rcases List.mem_append.mp h with h | h
  · exact wsin_6 w h
  rcases List.mem_append.mp h with h | h
  · exact wsin_7 w h
  rcases List.mem_append.mp h with h | h
  · exact wsin_8 w h
  rcases List.mem_append.mp h with h | h
  · exact wsin_9 w h
  rcases List.mem_append.mp h with h | h
  · exact wsin_10 w h
  rcases List.mem_append.mp h with h | h
  · exact wsin_11 w h
  rcases List.mem_append.mp h with h | h
  · exact wsin_12 w h
  rcases List.mem_append.mp h with h | h
  · exact wsin_13 w h
  rcases List.mem_append.mp h with h | h
  · exact wsin_14 w h
  rcases List.mem_append.mp h with h | h
  · exact wsin_15 w h
  rcases List.mem_append.mp h with h | h
  · exact wsin_16 w h
  rcases List.mem_append.mp h with h | h
  · exact wsin_17 w h
  rcases List.mem_append.mp h with h | h
  · exact wsin_18 w h
  rcases List.mem_append.mp h with h | h
  · exact wsin_19 w h
  rcases List.mem_append.mp h with h | h
  · exact wsin_20 w h
  rcases List.mem_append.mp h with h | h
  · exact wsin_21 w h
  rcases List.mem_append.mp h with h | h
  · exact wsin_22 w h
  rcases List.mem_append.mp h with h | h
  · exact wsin_23 w h
  rcases List.mem_append.mp h with h | h
  · exact wsin_24 w h
  rcases List.mem_append.mp h with h | h
  · exact wsin_25 w h
  rcases List.mem_append.mp h with h | h
  · exact wsin_26 w h
  rcases List.mem_append.mp h with h | h
  · exact wsin_27 w h
  rcases List.mem_append.mp h with h | h
  · exact wsin_28 w h
  rcases List.mem_append.mp h with h | h
  · exact wsin_29 w h
  rcases List.mem_append.mp h with h | h
  · exact wsin_30 w h
  rcases List.mem_append.mp h with h | h
  · exact wsin_31 w h
  rcases List.mem_append.mp h with h | h
  · exact wsin_32 w h
  rcases List.mem_append.mp h with h | h
  · exact wsin_33 w h
  rcases List.mem_append.mp h with h | h
  · exact wsin_34 w h
  rcases List.mem_append.mp h with h | h
  · exact wsin_35 w h
  rcases List.mem_append.mp h with h | h
  · exact wsin_36 w h
  rcases List.mem_append.mp h with h | h
  · exact wsin_37 w h
  exact wsin_38 w h
theorem wsm_1 {w : Cond} (h : w ∈ wsL_law_r1) : w ∈ wsL_law := (List.mem_append_left _ (List.mem_append_left _ (List.mem_append_left _ (List.mem_append_left _ (List.mem_append_left _ (List.mem_append_left _ (List.mem_append_left _ (List.mem_append_left _ (List.mem_append_left _ (List.mem_append_left _ h))))))))))
theorem wsm_2 {w : Cond} (h : w ∈ wsL_law_r2) : w ∈ wsL_law := (List.mem_append_left _ (List.mem_append_left _ (List.mem_append_left _ (List.mem_append_left _ (List.mem_append_left _ (List.mem_append_left _ (List.mem_append_left _ (List.mem_append_left _ (List.mem_append_left _ (List.mem_append_right _ (List.mem_append_left _ h)))))))))))
theorem wsm_3 {w : Cond} (h : w ∈ wsL_law_r3) : w ∈ wsL_law := (List.mem_append_left _ (List.mem_append_left _ (List.mem_append_left _ (List.mem_append_left _ (List.mem_append_left _ (List.mem_append_left _ (List.mem_append_left _ (List.mem_append_left _ (List.mem_append_left _ (List.mem_append_right _ (List.mem_append_right _ (List.mem_append_left _ h))))))))))))
theorem wsm_4 {w : Cond} (h : w ∈ wsL_law_r4) : w ∈ wsL_law := (List.mem_append_left _ (List.mem_append_left _ (List.mem_append_left _ (List.mem_append_left _ (List.mem_append_left _ (List.mem_append_left _ (List.mem_append_left _ (List.mem_append_left _ (List.mem_append_left _ (List.mem_append_right _ (List.mem_append_right _ (List.mem_append_right _ (List.mem_append_left _ h)))))))))))))
theorem wsm_5 {w : Cond} (h : w ∈ wsL_law_r5) : w ∈ wsL_law := (List.mem_append_left _ (List.mem_append_left _ (List.mem_append_left _ (List.mem_append_left _ (List.mem_append_left _ (List.mem_append_left _ (List.mem_append_left _ (List.mem_append_left _ (List.mem_append_left _ (List.mem_append_right _ (List.mem_append_right _ (List.mem_append_right _ (List.mem_append_right _ (List.mem_append_left _ h))))))))))))))
theorem wsm_6 {w : Cond} (h : w ∈ wsL_law_r6) : w ∈ wsL_law := (List.mem_append_left _ (List.mem_append_left _ (List.mem_append_left _ (List.mem_append_left _ (List.mem_append_left _ (List.mem_append_left _ (List.mem_append_left _ (List.mem_append_left _ (List.mem_append_left _ (List.mem_append_right _ (List.mem_append_right _ (List.mem_append_right _ (List.mem_append_right _ (List.mem_append_right _ (List.mem_append_left _ h)))))))))))))))
theorem wsm_7 {w : Cond} (h : w ∈ wsL_law_r7) : w ∈ wsL_law := (List.mem_append_left _ (List.mem_append_left _ (List.mem_append_left _ (List.mem_append_left _ (List.mem_append_left _ (List.mem_append_left _ (List.mem_append_left _ (List.mem_append_left _ (List.mem_append_left _ (List.mem_append_right _ (List.mem_append_right _ (List.mem_append_right _ (List.mem_append_right _ (List.mem_append_right _ (List.mem_append_right _ (List.mem_append_left _ h))))))))))))))))
theorem wsm_8 {w : Cond} (h : w ∈ wsL_law_r8) : w ∈ wsL_law := (List.mem_append_left _ (List.mem_append_left _ (List.mem_append_left _ (List.mem_append_left _ (List.mem_append_left _ (List.mem_append_left _ (List.mem_append_left _ (List.mem_append_left _ (List.mem_append_left _ (List.mem_append_right _ (List.mem_append_right _ (List.mem_append_right _ (List.mem_append_right _ (List.mem_append_right _ (List.mem_append_right _ (List.mem_append_right _ (List.mem_append_left _ h)))))))))))))))))
theorem wsm_9 {w : Cond} (h : w ∈ wsL_law_r9) : w ∈ wsL_law := (List.mem_append_left _ (List.mem_append_left _ (List.mem_append_left _ (List.mem_append_left _ (List.mem_append_left _ (List.mem_append_left _ (List.mem_append_left _ (List.mem_append_left _ (List.mem_append_left _ (List.mem_append_right _ (List.mem_append_right _ (List.mem_append_right _ (List.mem_append_right _ (List.mem_append_right _ (List.mem_append_right _ (List.mem_append_right _ (List.mem_append_right _ (List.mem_append_left _ h))))))))))))))))))
theorem wsm_10 {w : Cond} (h : w ∈ wsL_law_r10) : w ∈ wsL_law := (List.mem_append_left _ (List.mem_append_left _ (List.mem_append_left _ (List.mem_append_left _ (List.mem_append_left _ (List.mem_append_left _ (List.mem_append_left _ (List.mem_append_left _ (List.mem_append_left _ (List.mem_append_right _ (List.mem_append_right _ (List.mem_append_right _ (List.mem_append_right _ (List.mem_append_right _ (List.mem_append_right _ (List.mem_append_right _ (List.mem_append_right _ (List.mem_append_right _ (List.mem_append_left _ h)))))))))))))))))))
theorem wsm_11 {w : Cond} (h : w ∈ wsL_law_r11) : w ∈ wsL_law := (List.mem_append_left _ (List.mem_append_left _ (List.mem_append_left _ (List.mem_append_left _ (List.mem_append_left _ (List.mem_append_left _ (List.mem_append_left _ (List.mem_append_left _ (List.mem_append_left _ (List.mem_append_right _ (List.mem_append_right _ (List.mem_append_right _ (List.mem_append_right _ (List.mem_append_right _ (List.mem_append_right _ (List.mem_append_right _ (List.mem_append_right _ (List.mem_append_right _ (List.mem_append_right _ (List.mem_append_left _ h))))))))))))))))))))
theorem wsm_12 {w : Cond} (h : w ∈ wsL_law_r12) : w ∈ wsL_law := (List.mem_append_left _ (List.mem_append_left _ (List.mem_append_left _ (List.mem_append_left _ (List.mem_append_left _ (List.mem_append_left _ (List.mem_append_left _ (List.mem_append_left _ (List.mem_append_left _ (List.mem_append_right _ (List.mem_append_right _ (List.mem_append_right _ (List.mem_append_right _ (List.mem_append_right _ (List.mem_append_right _ (List.mem_append_right _ (List.mem_append_right _ (List.mem_append_right _ (List.mem_append_right _ (List.mem_append_right _ (List.mem_append_left _ h)))))))))))))))))))))
theorem wsm_13 {w : Cond} (h : w ∈ wsL_law_r13) : w ∈ wsL_law := (List.mem_append_left _ (List.mem_append_left _ (List.mem_append_left _ (List.mem_append_left _ (List.mem_append_left _ (List.mem_append_left _ (List.mem_append_left _ (List.mem_append_left _ (List.mem_append_left _ (List.mem_append_right _ (List.mem_append_right _ (List.mem_append_right _ (List.mem_append_right _ (List.mem_append_right _ (List.mem_append_right _ (List.mem_append_right _ (List.mem_append_right _ (List.mem_append_right _ (List.mem_append_right _ (List.mem_append_right _ (List.mem_append_right _ (List.mem_append_left _ h))))))))))))))))))))))
theorem wsm_14 {w : Cond} (h : w ∈ wsL_law_r14) : w ∈ wsL_law := (List.mem_append_left _ (List.mem_append_left _ (List.mem_append_left _ (List.mem_append_left _ (List.mem_append_left _ (List.mem_append_left _ (List.mem_append_left _ (List.mem_append_left _ (List.mem_append_left _ (List.mem_append_right _ (List.mem_append_right _ (List.mem_append_right _ (List.mem_append_right _ (List.mem_append_right _ (List.mem_append_right _ (List.mem_append_right _ (List.mem_append_right _ (List.mem_append_right _ (List.mem_append_right _ (List.mem_append_right _ (List.mem_append_right _ (List.mem_append_right _ (List.mem_append_left _ h)))))))))))))))))))))))
theorem wsm_15 {w : Cond} (h : w ∈ wsL_law_r15) : w ∈ wsL_law := (List.mem_append_left _ (List.mem_append_left _ (List.mem_append_left _ (List.mem_append_left _ (List.mem_append_left _ (List.mem_append_left _ (List.mem_append_left _ (List.mem_append_left _ (List.mem_append_left _ (List.mem_append_right _ (List.mem_append_right _ (List.mem_append_right _ (List.mem_append_right _ (List.mem_append_right _ (List.mem_append_right _ (List.mem_append_right _ (List.mem_append_right _ (List.mem_append_right _ (List.mem_append_right _ (List.mem_append_right _ (List.mem_append_right _ (List.mem_append_right _ (List.mem_append_right _ (List.mem_append_left _ h))))))))))))))))))))))))
theorem wsm_16 {w : Cond} (h : w ∈ wsL_law_r16) : w ∈ wsL_law := (List.mem_append_left _ (List.mem_append_left _ (List.mem_append_left _ (List.mem_append_left _ (List.mem_append_left _ (List.mem_append_left _ (List.mem_append_left _ (List.mem_append_left _ (List.mem_append_left _ (List.mem_append_right _ (List.mem_append_right _ (List.mem_append_right _ (List.mem_append_right _ (List.mem_append_right _ (List.mem_append_right _ (List.mem_append_right _ (List.mem_append_right _ (List.mem_append_right _ (List.mem_append_right _ (List.mem_append_right _ (List.mem_append_right _ (List.mem_append_right _ (List.mem_append_right _ (List.mem_append_right _ (List.mem_append_left _ h)))))))))))))))))))))))))
theorem wsm_17 {w : Cond} (h : w ∈ wsL_law_r17) : w ∈ wsL_law := (List.mem_append_left _ (List.mem_append_left _ (List.mem_append_left _ (List.mem_append_left _ (List.mem_append_left _ (List.mem_append_left _ (List.mem_append_left _ (List.mem_append_left _ (List.mem_append_left _ (List.mem_append_right _ (List.mem_append_right _ (List.mem_append_right _ (List.mem_append_right _ (List.mem_append_right _ (List.mem_append_right _ (List.mem_append_right _ (List.mem_append_right _ (List.mem_append_right _ (List.mem_append_right _ (List.mem_append_right _ (List.mem_append_right _ (List.mem_append_right _ (List.mem_append_right _ (List.mem_append_right _ (List.mem_append_right _ (List.mem_append_left _ h))))))))))))))))))))))))))
theorem wsm_18 {w : Cond} (h : w ∈ wsL_law_r18) : w ∈ wsL_law := (List.mem_append_left _ (List.mem_append_left _ (List.mem_append_left _ (List.mem_append_left _ (List.mem_append_left _ (List.mem_append_left _ (List.mem_append_left _ (List.mem_append_left _ (List.mem_append_left _ (List.mem_append_right _ (List.mem_append_right _ (List.mem_append_right _ (List.mem_append_right _ (List.mem_append_right _ (List.mem_append_right _ (List.mem_append_right _ (List.mem_append_right _ (List.mem_append_right _ (List.mem_append_right _ (List.mem_append_right _ (List.mem_append_right _ (List.mem_append_right _ (List.mem_append_right _ (List.mem_append_right _ (List.mem_append_right _ (List.mem_append_right _ (List.mem_append_left _ h)))))))))))))))))))))))))))
theorem wsm_19 {w : Cond} (h : w ∈ wsL_law_r19) : w ∈ wsL_law := (List.mem_append_left _ (List.mem_append_left _ (List.mem_append_left _ (List.mem_append_left _ (List.mem_append_left _ (List.mem_append_left _ (List.mem_append_left _ (List.mem_append_left _ (List.mem_append_left _ (List.mem_append_right _ (List.mem_append_right _ (List.mem_append_right _ (List.mem_append_right _ (List.mem_append_right _ (List.mem_append_right _ (List.mem_append_right _ (List.mem_append_right _ (List.mem_append_right _ (List.mem_append_right _ (List.mem_append_right _ (List.mem_append_right _ (List.mem_append_right _ (List.mem_append_right _ (List.mem_append_right _ (List.mem_append_right _ (List.mem_append_right _ (List.mem_append_right _ (List.mem_append_left _ h))))))))))))))))))))))))))))
theorem wsm_20 {w : Cond} (h : w ∈ wsL_law_r20) : w ∈ wsL_law := (List.mem_append_left _ (List.mem_append_left _ (List.mem_append_left _ (List.mem_append_left _ (List.mem_append_left _ (List.mem_append_left _ (List.mem_append_left _ (List.mem_append_left _ (List.mem_append_left _ (List.mem_append_right _ (List.mem_append_right _ (List.mem_append_right _ (List.mem_append_right _ (List.mem_append_right _ (List.mem_append_right _ (List.mem_append_right _ (List.mem_append_right _ (List.mem_append_right _ (List.mem_append_right _ (List.mem_append_right _ (List.mem_append_right _ (List.mem_append_right _ (List.mem_append_right _ (List.mem_append_right _ (List.mem_append_right _ (List.mem_append_right _ (List.mem_append_right _ (List.mem_append_right _ (List.mem_append_left _ h)))))))))))))))))))))))))))))
theorem wsm_21 {w : Cond} (h : w ∈ wsL_law_r21) : w ∈ wsL_law := (List.mem_append_left _ (List.mem_append_left _ (List.mem_append_left _ (List.mem_append_left _ (List.mem_append_left _ (List.mem_append_left _ (List.mem_append_left _ (List.mem_append_left _ (List.mem_append_left _ (List.mem_append_right _ (List.mem_append_right _ (List.mem_append_right _ (List.mem_append_right _ (List.mem_append_right _ (List.mem_append_right _ (List.mem_append_right _ (List.mem_append_right _ (List.mem_append_right _ (List.mem_append_right _ (List.mem_append_right _ (List.mem_append_right _ (List.mem_append_right _ (List.mem_append_right _ (List.mem_append_right _ (List.mem_append_right _ (List.mem_append_right _ (List.mem_append_right _ (List.mem_append_right _ (List.mem_append_right _ (List.mem_append_left _ h))))))))))))))))))))))))))))))
theorem wsm_22 {w : Cond} (h : w ∈ wsL_law_r22) : w ∈ wsL_law := (List.mem_append_left _ (List.mem_append_left _ (List.mem_append_left _ (List.mem_append_left _ (List.mem_append_left _ (List.mem_append_left _ (List.mem_append_left _ (List.mem_append_left _ (List.mem_append_left _ (List.mem_append_right _ (List.mem_append_right _ (List.mem_append_right _ (List.mem_append_right _ (List.mem_append_right _ (List.mem_append_right _ (List.mem_append_right _ (List.mem_append_right _ (List.mem_append_right _ (List.mem_append_right _ (List.mem_append_right _ (List.mem_append_right _ (List.mem_append_right _ (List.mem_append_right _ (List.mem_append_right _ (List.mem_append_right _ (List.mem_append_right _ (List.mem_append_right _ (List.mem_append_right _ (List.mem_append_right _ (List.mem_append_right _ (List.mem_append_left _ h)))))))))))))))))))))))))))))))
theorem wsm_23 {w : Cond} (h : w ∈ wsL_law_r23) : w ∈ wsL_law := (List.mem_append_left _ (List.mem_append_left _ (List.mem_append_left _ (List.mem_append_left _ (List.mem_append_left _ (List.mem_append_left _ (List.mem_append_left _ (List.mem_append_left _ (List.mem_append_left _ (List.mem_append_right _ (List.mem_append_right _ (List.mem_append_right _ (List.mem_append_right _ (List.mem_append_right _ (List.mem_append_right _ (List.mem_append_right _ (List.mem_append_right _ (List.mem_append_right _ (List.mem_append_right _ (List.mem_append_right _ (List.mem_append_right _ (List.mem_append_right _ (List.mem_append_right _ (List.mem_append_right _ (List.mem_append_right _ (List.mem_append_right _ (List.mem_append_right _ (List.mem_append_right _ (List.mem_append_right _ (List.mem_append_right _ (List.mem_append_right _ (List.mem_append_left _ h))))))))))))))))))))))))))))))))
theorem wsm_24 {w : Cond} (h : w ∈ wsL_law_r24) : w ∈ wsL_law := (List.mem_append_left _ (List.mem_append_left _ (List.mem_append_left _ (List.mem_append_left _ (List.mem_append_left _ (List.mem_append_left _ (List.mem_append_left _ (List.mem_append_left _ (List.mem_append_left _ (List.mem_append_right _ (List.mem_append_right _ (List.mem_append_right _ (List.mem_append_right _ (List.mem_append_right _ (List.mem_append_right _ (List.mem_append_right _ (List.mem_append_right _ (List.mem_append_right _ (List.mem_append_right _ (List.mem_append_right _ (List.mem_append_right _ (List.mem_append_right _ (List.mem_append_right _ (List.mem_append_right _ (List.mem_append_right _ (List.mem_append_right _ (List.mem_append_right _ (List.mem_append_right _ (List.mem_append_right _ (List.mem_append_right _ (List.mem_append_right _ (List.mem_append_right _ (List.mem_append_left _ h)))))))))))))))))))))))))))))))))
theorem wsm_25 {w : Cond} (h : w ∈ wsL_law_r25) : w ∈ wsL_law := (List.mem_append_left _ (List.mem_append_left _ (List.mem_append_left _ (List.mem_append_left _ (List.mem_append_left _ (List.mem_append_left _ (List.mem_append_left _ (List.mem_append_left _ (List.mem_append_left _ (List.mem_append_right _ (List.mem_append_right _ (List.mem_append_right _ (List.mem_append_right _ (List.mem_append_right _ (List.mem_append_right _ (List.mem_append_right _ (List.mem_append_right _ (List.mem_append_right _ (List.mem_append_right _ (List.mem_append_right _ (List.mem_append_right _ (List.mem_append_right _ (List.mem_append_right _ (List.mem_append_right _ (List.mem_append_right _ (List.mem_append_right _ (List.mem_append_right _ (List.mem_append_right _ (List.mem_append_right _ (List.mem_append_right _ (List.mem_append_right _ (List.mem_append_right _ (List.mem_append_right _ (List.mem_append_left _ h))))))))))))))))))))))))))))))))))
theorem wsm_26 {w : Cond} (h : w ∈ wsL_law_r26) : w ∈ wsL_law := (List.mem_append_left _ (List.mem_append_left _ (List.mem_append_left _ (List.mem_append_left _ (List.mem_append_left _ (List.mem_append_left _ (List.mem_append_left _ (List.mem_append_left _ (List.mem_append_left _ (List.mem_append_right _ (List.mem_append_right _ (List.mem_append_right _ (List.mem_append_right _ (List.mem_append_right _ (List.mem_append_right _ (List.mem_append_right _ (List.mem_append_right _ (List.mem_append_right _ (List.mem_append_right _ (List.mem_append_right _ (List.mem_append_right _ (List.mem_append_right _ (List.mem_append_right _ (List.mem_append_right _ (List.mem_append_right _ (List.mem_append_right _ (List.mem_append_right _ (List.mem_append_right _ (List.mem_append_right _ (List.mem_append_right _ (List.mem_append_right _ (List.mem_append_right _ (List.mem_append_right _ (List.mem_append_right _ (List.mem_append_left _ h)))))))))))))))))))))))))))))))))))
theorem wsm_27 {w : Cond} (h : w ∈ wsL_law_r27) : w ∈ wsL_law := (List.mem_append_left _ (List.mem_append_left _ (List.mem_append_left _ (List.mem_append_left _ (List.mem_append_left _ (List.mem_append_left _ (List.mem_append_left _ (List.mem_append_left _ (List.mem_append_left _ (List.mem_append_right _ (List.mem_append_right _ (List.mem_append_right _ (List.mem_append_right _ (List.mem_append_right _ (List.mem_append_right _ (List.mem_append_right _ (List.mem_append_right _ (List.mem_append_right _ (List.mem_append_right _ (List.mem_append_right _ (List.mem_append_right _ (List.mem_append_right _ (List.mem_append_right _ (List.mem_append_right _ (List.mem_append_right _ (List.mem_append_right _ (List.mem_append_right _ (List.mem_append_right _ (List.mem_append_right _ (List.mem_append_right _ (List.mem_append_right _ (List.mem_append_right _ (List.mem_append_right _ (List.mem_append_right _ (List.mem_append_right _ (List.mem_append_left _ h))))))))))))))))))))))))))))))))))))
theorem wsm_28 {w : Cond} (h : w ∈ wsL_law_r28) : w ∈ wsL_law := (List.mem_append_left _ (List.mem_append_left _ (List.mem_append_left _ (List.mem_append_left _ (List.mem_append_left _ (List.mem_append_left _ (List.mem_append_left _ (List.mem_append_left _ (List.mem_append_left _ (List.mem_append_right _ (List.mem_append_right _ (List.mem_append_right _ (List.mem_append_right _ (List.mem_append_right _ (List.mem_append_right _ (List.mem_append_right _ (List.mem_append_right _ (List.mem_append_right _ (List.mem_append_right _ (List.mem_append_right _ (List.mem_append_right _ (List.mem_append_right _ (List.mem_append_right _ (List.mem_append_right _ (List.mem_append_right _ (List.mem_append_right _ (List.mem_append_right _ (List.mem_append_right _ (List.mem_append_right _ (List.mem_append_right _ (List.mem_append_right _ (List.mem_append_right _ (List.mem_append_right _ (List.mem_append_right _ (List.mem_append_right _ (List.mem_append_right _ (List.mem_append_left _ h)))))))))))))))))))))))))))))))))))))
theorem wsm_29 {w : Cond} (h : w ∈ wsL_law_r29) : w ∈ wsL_law := (List.mem_append_left _ (List.mem_append_left _ (List.mem_append_left _ (List.mem_append_left _ (List.mem_append_left _ (List.mem_append_left _ (List.mem_append_left _ (List.mem_append_left _ (List.mem_append_left _ (List.mem_append_right _ (List.mem_append_right _ (List.mem_append_right _ (List.mem_append_right _ (List.mem_append_right _ (List.mem_append_right _ (List.mem_append_right _ (List.mem_append_right _ (List.mem_append_right _ (List.mem_append_right _ (List.mem_append_right _ (List.mem_append_right _ (List.mem_append_right _ (List.mem_append_right _ (List.mem_append_right _ (List.mem_append_right _ (List.mem_append_right _ (List.mem_append_right _ (List.mem_append_right _ (List.mem_append_right _ (List.mem_append_right _ (List.mem_append_right _ (List.mem_append_right _ (List.mem_append_right _ (List.mem_append_right _ (List.mem_append_right _ (List.mem_append_right _ (List.mem_append_right _ (List.mem_append_left _ h))))))))))))))))))))))))))))))))))))))
theorem wsm_30 {w : Cond} (h : w ∈ wsL_law_r30) : w ∈ wsL_law := (List.mem_append_left _ (List.mem_append_left _ (List.mem_append_left _ (List.mem_append_left _ (List.mem_append_left _ (List.mem_append_left _ (List.mem_append_left _ (List.mem_append_left _ (List.mem_append_left _ (List.mem_append_right _ (List.mem_append_right _ (List.mem_append_right _ (List.mem_append_right _ (List.mem_append_right _ (List.mem_append_right _ (List.mem_append_right _ (List.mem_append_right _ (List.mem_append_right _ (List.mem_append_right _ (List.mem_append_right _ (List.mem_append_right _ (List.mem_append_right _ (List.mem_append_right _ (List.mem_append_right _ (List.mem_append_right _ (List.mem_append_right _ (List.mem_append_right _ (List.mem_append_right _ (List.mem_append_right _ (List.mem_append_right _ (List.mem_append_right _ (List.mem_append_right _ (List.mem_append_right _ (List.mem_append_right _ (List.mem_append_right _ (List.mem_append_right _ (List.mem_append_right _ (List.mem_append_right _ (List.mem_append_left _ h)))))))))))))))))))))))))))))))))))))))
theorem wsm_31 {w : Cond} (h : w ∈ wsL_law_r31) : w ∈ wsL_law := (List.mem_append_left _ (List.mem_append_left _ (List.mem_append_left _ (List.mem_append_left _ (List.mem_append_left _ (List.mem_append_left _ (List.mem_append_left _ (List.mem_append_left _ (List.mem_append_left _ (List.mem_append_right _ (List.mem_append_right _ (List.mem_append_right _ (List.mem_append_right _ (List.mem_append_right _ (List.mem_append_right _ (List.mem_append_right _ (List.mem_append_right _ (List.mem_append_right _ (List.mem_append_right _ (List.mem_append_right _ (List.mem_append_right _ (List.mem_append_right _ (List.mem_append_right _ (List.mem_append_right _ (List.mem_append_right _ (List.mem_append_right _ (List.mem_append_right _ (List.mem_append_right _ (List.mem_append_right _ (List.mem_append_right _ (List.mem_append_right _ (List.mem_append_right _ (List.mem_append_right _ (List.mem_append_right _ (List.mem_append_right _ (List.mem_append_right _ (List.mem_append_right _ (List.mem_append_right _ (List.mem_append_right _ (List.mem_append_left _ h))))))))))))))))))))))))))))))))))))))))
theorem wsm_32 {w : Cond} (h : w ∈ wsL_law_r32) : w ∈ wsL_law := (List.mem_append_left _ (List.mem_append_left _ (List.mem_append_left _ (List.mem_append_left _ (List.mem_append_left _ (List.mem_append_left _ (List.mem_append_left _ (List.mem_append_left _ (List.mem_append_left _ (List.mem_append_right _ (List.mem_append_right _ (List.mem_append_right _ (List.mem_append_right _ (List.mem_append_right _ (List.mem_append_right _ (List.mem_append_right _ (List.mem_append_right _ (List.mem_append_right _ (List.mem_append_right _ (List.mem_append_right _ (List.mem_append_right _ (List.mem_append_right _ (List.mem_append_right _ (List.mem_append_right _ (List.mem_append_right _ (List.mem_append_right _ (List.mem_append_right _ (List.mem_append_right _ (List.mem_append_right _ (List.mem_append_right _ (List.mem_append_right _ (List.mem_append_right _ (List.mem_append_right _ (List.mem_append_right _ (List.mem_append_right _ (List.mem_append_right _ (List.mem_append_right _ (List.mem_append_right _ (List.mem_append_right _ (List.mem_append_right _ (List.mem_append_left _ h)))))))))))))))))))))))))))))))))))))))))
theorem wsm_33 {w : Cond} (h : w ∈ wsL_law_r33) : w ∈ wsL_law := (List.mem_append_left _ (List.mem_append_left _ (List.mem_append_left _ (List.mem_append_left _ (List.mem_append_left _ (List.mem_append_left _ (List.mem_append_left _ (List.mem_append_left _ (List.mem_append_left _ (List.mem_append_right _ (List.mem_append_right _ (List.mem_append_right _ (List.mem_append_right _ (List.mem_append_right _ (List.mem_append_right _ (List.mem_append_right _ (List.mem_append_right _ (List.mem_append_right _ (List.mem_append_right _ (List.mem_append_right _ (List.mem_append_right _ (List.mem_append_right _ (List.mem_append_right _ (List.mem_append_right _ (List.mem_append_right _ (List.mem_append_right _ (List.mem_append_right _ (List.mem_append_right _ (List.mem_append_right _ (List.mem_append_right _ (List.mem_append_right _ (List.mem_append_right _ (List.mem_append_right _ (List.mem_append_right _ (List.mem_append_right _ (List.mem_append_right _ (List.mem_append_right _ (List.mem_append_right _ (List.mem_append_right _ (List.mem_append_right _ (List.mem_append_right _ (List.mem_append_left _ h))))))))))))))))))))))))))))))))))))))))))
theorem wsm_34 {w : Cond} (h : w ∈ wsL_law_r34) : w ∈ wsL_law := (List.mem_append_left _ (List.mem_append_left _ (List.mem_append_left _ (List.mem_append_left _ (List.mem_append_left _ (List.mem_append_left _ (List.mem_append_left _ (List.mem_append_left _ (List.mem_append_left _ (List.mem_append_right _ (List.mem_append_right _ (List.mem_append_right _ (List.mem_append_right _ (List.mem_append_right _ (List.mem_append_right _ (List.mem_append_right _ (List.mem_append_right _ (List.mem_append_right _ (List.mem_append_right _ (List.mem_append_right _ (List.mem_append_right _ (List.mem_append_right _ (List.mem_append_right _ (List.mem_append_right _ (List.mem_append_right _ (List.mem_append_right _ (List.mem_append_right _ (List.mem_append_right _ (List.mem_append_right _ (List.mem_append_right _ (List.mem_append_right _ (List.mem_append_right _ (List.mem_append_right _ (List.mem_append_right _ (List.mem_append_right _ (List.mem_append_right _ (List.mem_append_right _ (List.mem_append_right _ (List.mem_append_right _ (List.mem_append_right _ (List.mem_append_right _ (List.mem_append_right _ (List.mem_append_left _ h)))))))))))))))))))))))))))))))))))))))))))
theorem wsm_35 {w : Cond} (h : w ∈ wsL_law_r35) : w ∈ wsL_law := (List.mem_append_left _ (List.mem_append_left _ (List.mem_append_left _ (List.mem_append_left _ (List.mem_append_left _ (List.mem_append_left _ (List.mem_append_left _ (List.mem_append_left _ (List.mem_append_left _ (List.mem_append_right _ (List.mem_append_right _ (List.mem_append_right _ (List.mem_append_right _ (List.mem_append_right _ (List.mem_append_right _ (List.mem_append_right _ (List.mem_append_right _ (List.mem_append_right _ (List.mem_append_right _ (List.mem_append_right _ (List.mem_append_right _ (List.mem_append_right _ (List.mem_append_right _ (List.mem_append_right _ (List.mem_append_right _ (List.mem_append_right _ (List.mem_append_right _ (List.mem_append_right _ (List.mem_append_right _ (List.mem_append_right _ (List.mem_append_right _ (List.mem_append_right _ (List.mem_append_right _ (List.mem_append_right _ (List.mem_append_right _ (List.mem_append_right _ (List.mem_append_right _ (List.mem_append_right _ (List.mem_append_right _ (List.mem_append_right _ (List.mem_append_right _ (List.mem_append_right _ (List.mem_append_right _ (List.mem_append_left _ h))))))))))))))))))))))))))))))))))))))))))))
theorem wsm_36 {w : Cond} (h : w ∈ wsL_law_r36) : w ∈ wsL_law := (List.mem_append_left _ (List.mem_append_left _ (List.mem_append_left _ (List.mem_append_left _ (List.mem_append_left _ (List.mem_append_left _ (List.mem_append_left _ (List.mem_append_left _ (List.mem_append_left _ (List.mem_append_right _ (List.mem_append_right _ (List.mem_append_right _ (List.mem_append_right _ (List.mem_append_right _ (List.mem_append_right _ (List.mem_append_right _ (List.mem_append_right _ (List.mem_append_right _ (List.mem_append_right _ (List.mem_append_right _ (List.mem_append_right _ (List.mem_append_right _ (List.mem_append_right _ (List.mem_append_right _ (List.mem_append_right _ (List.mem_append_right _ (List.mem_append_right _ (List.mem_append_right _ (List.mem_append_right _ (List.mem_append_right _ (List.mem_append_right _ (List.mem_append_right _ (List.mem_append_right _ (List.mem_append_right _ (List.mem_append_right _ (List.mem_append_right _ (List.mem_append_right _ (List.mem_append_right _ (List.mem_append_right _ (List.mem_append_right _ (List.mem_append_right _ (List.mem_append_right _ (List.mem_append_right _ (List.mem_append_right _ (List.mem_append_left _ h)))))))))))))))))))))))))))))))))))))))))))))
theorem wsm_37 {w : Cond} (h : w ∈ wsL_law_r37) : w ∈ wsL_law := (List.mem_append_left _ (List.mem_append_left _ (List.mem_append_left _ (List.mem_append_left _ (List.mem_append_left _ (List.mem_append_left _ (List.mem_append_left _ (List.mem_append_left _ (List.mem_append_left _ (List.mem_append_right _ (List.mem_append_right _ (List.mem_append_right _ (List.mem_append_right _ (List.mem_append_right _ (List.mem_append_right _ (List.mem_append_right _ (List.mem_append_right _ (List.mem_append_right _ (List.mem_append_right _ (List.mem_append_right _ (List.mem_append_right _ (List.mem_append_right _ (List.mem_append_right _ (List.mem_append_right _ (List.mem_append_right _ (List.mem_append_right _ (List.mem_append_right _ (List.mem_append_right _ (List.mem_append_right _ (List.mem_append_right _ (List.mem_append_right _ (List.mem_append_right _ (List.mem_append_right _ (List.mem_append_right _ (List.mem_append_right _ (List.mem_append_right _ (List.mem_append_right _ (List.mem_append_right _ (List.mem_append_right _ (List.mem_append_right _ (List.mem_append_right _ (List.mem_append_right _ (List.mem_append_right _ (List.mem_append_right _ (List.mem_append_right _ (List.mem_append_left _ h))))))))))))))))))))))))))))))))))))))))))))))
theorem wsm_38 {w : Cond} (h : w ∈ wsL_law_r38) : w ∈ wsL_law := (List.mem_append_left _ (List.mem_append_left _ (List.mem_append_left _ (List.mem_append_left _ (List.mem_append_left _ (List.mem_append_left _ (List.mem_append_left _ (List.mem_append_left _ (List.mem_append_left _ (List.mem_append_right _ (List.mem_append_right _ (List.mem_append_right _ (List.mem_append_right _ (List.mem_append_right _ (List.mem_append_right _ (List.mem_append_right _ (List.mem_append_right _ (List.mem_append_right _ (List.mem_append_right _ (List.mem_append_right _ (List.mem_append_right _ (List.mem_append_right _ (List.mem_append_right _ (List.mem_append_right _ (List.mem_append_right _ (List.mem_append_right _ (List.mem_append_right _ (List.mem_append_right _ (List.mem_append_right _ (List.mem_append_right _ (List.mem_append_right _ (List.mem_append_right _ (List.mem_append_right _ (List.mem_append_right _ (List.mem_append_right _ (List.mem_append_right _ (List.mem_append_right _ (List.mem_append_right _ (List.mem_append_right _ (List.mem_append_right _ (List.mem_append_right _ (List.mem_append_right _ (List.mem_append_right _ (List.mem_append_right _ (List.mem_append_right _ (List.mem_append_right _ h))))))))))))))))))))))))))))))))))))))))))))))
theorem inlX0 : ∀ w ∈ wsX00, w ∈ wsL_law := fun _ h => List.mem_append_left _ (List.mem_append_left _ (List.mem_append_right _ h))
theorem inX0 : ∀ w ∈ wsX00, w ∈ lw_tbl := fun w h => wsL_law_in w (inlX0 w h)
theorem inlX1 : ∀ w ∈ wsX10, w ∈ wsL_law := fun _ h => List.mem_append_left _ (List.mem_append_left _ (List.mem_append_left _ (List.mem_append_right _ h)))
theorem inX1 : ∀ w ∈ wsX10, w ∈ lw_tbl := fun w h => wsL_law_in w (inlX1 w h)
theorem inlX2 : ∀ w ∈ wsX20, w ∈ wsL_law := fun _ h => List.mem_append_left _ (List.mem_append_left _ (List.mem_append_left _ (List.mem_append_left _ (List.mem_append_left _ (List.mem_append_left _ (List.mem_append_right _ h))))))
theorem inX2 : ∀ w ∈ wsX20, w ∈ lw_tbl := fun w h => wsL_law_in w (inlX2 w h)
theorem inlX3 : ∀ w ∈ wsX30, w ∈ wsL_law := fun _ h => List.mem_append_left _ (List.mem_append_right _ h)
theorem inX3 : ∀ w ∈ wsX30, w ∈ lw_tbl := fun w h => wsL_law_in w (inlX3 w h)
theorem inlX4 : ∀ w ∈ wsX40, w ∈ wsL_law := fun _ h => List.mem_append_left _ (List.mem_append_left _ (List.mem_append_left _ (List.mem_append_left _ (List.mem_append_left _ (List.mem_append_right _ h)))))
theorem inX4 : ∀ w ∈ wsX40, w ∈ lw_tbl := fun w h => wsL_law_in w (inlX4 w h)
theorem inlX5 : ∀ w ∈ wsX50, w ∈ wsL_law := fun _ h => List.mem_append_left _ (List.mem_append_left _ (List.mem_append_left _ (List.mem_append_left _ (List.mem_append_right _ h))))
theorem inX5 : ∀ w ∈ wsX50, w ∈ lw_tbl := fun w h => wsL_law_in w (inlX5 w h)
theorem inlX6 : ∀ w ∈ wsX60, w ∈ wsL_law := fun _ h => List.mem_append_left _ (List.mem_append_left _ (List.mem_append_left _ (List.mem_append_left _ (List.mem_append_left _ (List.mem_append_left _ (List.mem_append_left _ (List.mem_append_left _ (List.mem_append_right _ h))))))))
theorem inX6 : ∀ w ∈ wsX60, w ∈ lw_tbl := fun w h => wsL_law_in w (inlX6 w h)
theorem inlX7 : ∀ w ∈ wsX70, w ∈ wsL_law := fun _ h => List.mem_append_left _ (List.mem_append_left _ (List.mem_append_left _ (List.mem_append_left _ (List.mem_append_left _ (List.mem_append_left _ (List.mem_append_left _ (List.mem_append_right _ h)))))))
theorem inX7 : ∀ w ∈ wsX70, w ∈ lw_tbl := fun w h => wsL_law_in w (inlX7 w h)
theorem inJ6 : ∀ w ∈ wsJ60, w ∈ lw_tbl := by decide +kernel
theorem inJ9 : ∀ w ∈ wsJ90, w ∈ lw_tbl := by decide +kernel
theorem inJ0 : ∀ w ∈ wsJ00, w ∈ lw_tbl := by decide +kernel
theorem inJ1 : ∀ w ∈ wsJ10, w ∈ lw_tbl := by decide +kernel
theorem inJ2 : ∀ w ∈ wsJ20, w ∈ lw_tbl := by decide +kernel
theorem inJ3 : ∀ w ∈ wsJ30, w ∈ lw_tbl := by decide +kernel
theorem dX0_init_0 : decode cX0_init 0 = .ok (.aload_n 0, 1) := by decide +kernel
theorem dX0_init_1 : decode cX0_init 1 = .ok (.invokespecial 3, 3) := by decide +kernel
theorem dX0_init_4 : decode cX0_init 4 = .ok (.aload_n 0, 1) := by decide +kernel
theorem dX0_init_5 : decode cX0_init 5 = .ok (.bipush 8, 2) := by decide +kernel
theorem dX0_init_7 : decode cX0_init 7 = .ok (.newarray .int, 2) := by decide +kernel
theorem dX0_init_9 : decode cX0_init 9 = .ok (.putfield 9, 3) := by decide +kernel
theorem dX0_init_12 : decode cX0_init 12 = .ok (.aload_n 0, 1) := by decide +kernel
theorem dX0_init_13 : decode cX0_init 13 = .ok (.bipush 8, 2) := by decide +kernel
theorem dX0_init_15 : decode cX0_init 15 = .ok (.newarray .int, 2) := by decide +kernel
theorem dX0_init_17 : decode cX0_init 17 = .ok (.putfield 15, 3) := by decide +kernel
theorem dX0_init_20 : decode cX0_init 20 = .ok (.aload_n 0, 1) := by decide +kernel
theorem dX0_init_21 : decode cX0_init 21 = .ok (.bipush 8, 2) := by decide +kernel
theorem dX0_init_23 : decode cX0_init 23 = .ok (.newarray .int, 2) := by decide +kernel
theorem dX0_init_25 : decode cX0_init 25 = .ok (.putfield 18, 3) := by decide +kernel
theorem dX0_init_28 : decode cX0_init 28 = .ok (.return_, 1) := by decide +kernel
theorem dX0_placeOf_0 : decode cX0_placeOf 0 = .ok (.iconst 0, 1) := by decide +kernel
theorem dX0_placeOf_1 : decode cX0_placeOf 1 = .ok (.istore_n 3, 1) := by decide +kernel
theorem dX0_placeOf_2 : decode cX0_placeOf 2 = .ok (.iload_n 3, 1) := by decide +kernel
theorem dX0_placeOf_3 : decode cX0_placeOf 3 = .ok (.aload_n 0, 1) := by decide +kernel
theorem dX0_placeOf_4 : decode cX0_placeOf 4 = .ok (.getfield 21, 3) := by decide +kernel
theorem dX0_placeOf_7 : decode cX0_placeOf 7 = .ok (.if_icmp .ge 35, 3) := by decide +kernel
theorem dX0_placeOf_10 : decode cX0_placeOf 10 = .ok (.aload_n 0, 1) := by decide +kernel
theorem dX0_placeOf_11 : decode cX0_placeOf 11 = .ok (.getfield 9, 3) := by decide +kernel
theorem dX0_placeOf_14 : decode cX0_placeOf 14 = .ok (.iload_n 3, 1) := by decide +kernel
theorem dX0_placeOf_15 : decode cX0_placeOf 15 = .ok (.invokestatic 25, 3) := by decide +kernel
theorem dX0_placeOf_18 : decode cX0_placeOf 18 = .ok (.iload_n 1, 1) := by decide +kernel
theorem dX0_placeOf_19 : decode cX0_placeOf 19 = .ok (.if_icmp .ne 17, 3) := by decide +kernel
theorem dX0_placeOf_22 : decode cX0_placeOf 22 = .ok (.aload_n 0, 1) := by decide +kernel
theorem dX0_placeOf_23 : decode cX0_placeOf 23 = .ok (.getfield 15, 3) := by decide +kernel
theorem dX0_placeOf_26 : decode cX0_placeOf 26 = .ok (.iload_n 3, 1) := by decide +kernel
theorem dX0_placeOf_27 : decode cX0_placeOf 27 = .ok (.invokestatic 25, 3) := by decide +kernel
theorem dX0_placeOf_30 : decode cX0_placeOf 30 = .ok (.iload_n 2, 1) := by decide +kernel
theorem dX0_placeOf_31 : decode cX0_placeOf 31 = .ok (.if_icmp .ne 5, 3) := by decide +kernel
theorem dX0_placeOf_34 : decode cX0_placeOf 34 = .ok (.iload_n 3, 1) := by decide +kernel
theorem dX0_placeOf_35 : decode cX0_placeOf 35 = .ok (.ireturn, 1) := by decide +kernel
theorem dX0_placeOf_36 : decode cX0_placeOf 36 = .ok (.iinc 3 1, 3) := by decide +kernel
theorem dX0_placeOf_39 : decode cX0_placeOf 39 = .ok (.goto (-37), 3) := by decide +kernel
theorem dX0_placeOf_42 : decode cX0_placeOf 42 = .ok (.iconst (-1), 1) := by decide +kernel
theorem dX0_placeOf_43 : decode cX0_placeOf 43 = .ok (.ireturn, 1) := by decide +kernel
theorem dX0_enter_0 : decode cX0_enter 0 = .ok (.aload_n 0, 1) := by decide +kernel
theorem dX0_enter_1 : decode cX0_enter 1 = .ok (.getfield 9, 3) := by decide +kernel
theorem dX0_enter_4 : decode cX0_enter 4 = .ok (.aload_n 0, 1) := by decide +kernel
theorem dX0_enter_5 : decode cX0_enter 5 = .ok (.getfield 21, 3) := by decide +kernel
theorem dX0_enter_8 : decode cX0_enter 8 = .ok (.iload_n 1, 1) := by decide +kernel
theorem dX0_enter_9 : decode cX0_enter 9 = .ok (.invokestatic 29, 3) := by decide +kernel
theorem dX0_enter_12 : decode cX0_enter 12 = .ok (.aload_n 0, 1) := by decide +kernel
theorem dX0_enter_13 : decode cX0_enter 13 = .ok (.getfield 15, 3) := by decide +kernel
theorem dX0_enter_16 : decode cX0_enter 16 = .ok (.aload_n 0, 1) := by decide +kernel
theorem dX0_enter_17 : decode cX0_enter 17 = .ok (.getfield 21, 3) := by decide +kernel
theorem dX0_enter_20 : decode cX0_enter 20 = .ok (.iload_n 2, 1) := by decide +kernel
theorem dX0_enter_21 : decode cX0_enter 21 = .ok (.invokestatic 29, 3) := by decide +kernel
theorem dX0_enter_24 : decode cX0_enter 24 = .ok (.aload_n 0, 1) := by decide +kernel
theorem dX0_enter_25 : decode cX0_enter 25 = .ok (.getfield 18, 3) := by decide +kernel
theorem dX0_enter_28 : decode cX0_enter 28 = .ok (.aload_n 0, 1) := by decide +kernel
theorem dX0_enter_29 : decode cX0_enter 29 = .ok (.getfield 21, 3) := by decide +kernel
theorem dX0_enter_32 : decode cX0_enter 32 = .ok (.iload_n 3, 1) := by decide +kernel
theorem dX0_enter_33 : decode cX0_enter 33 = .ok (.invokestatic 29, 3) := by decide +kernel
theorem dX0_enter_36 : decode cX0_enter 36 = .ok (.aload_n 0, 1) := by decide +kernel
theorem dX0_enter_37 : decode cX0_enter 37 = .ok (.dup, 1) := by decide +kernel
theorem dX0_enter_38 : decode cX0_enter 38 = .ok (.getfield 21, 3) := by decide +kernel
theorem dX0_enter_41 : decode cX0_enter 41 = .ok (.iconst 1, 1) := by decide +kernel
theorem dX0_enter_42 : decode cX0_enter 42 = .ok (.iadd, 1) := by decide +kernel
theorem dX0_enter_43 : decode cX0_enter 43 = .ok (.putfield 21, 3) := by decide +kernel
theorem dX0_enter_46 : decode cX0_enter 46 = .ok (.iconst 0, 1) := by decide +kernel
theorem dX0_enter_47 : decode cX0_enter 47 = .ok (.ireturn, 1) := by decide +kernel
theorem dX0_remove_0 : decode cX0_remove 0 = .ok (.aload_n 0, 1) := by decide +kernel
theorem dX0_remove_1 : decode cX0_remove 1 = .ok (.getfield 18, 3) := by decide +kernel
theorem dX0_remove_4 : decode cX0_remove 4 = .ok (.iload_n 1, 1) := by decide +kernel
theorem dX0_remove_5 : decode cX0_remove 5 = .ok (.invokestatic 25, 3) := by decide +kernel
theorem dX0_remove_8 : decode cX0_remove 8 = .ok (.istore_n 2, 1) := by decide +kernel
theorem dX0_remove_9 : decode cX0_remove 9 = .ok (.aload_n 0, 1) := by decide +kernel
theorem dX0_remove_10 : decode cX0_remove 10 = .ok (.dup, 1) := by decide +kernel
theorem dX0_remove_11 : decode cX0_remove 11 = .ok (.getfield 21, 3) := by decide +kernel
theorem dX0_remove_14 : decode cX0_remove 14 = .ok (.iconst 1, 1) := by decide +kernel
theorem dX0_remove_15 : decode cX0_remove 15 = .ok (.isub, 1) := by decide +kernel
theorem dX0_remove_16 : decode cX0_remove 16 = .ok (.putfield 21, 3) := by decide +kernel
theorem dX0_remove_19 : decode cX0_remove 19 = .ok (.aload_n 0, 1) := by decide +kernel
theorem dX0_remove_20 : decode cX0_remove 20 = .ok (.getfield 9, 3) := by decide +kernel
theorem dX0_remove_23 : decode cX0_remove 23 = .ok (.iload_n 1, 1) := by decide +kernel
theorem dX0_remove_24 : decode cX0_remove 24 = .ok (.aload_n 0, 1) := by decide +kernel
theorem dX0_remove_25 : decode cX0_remove 25 = .ok (.getfield 9, 3) := by decide +kernel
theorem dX0_remove_28 : decode cX0_remove 28 = .ok (.aload_n 0, 1) := by decide +kernel
theorem dX0_remove_29 : decode cX0_remove 29 = .ok (.getfield 21, 3) := by decide +kernel
theorem dX0_remove_32 : decode cX0_remove 32 = .ok (.invokestatic 25, 3) := by decide +kernel
theorem dX0_remove_35 : decode cX0_remove 35 = .ok (.invokestatic 29, 3) := by decide +kernel
theorem dX0_remove_38 : decode cX0_remove 38 = .ok (.aload_n 0, 1) := by decide +kernel
theorem dX0_remove_39 : decode cX0_remove 39 = .ok (.getfield 15, 3) := by decide +kernel
theorem dX0_remove_42 : decode cX0_remove 42 = .ok (.iload_n 1, 1) := by decide +kernel
theorem dX0_remove_43 : decode cX0_remove 43 = .ok (.aload_n 0, 1) := by decide +kernel
theorem dX0_remove_44 : decode cX0_remove 44 = .ok (.getfield 15, 3) := by decide +kernel
theorem dX0_remove_47 : decode cX0_remove 47 = .ok (.aload_n 0, 1) := by decide +kernel
theorem dX0_remove_48 : decode cX0_remove 48 = .ok (.getfield 21, 3) := by decide +kernel
theorem dX0_remove_51 : decode cX0_remove 51 = .ok (.invokestatic 25, 3) := by decide +kernel
theorem dX0_remove_54 : decode cX0_remove 54 = .ok (.invokestatic 29, 3) := by decide +kernel
theorem dX0_remove_57 : decode cX0_remove 57 = .ok (.aload_n 0, 1) := by decide +kernel
theorem dX0_remove_58 : decode cX0_remove 58 = .ok (.getfield 18, 3) := by decide +kernel
theorem dX0_remove_61 : decode cX0_remove 61 = .ok (.iload_n 1, 1) := by decide +kernel
theorem dX0_remove_62 : decode cX0_remove 62 = .ok (.aload_n 0, 1) := by decide +kernel
theorem dX0_remove_63 : decode cX0_remove 63 = .ok (.getfield 18, 3) := by decide +kernel
theorem dX0_remove_66 : decode cX0_remove 66 = .ok (.aload_n 0, 1) := by decide +kernel
theorem dX0_remove_67 : decode cX0_remove 67 = .ok (.getfield 21, 3) := by decide +kernel
theorem dX0_remove_70 : decode cX0_remove 70 = .ok (.invokestatic 25, 3) := by decide +kernel
theorem dX0_remove_73 : decode cX0_remove 73 = .ok (.invokestatic 29, 3) := by decide +kernel
theorem dX0_remove_76 : decode cX0_remove 76 = .ok (.iload_n 2, 1) := by decide +kernel
theorem dX0_remove_77 : decode cX0_remove 77 = .ok (.ireturn, 1) := by decide +kernel
theorem dX0_alikeWith_0 : decode cX0_alikeWith 0 = .ok (.iconst 0, 1) := by decide +kernel
theorem dX0_alikeWith_1 : decode cX0_alikeWith 1 = .ok (.istore_n 2, 1) := by decide +kernel
theorem dX0_alikeWith_2 : decode cX0_alikeWith 2 = .ok (.iconst 0, 1) := by decide +kernel
theorem dX0_alikeWith_3 : decode cX0_alikeWith 3 = .ok (.istore_n 3, 1) := by decide +kernel
theorem dX0_alikeWith_4 : decode cX0_alikeWith 4 = .ok (.iload_n 3, 1) := by decide +kernel
theorem dX0_alikeWith_5 : decode cX0_alikeWith 5 = .ok (.aload_n 0, 1) := by decide +kernel
theorem dX0_alikeWith_6 : decode cX0_alikeWith 6 = .ok (.getfield 21, 3) := by decide +kernel
theorem dX0_alikeWith_9 : decode cX0_alikeWith 9 = .ok (.if_icmp .ge 60, 3) := by decide +kernel
theorem dX0_alikeWith_12 : decode cX0_alikeWith 12 = .ok (.aload_n 1, 1) := by decide +kernel
theorem dX0_alikeWith_13 : decode cX0_alikeWith 13 = .ok (.aload_n 0, 1) := by decide +kernel
theorem dX0_alikeWith_14 : decode cX0_alikeWith 14 = .ok (.getfield 9, 3) := by decide +kernel
theorem dX0_alikeWith_17 : decode cX0_alikeWith 17 = .ok (.iload_n 3, 1) := by decide +kernel
theorem dX0_alikeWith_18 : decode cX0_alikeWith 18 = .ok (.invokestatic 25, 3) := by decide +kernel
theorem dX0_alikeWith_21 : decode cX0_alikeWith 21 = .ok (.aload_n 0, 1) := by decide +kernel
theorem dX0_alikeWith_22 : decode cX0_alikeWith 22 = .ok (.getfield 15, 3) := by decide +kernel
theorem dX0_alikeWith_25 : decode cX0_alikeWith 25 = .ok (.iload_n 3, 1) := by decide +kernel
theorem dX0_alikeWith_26 : decode cX0_alikeWith 26 = .ok (.invokestatic 25, 3) := by decide +kernel
theorem dX0_alikeWith_29 : decode cX0_alikeWith 29 = .ok (.invokevirtual 33, 3) := by decide +kernel
theorem dX0_alikeWith_32 : decode cX0_alikeWith 32 = .ok (.istore 4, 2) := by decide +kernel
theorem dX0_alikeWith_34 : decode cX0_alikeWith 34 = .ok (.iload 4, 2) := by decide +kernel
theorem dX0_alikeWith_36 : decode cX0_alikeWith 36 = .ok (.iconst (-1), 1) := by decide +kernel
theorem dX0_alikeWith_37 : decode cX0_alikeWith 37 = .ok (.if_icmp .eq 26, 3) := by decide +kernel
theorem dX0_alikeWith_40 : decode cX0_alikeWith 40 = .ok (.aload_n 1, 1) := by decide +kernel
theorem dX0_alikeWith_41 : decode cX0_alikeWith 41 = .ok (.getfield 18, 3) := by decide +kernel
theorem dX0_alikeWith_44 : decode cX0_alikeWith 44 = .ok (.iload 4, 2) := by decide +kernel
theorem dX0_alikeWith_46 : decode cX0_alikeWith 46 = .ok (.invokestatic 25, 3) := by decide +kernel
theorem dX0_alikeWith_49 : decode cX0_alikeWith 49 = .ok (.aload_n 0, 1) := by decide +kernel
theorem dX0_alikeWith_50 : decode cX0_alikeWith 50 = .ok (.getfield 18, 3) := by decide +kernel
theorem dX0_alikeWith_53 : decode cX0_alikeWith 53 = .ok (.iload_n 3, 1) := by decide +kernel
theorem dX0_alikeWith_54 : decode cX0_alikeWith 54 = .ok (.invokestatic 25, 3) := by decide +kernel
theorem dX0_alikeWith_57 : decode cX0_alikeWith 57 = .ok (.if_icmp .ne 6, 3) := by decide +kernel
theorem dX0_alikeWith_60 : decode cX0_alikeWith 60 = .ok (.iinc 2 1, 3) := by decide +kernel
theorem dX0_alikeWith_63 : decode cX0_alikeWith 63 = .ok (.iinc 3 1, 3) := by decide +kernel
theorem dX0_alikeWith_66 : decode cX0_alikeWith 66 = .ok (.goto (-62), 3) := by decide +kernel
theorem dX0_alikeWith_69 : decode cX0_alikeWith 69 = .ok (.iload_n 2, 1) := by decide +kernel
theorem dX0_alikeWith_70 : decode cX0_alikeWith 70 = .ok (.ireturn, 1) := by decide +kernel
theorem dX1_init_0 : decode cX1_init 0 = .ok (.aload_n 0, 1) := by decide +kernel
theorem dX1_init_1 : decode cX1_init 1 = .ok (.invokespecial 3, 3) := by decide +kernel
theorem dX1_init_4 : decode cX1_init 4 = .ok (.aload_n 0, 1) := by decide +kernel
theorem dX1_init_5 : decode cX1_init 5 = .ok (.bipush 8, 2) := by decide +kernel
theorem dX1_init_7 : decode cX1_init 7 = .ok (.anewarray 9, 3) := by decide +kernel
theorem dX1_init_10 : decode cX1_init 10 = .ok (.putfield 11, 3) := by decide +kernel
theorem dX1_init_13 : decode cX1_init 13 = .ok (.aload_n 0, 1) := by decide +kernel
theorem dX1_init_14 : decode cX1_init 14 = .ok (.iconst 2, 1) := by decide +kernel
theorem dX1_init_15 : decode cX1_init 15 = .ok (.anewarray 9, 3) := by decide +kernel
theorem dX1_init_18 : decode cX1_init 18 = .ok (.putfield 17, 3) := by decide +kernel
theorem dX1_init_21 : decode cX1_init 21 = .ok (.aload_n 0, 1) := by decide +kernel
theorem dX1_init_22 : decode cX1_init 22 = .ok (.iconst 2, 1) := by decide +kernel
theorem dX1_init_23 : decode cX1_init 23 = .ok (.newarray .int, 2) := by decide +kernel
theorem dX1_init_25 : decode cX1_init 25 = .ok (.putfield 20, 3) := by decide +kernel
theorem dX1_init_28 : decode cX1_init 28 = .ok (.iconst 0, 1) := by decide +kernel
theorem dX1_init_29 : decode cX1_init 29 = .ok (.istore_n 1, 1) := by decide +kernel
theorem dX1_init_30 : decode cX1_init 30 = .ok (.iload_n 1, 1) := by decide +kernel
theorem dX1_init_31 : decode cX1_init 31 = .ok (.aload_n 0, 1) := by decide +kernel
theorem dX1_init_32 : decode cX1_init 32 = .ok (.getfield 11, 3) := by decide +kernel
theorem dX1_init_35 : decode cX1_init 35 = .ok (.arraylength, 1) := by decide +kernel
theorem dX1_init_36 : decode cX1_init 36 = .ok (.if_icmp .ge 22, 3) := by decide +kernel
theorem dX1_init_39 : decode cX1_init 39 = .ok (.aload_n 0, 1) := by decide +kernel
theorem dX1_init_40 : decode cX1_init 40 = .ok (.getfield 11, 3) := by decide +kernel
theorem dX1_init_43 : decode cX1_init 43 = .ok (.iload_n 1, 1) := by decide +kernel
theorem dX1_init_44 : decode cX1_init 44 = .ok (.new 9, 3) := by decide +kernel
theorem dX1_init_47 : decode cX1_init 47 = .ok (.dup, 1) := by decide +kernel
theorem dX1_init_48 : decode cX1_init 48 = .ok (.invokespecial 24, 3) := by decide +kernel
theorem dX1_init_51 : decode cX1_init 51 = .ok (.aastore, 1) := by decide +kernel
theorem dX1_init_52 : decode cX1_init 52 = .ok (.iinc 1 1, 3) := by decide +kernel
theorem dX1_init_55 : decode cX1_init 55 = .ok (.goto (-25), 3) := by decide +kernel
theorem dX1_init_58 : decode cX1_init 58 = .ok (.iconst 0, 1) := by decide +kernel
theorem dX1_init_59 : decode cX1_init 59 = .ok (.istore_n 1, 1) := by decide +kernel
theorem dX1_init_60 : decode cX1_init 60 = .ok (.iload_n 1, 1) := by decide +kernel
theorem dX1_init_61 : decode cX1_init 61 = .ok (.aload_n 0, 1) := by decide +kernel
theorem dX1_init_62 : decode cX1_init 62 = .ok (.getfield 17, 3) := by decide +kernel
theorem dX1_init_65 : decode cX1_init 65 = .ok (.arraylength, 1) := by decide +kernel
theorem dX1_init_66 : decode cX1_init 66 = .ok (.if_icmp .ge 22, 3) := by decide +kernel
theorem dX1_init_69 : decode cX1_init 69 = .ok (.aload_n 0, 1) := by decide +kernel
theorem dX1_init_70 : decode cX1_init 70 = .ok (.getfield 17, 3) := by decide +kernel
theorem dX1_init_73 : decode cX1_init 73 = .ok (.iload_n 1, 1) := by decide +kernel
theorem dX1_init_74 : decode cX1_init 74 = .ok (.new 9, 3) := by decide +kernel
theorem dX1_init_77 : decode cX1_init 77 = .ok (.dup, 1) := by decide +kernel
theorem dX1_init_78 : decode cX1_init 78 = .ok (.invokespecial 24, 3) := by decide +kernel
theorem dX1_init_81 : decode cX1_init 81 = .ok (.aastore, 1) := by decide +kernel
theorem dX1_init_82 : decode cX1_init 82 = .ok (.iinc 1 1, 3) := by decide +kernel
theorem dX1_init_85 : decode cX1_init 85 = .ok (.goto (-25), 3) := by decide +kernel
theorem dX1_init_88 : decode cX1_init 88 = .ok (.return_, 1) := by decide +kernel
theorem dX1_forget_0 : decode cX1_forget 0 = .ok (.aload_n 0, 1) := by decide +kernel
theorem dX1_forget_1 : decode cX1_forget 1 = .ok (.iconst 0, 1) := by decide +kernel
theorem dX1_forget_2 : decode cX1_forget 2 = .ok (.putfield 25, 3) := by decide +kernel
theorem dX1_forget_5 : decode cX1_forget 5 = .ok (.iconst 0, 1) := by decide +kernel
theorem dX1_forget_6 : decode cX1_forget 6 = .ok (.istore_n 1, 1) := by decide +kernel
theorem dX1_forget_7 : decode cX1_forget 7 = .ok (.iload_n 1, 1) := by decide +kernel
theorem dX1_forget_8 : decode cX1_forget 8 = .ok (.iconst 2, 1) := by decide +kernel
theorem dX1_forget_9 : decode cX1_forget 9 = .ok (.if_icmp .ge 18, 3) := by decide +kernel
theorem dX1_forget_12 : decode cX1_forget 12 = .ok (.aload_n 0, 1) := by decide +kernel
theorem dX1_forget_13 : decode cX1_forget 13 = .ok (.getfield 20, 3) := by decide +kernel
theorem dX1_forget_16 : decode cX1_forget 16 = .ok (.iload_n 1, 1) := by decide +kernel
theorem dX1_forget_17 : decode cX1_forget 17 = .ok (.iconst 0, 1) := by decide +kernel
theorem dX1_forget_18 : decode cX1_forget 18 = .ok (.invokestatic 29, 3) := by decide +kernel
theorem dX1_forget_21 : decode cX1_forget 21 = .ok (.iinc 1 1, 3) := by decide +kernel
theorem dX1_forget_24 : decode cX1_forget 24 = .ok (.goto (-17), 3) := by decide +kernel
theorem dX1_forget_27 : decode cX1_forget 27 = .ok (.return_, 1) := by decide +kernel
theorem dX1_slot_0 : decode cX1_slot 0 = .ok (.aload_n 0, 1) := by decide +kernel
theorem dX1_slot_1 : decode cX1_slot 1 = .ok (.ifnull 19, 3) := by decide +kernel
theorem dX1_slot_4 : decode cX1_slot 4 = .ok (.iload_n 1, 1) := by decide +kernel
theorem dX1_slot_5 : decode cX1_slot 5 = .ok (.ifCond .lt 15, 3) := by decide +kernel
theorem dX1_slot_8 : decode cX1_slot 8 = .ok (.iload_n 1, 1) := by decide +kernel
theorem dX1_slot_9 : decode cX1_slot 9 = .ok (.aload_n 0, 1) := by decide +kernel
theorem dX1_slot_10 : decode cX1_slot 10 = .ok (.arraylength, 1) := by decide +kernel
theorem dX1_slot_11 : decode cX1_slot 11 = .ok (.if_icmp .ge 9, 3) := by decide +kernel
theorem dX1_slot_14 : decode cX1_slot 14 = .ok (.aload_n 0, 1) := by decide +kernel
theorem dX1_slot_15 : decode cX1_slot 15 = .ok (.iload_n 1, 1) := by decide +kernel
theorem dX1_slot_16 : decode cX1_slot 16 = .ok (.aaload, 1) := by decide +kernel
theorem dX1_slot_17 : decode cX1_slot 17 = .ok (.goto 4, 3) := by decide +kernel
theorem dX1_slot_20 : decode cX1_slot 20 = .ok (.aconst_null, 1) := by decide +kernel
theorem dX1_slot_21 : decode cX1_slot 21 = .ok (.areturn, 1) := by decide +kernel
theorem dX1_remember_0 : decode cX1_remember 0 = .ok (.aload_n 0, 1) := by decide +kernel
theorem dX1_remember_1 : decode cX1_remember 1 = .ok (.getfield 11, 3) := by decide +kernel
theorem dX1_remember_4 : decode cX1_remember 4 = .ok (.aload_n 0, 1) := by decide +kernel
theorem dX1_remember_5 : decode cX1_remember 5 = .ok (.getfield 33, 3) := by decide +kernel
theorem dX1_remember_8 : decode cX1_remember 8 = .ok (.invokestatic 36, 3) := by decide +kernel
theorem dX1_remember_11 : decode cX1_remember 11 = .ok (.astore_n 2, 1) := by decide +kernel
theorem dX1_remember_12 : decode cX1_remember 12 = .ok (.aload_n 2, 1) := by decide +kernel
theorem dX1_remember_13 : decode cX1_remember 13 = .ok (.ifnonnull 4, 3) := by decide +kernel
theorem dX1_remember_16 : decode cX1_remember 16 = .ok (.return_, 1) := by decide +kernel
theorem dX1_remember_17 : decode cX1_remember 17 = .ok (.aload_n 2, 1) := by decide +kernel
theorem dX1_remember_18 : decode cX1_remember 18 = .ok (.aload_n 1, 1) := by decide +kernel
theorem dX1_remember_19 : decode cX1_remember 19 = .ok (.invokevirtual 40, 3) := by decide +kernel
theorem dX1_remember_22 : decode cX1_remember 22 = .ok (.aload_n 0, 1) := by decide +kernel
theorem dX1_remember_23 : decode cX1_remember 23 = .ok (.aload_n 0, 1) := by decide +kernel
theorem dX1_remember_24 : decode cX1_remember 24 = .ok (.getfield 33, 3) := by decide +kernel
theorem dX1_remember_27 : decode cX1_remember 27 = .ok (.iconst 1, 1) := by decide +kernel
theorem dX1_remember_28 : decode cX1_remember 28 = .ok (.iadd, 1) := by decide +kernel
theorem dX1_remember_29 : decode cX1_remember 29 = .ok (.bipush 8, 2) := by decide +kernel
theorem dX1_remember_31 : decode cX1_remember 31 = .ok (.irem, 1) := by decide +kernel
theorem dX1_remember_32 : decode cX1_remember 32 = .ok (.putfield 33, 3) := by decide +kernel
theorem dX1_remember_35 : decode cX1_remember 35 = .ok (.aload_n 0, 1) := by decide +kernel
theorem dX1_remember_36 : decode cX1_remember 36 = .ok (.aload_n 0, 1) := by decide +kernel
theorem dX1_remember_37 : decode cX1_remember 37 = .ok (.getfield 25, 3) := by decide +kernel
theorem dX1_remember_40 : decode cX1_remember 40 = .ok (.iconst 1, 1) := by decide +kernel
theorem dX1_remember_41 : decode cX1_remember 41 = .ok (.iadd, 1) := by decide +kernel
theorem dX1_remember_42 : decode cX1_remember 42 = .ok (.bipush 8, 2) := by decide +kernel
theorem dX1_remember_44 : decode cX1_remember 44 = .ok (.invokestatic 44, 3) := by decide +kernel
theorem dX1_remember_47 : decode cX1_remember 47 = .ok (.putfield 25, 3) := by decide +kernel
theorem dX1_remember_50 : decode cX1_remember 50 = .ok (.return_, 1) := by decide +kernel
theorem dX1_takeBack_0 : decode cX1_takeBack 0 = .ok (.aload_n 0, 1) := by decide +kernel
theorem dX1_takeBack_1 : decode cX1_takeBack 1 = .ok (.getfield 33, 3) := by decide +kernel
theorem dX1_takeBack_4 : decode cX1_takeBack 4 = .ok (.bipush 8, 2) := by decide +kernel
theorem dX1_takeBack_6 : decode cX1_takeBack 6 = .ok (.iadd, 1) := by decide +kernel
theorem dX1_takeBack_7 : decode cX1_takeBack 7 = .ok (.iconst 1, 1) := by decide +kernel
theorem dX1_takeBack_8 : decode cX1_takeBack 8 = .ok (.isub, 1) := by decide +kernel
theorem dX1_takeBack_9 : decode cX1_takeBack 9 = .ok (.bipush 8, 2) := by decide +kernel
theorem dX1_takeBack_11 : decode cX1_takeBack 11 = .ok (.irem, 1) := by decide +kernel
theorem dX1_takeBack_12 : decode cX1_takeBack 12 = .ok (.istore_n 2, 1) := by decide +kernel
theorem dX1_takeBack_13 : decode cX1_takeBack 13 = .ok (.aload_n 0, 1) := by decide +kernel
theorem dX1_takeBack_14 : decode cX1_takeBack 14 = .ok (.getfield 11, 3) := by decide +kernel
theorem dX1_takeBack_17 : decode cX1_takeBack 17 = .ok (.iload_n 2, 1) := by decide +kernel
theorem dX1_takeBack_18 : decode cX1_takeBack 18 = .ok (.invokestatic 36, 3) := by decide +kernel
theorem dX1_takeBack_21 : decode cX1_takeBack 21 = .ok (.astore_n 3, 1) := by decide +kernel
theorem dX1_takeBack_22 : decode cX1_takeBack 22 = .ok (.aload_n 3, 1) := by decide +kernel
theorem dX1_takeBack_23 : decode cX1_takeBack 23 = .ok (.ifnull 10, 3) := by decide +kernel
theorem dX1_takeBack_26 : decode cX1_takeBack 26 = .ok (.aload_n 0, 1) := by decide +kernel
theorem dX1_takeBack_27 : decode cX1_takeBack 27 = .ok (.getfield 25, 3) := by decide +kernel
theorem dX1_takeBack_30 : decode cX1_takeBack 30 = .ok (.ifCond .ne 4, 3) := by decide +kernel
theorem dX1_takeBack_33 : decode cX1_takeBack 33 = .ok (.return_, 1) := by decide +kernel
theorem dX1_takeBack_34 : decode cX1_takeBack 34 = .ok (.aload_n 1, 1) := by decide +kernel
theorem dX1_takeBack_35 : decode cX1_takeBack 35 = .ok (.aload_n 3, 1) := by decide +kernel
theorem dX1_takeBack_36 : decode cX1_takeBack 36 = .ok (.invokevirtual 40, 3) := by decide +kernel
theorem dX1_takeBack_39 : decode cX1_takeBack 39 = .ok (.aload_n 0, 1) := by decide +kernel
theorem dX1_takeBack_40 : decode cX1_takeBack 40 = .ok (.iload_n 2, 1) := by decide +kernel
theorem dX1_takeBack_41 : decode cX1_takeBack 41 = .ok (.putfield 33, 3) := by decide +kernel
theorem dX1_takeBack_44 : decode cX1_takeBack 44 = .ok (.aload_n 0, 1) := by decide +kernel
theorem dX1_takeBack_45 : decode cX1_takeBack 45 = .ok (.dup, 1) := by decide +kernel
theorem dX1_takeBack_46 : decode cX1_takeBack 46 = .ok (.getfield 25, 3) := by decide +kernel
theorem dX1_takeBack_49 : decode cX1_takeBack 49 = .ok (.iconst 1, 1) := by decide +kernel
theorem dX1_takeBack_50 : decode cX1_takeBack 50 = .ok (.isub, 1) := by decide +kernel
theorem dX1_takeBack_51 : decode cX1_takeBack 51 = .ok (.putfield 25, 3) := by decide +kernel
theorem dX1_takeBack_54 : decode cX1_takeBack 54 = .ok (.return_, 1) := by decide +kernel
theorem dX1_isStored_0 : decode cX1_isStored 0 = .ok (.aload_n 0, 1) := by decide +kernel
theorem dX1_isStored_1 : decode cX1_isStored 1 = .ok (.getfield 20, 3) := by decide +kernel
theorem dX1_isStored_4 : decode cX1_isStored 4 = .ok (.iload_n 1, 1) := by decide +kernel
theorem dX1_isStored_5 : decode cX1_isStored 5 = .ok (.invokestatic 50, 3) := by decide +kernel
theorem dX1_isStored_8 : decode cX1_isStored 8 = .ok (.iconst 1, 1) := by decide +kernel
theorem dX1_isStored_9 : decode cX1_isStored 9 = .ok (.if_icmp .ne 7, 3) := by decide +kernel
theorem dX1_isStored_12 : decode cX1_isStored 12 = .ok (.iconst 1, 1) := by decide +kernel
theorem dX1_isStored_13 : decode cX1_isStored 13 = .ok (.goto 4, 3) := by decide +kernel
theorem dX1_isStored_16 : decode cX1_isStored 16 = .ok (.iconst 0, 1) := by decide +kernel
theorem dX1_isStored_17 : decode cX1_isStored 17 = .ok (.ireturn, 1) := by decide +kernel
theorem dX1_store_0 : decode cX1_store 0 = .ok (.aload_n 0, 1) := by decide +kernel
theorem dX1_store_1 : decode cX1_store 1 = .ok (.getfield 17, 3) := by decide +kernel
theorem dX1_store_4 : decode cX1_store 4 = .ok (.iload_n 1, 1) := by decide +kernel
theorem dX1_store_5 : decode cX1_store 5 = .ok (.invokestatic 36, 3) := by decide +kernel
theorem dX1_store_8 : decode cX1_store 8 = .ok (.astore_n 3, 1) := by decide +kernel
theorem dX1_store_9 : decode cX1_store 9 = .ok (.aload_n 3, 1) := by decide +kernel
theorem dX1_store_10 : decode cX1_store 10 = .ok (.ifnonnull 4, 3) := by decide +kernel
theorem dX1_store_13 : decode cX1_store 13 = .ok (.return_, 1) := by decide +kernel
theorem dX1_store_14 : decode cX1_store 14 = .ok (.aload_n 3, 1) := by decide +kernel
theorem dX1_store_15 : decode cX1_store 15 = .ok (.aload_n 2, 1) := by decide +kernel
theorem dX1_store_16 : decode cX1_store 16 = .ok (.invokevirtual 40, 3) := by decide +kernel
theorem dX1_store_19 : decode cX1_store 19 = .ok (.aload_n 0, 1) := by decide +kernel
theorem dX1_store_20 : decode cX1_store 20 = .ok (.getfield 20, 3) := by decide +kernel
theorem dX1_store_23 : decode cX1_store 23 = .ok (.iload_n 1, 1) := by decide +kernel
theorem dX1_store_24 : decode cX1_store 24 = .ok (.iconst 1, 1) := by decide +kernel
theorem dX1_store_25 : decode cX1_store 25 = .ok (.invokestatic 29, 3) := by decide +kernel
theorem dX1_store_28 : decode cX1_store 28 = .ok (.return_, 1) := by decide +kernel
theorem dX1_restore_0 : decode cX1_restore 0 = .ok (.aload_n 0, 1) := by decide +kernel
theorem dX1_restore_1 : decode cX1_restore 1 = .ok (.getfield 17, 3) := by decide +kernel
theorem dX1_restore_4 : decode cX1_restore 4 = .ok (.iload_n 1, 1) := by decide +kernel
theorem dX1_restore_5 : decode cX1_restore 5 = .ok (.invokestatic 36, 3) := by decide +kernel
theorem dX1_restore_8 : decode cX1_restore 8 = .ok (.astore_n 3, 1) := by decide +kernel
theorem dX1_restore_9 : decode cX1_restore 9 = .ok (.aload_n 3, 1) := by decide +kernel
theorem dX1_restore_10 : decode cX1_restore 10 = .ok (.ifnonnull 4, 3) := by decide +kernel
theorem dX1_restore_13 : decode cX1_restore 13 = .ok (.return_, 1) := by decide +kernel
theorem dX1_restore_14 : decode cX1_restore 14 = .ok (.aload_n 2, 1) := by decide +kernel
theorem dX1_restore_15 : decode cX1_restore 15 = .ok (.aload_n 3, 1) := by decide +kernel
theorem dX1_restore_16 : decode cX1_restore 16 = .ok (.invokevirtual 40, 3) := by decide +kernel
theorem dX1_restore_19 : decode cX1_restore 19 = .ok (.aload_n 0, 1) := by decide +kernel
theorem dX1_restore_20 : decode cX1_restore 20 = .ok (.iconst 0, 1) := by decide +kernel
theorem dX1_restore_21 : decode cX1_restore 21 = .ok (.putfield 25, 3) := by decide +kernel
theorem dX1_restore_24 : decode cX1_restore 24 = .ok (.return_, 1) := by decide +kernel
theorem dX2_init_0 : decode cX2_init 0 = .ok (.aload_n 0, 1) := by decide +kernel
theorem dX2_init_1 : decode cX2_init 1 = .ok (.invokespecial 3, 3) := by decide +kernel
theorem dX2_init_4 : decode cX2_init 4 = .ok (.aload_n 0, 1) := by decide +kernel
theorem dX2_init_5 : decode cX2_init 5 = .ok (.new 9, 3) := by decide +kernel
theorem dX2_init_8 : decode cX2_init 8 = .ok (.dup, 1) := by decide +kernel
theorem dX2_init_9 : decode cX2_init 9 = .ok (.invokespecial 11, 3) := by decide +kernel
theorem dX2_init_12 : decode cX2_init 12 = .ok (.putfield 12, 3) := by decide +kernel
theorem dX2_init_15 : decode cX2_init 15 = .ok (.aload_n 0, 1) := by decide +kernel
theorem dX2_init_16 : decode cX2_init 16 = .ok (.new 18, 3) := by decide +kernel
theorem dX2_init_19 : decode cX2_init 19 = .ok (.dup, 1) := by decide +kernel
theorem dX2_init_20 : decode cX2_init 20 = .ok (.invokespecial 20, 3) := by decide +kernel
theorem dX2_init_23 : decode cX2_init 23 = .ok (.putfield 21, 3) := by decide +kernel
theorem dX2_init_26 : decode cX2_init 26 = .ok (.return_, 1) := by decide +kernel
theorem dX2_firstFault_0 : decode cX2_firstFault 0 = .ok (.aload_n 0, 1) := by decide +kernel
theorem dX2_firstFault_1 : decode cX2_firstFault 1 = .ok (.getfield 21, 3) := by decide +kernel
theorem dX2_firstFault_4 : decode cX2_firstFault 4 = .ok (.aload_n 1, 1) := by decide +kernel
theorem dX2_firstFault_5 : decode cX2_firstFault 5 = .ok (.invokevirtual 25, 3) := by decide +kernel
theorem dX2_firstFault_8 : decode cX2_firstFault 8 = .ok (.aload_n 0, 1) := by decide +kernel
theorem dX2_firstFault_9 : decode cX2_firstFault 9 = .ok (.getfield 12, 3) := by decide +kernel
theorem dX2_firstFault_12 : decode cX2_firstFault 12 = .ok (.iconst 0, 1) := by decide +kernel
theorem dX2_firstFault_13 : decode cX2_firstFault 13 = .ok (.invokevirtual 29, 3) := by decide +kernel
theorem dX2_firstFault_16 : decode cX2_firstFault 16 = .ok (.aload_n 0, 1) := by decide +kernel
theorem dX2_firstFault_17 : decode cX2_firstFault 17 = .ok (.iconst 1, 1) := by decide +kernel
theorem dX2_firstFault_18 : decode cX2_firstFault 18 = .ok (.putfield 33, 3) := by decide +kernel
theorem dX2_firstFault_21 : decode cX2_firstFault 21 = .ok (.aload_n 0, 1) := by decide +kernel
theorem dX2_firstFault_22 : decode cX2_firstFault 22 = .ok (.getfield 33, 3) := by decide +kernel
theorem dX2_firstFault_25 : decode cX2_firstFault 25 = .ok (.bipush 24, 2) := by decide +kernel
theorem dX2_firstFault_27 : decode cX2_firstFault 27 = .ok (.if_icmp .gt 84, 3) := by decide +kernel
theorem dX2_firstFault_30 : decode cX2_firstFault 30 = .ok (.aload_n 0, 1) := by decide +kernel
theorem dX2_firstFault_31 : decode cX2_firstFault 31 = .ok (.invokevirtual 37, 3) := by decide +kernel
theorem dX2_firstFault_34 : decode cX2_firstFault 34 = .ok (.ifCond .ne 11, 3) := by decide +kernel
theorem dX2_firstFault_37 : decode cX2_firstFault 37 = .ok (.aload_n 0, 1) := by decide +kernel
theorem dX2_firstFault_38 : decode cX2_firstFault 38 = .ok (.getfield 12, 3) := by decide +kernel
theorem dX2_firstFault_41 : decode cX2_firstFault 41 = .ok (.getfield 41, 3) := by decide +kernel
theorem dX2_firstFault_44 : decode cX2_firstFault 44 = .ok (.ireturn, 1) := by decide +kernel
theorem dX2_firstFault_45 : decode cX2_firstFault 45 = .ok (.aload_n 0, 1) := by decide +kernel
theorem dX2_firstFault_46 : decode cX2_firstFault 46 = .ok (.getfield 12, 3) := by decide +kernel
theorem dX2_firstFault_49 : decode cX2_firstFault 49 = .ok (.getfield 44, 3) := by decide +kernel
theorem dX2_firstFault_52 : decode cX2_firstFault 52 = .ok (.ifCond .ne 5, 3) := by decide +kernel
theorem dX2_firstFault_55 : decode cX2_firstFault 55 = .ok (.iconst (-1), 1) := by decide +kernel
theorem dX2_firstFault_56 : decode cX2_firstFault 56 = .ok (.ireturn, 1) := by decide +kernel
theorem dX2_firstFault_57 : decode cX2_firstFault 57 = .ok (.aload_n 0, 1) := by decide +kernel
theorem dX2_firstFault_58 : decode cX2_firstFault 58 = .ok (.getfield 33, 3) := by decide +kernel
theorem dX2_firstFault_61 : decode cX2_firstFault 61 = .ok (.bipush 24, 2) := by decide +kernel
theorem dX2_firstFault_63 : decode cX2_firstFault 63 = .ok (.if_icmp .eq 13, 3) := by decide +kernel
theorem dX2_firstFault_66 : decode cX2_firstFault 66 = .ok (.aload_n 0, 1) := by decide +kernel
theorem dX2_firstFault_67 : decode cX2_firstFault 67 = .ok (.getfield 12, 3) := by decide +kernel
theorem dX2_firstFault_70 : decode cX2_firstFault 70 = .ok (.invokevirtual 47, 3) := by decide +kernel
theorem dX2_firstFault_73 : decode cX2_firstFault 73 = .ok (.ifCond .ne 11, 3) := by decide +kernel
theorem dX2_firstFault_76 : decode cX2_firstFault 76 = .ok (.aload_n 0, 1) := by decide +kernel
theorem dX2_firstFault_77 : decode cX2_firstFault 77 = .ok (.getfield 12, 3) := by decide +kernel
theorem dX2_firstFault_80 : decode cX2_firstFault 80 = .ok (.getfield 41, 3) := by decide +kernel
theorem dX2_firstFault_83 : decode cX2_firstFault 83 = .ok (.ireturn, 1) := by decide +kernel
theorem dX2_firstFault_84 : decode cX2_firstFault 84 = .ok (.aload_n 0, 1) := by decide +kernel
theorem dX2_firstFault_85 : decode cX2_firstFault 85 = .ok (.getfield 12, 3) := by decide +kernel
theorem dX2_firstFault_88 : decode cX2_firstFault 88 = .ok (.aload_n 0, 1) := by decide +kernel
theorem dX2_firstFault_89 : decode cX2_firstFault 89 = .ok (.getfield 12, 3) := by decide +kernel
theorem dX2_firstFault_92 : decode cX2_firstFault 92 = .ok (.getfield 50, 3) := by decide +kernel
theorem dX2_firstFault_95 : decode cX2_firstFault 95 = .ok (.invokevirtual 29, 3) := by decide +kernel
theorem dX2_firstFault_98 : decode cX2_firstFault 98 = .ok (.aload_n 0, 1) := by decide +kernel
theorem dX2_firstFault_99 : decode cX2_firstFault 99 = .ok (.dup, 1) := by decide +kernel
theorem dX2_firstFault_100 : decode cX2_firstFault 100 = .ok (.getfield 33, 3) := by decide +kernel
theorem dX2_firstFault_103 : decode cX2_firstFault 103 = .ok (.iconst 1, 1) := by decide +kernel
theorem dX2_firstFault_104 : decode cX2_firstFault 104 = .ok (.iadd, 1) := by decide +kernel
theorem dX2_firstFault_105 : decode cX2_firstFault 105 = .ok (.putfield 33, 3) := by decide +kernel
theorem dX2_firstFault_108 : decode cX2_firstFault 108 = .ok (.goto (-87), 3) := by decide +kernel
theorem dX2_firstFault_111 : decode cX2_firstFault 111 = .ok (.aload_n 0, 1) := by decide +kernel
theorem dX2_firstFault_112 : decode cX2_firstFault 112 = .ok (.getfield 12, 3) := by decide +kernel
theorem dX2_firstFault_115 : decode cX2_firstFault 115 = .ok (.getfield 41, 3) := by decide +kernel
theorem dX2_firstFault_118 : decode cX2_firstFault 118 = .ok (.ireturn, 1) := by decide +kernel
theorem dX2_readClause_0 : decode cX2_readClause 0 = .ok (.aload_n 0, 1) := by decide +kernel
theorem dX2_readClause_1 : decode cX2_readClause 1 = .ok (.ldc 53, 2) := by decide +kernel
theorem dX2_readClause_3 : decode cX2_readClause 3 = .ok (.invokevirtual 55, 3) := by decide +kernel
theorem dX2_readClause_6 : decode cX2_readClause 6 = .ok (.ifCond .eq 8, 3) := by decide +kernel
theorem dX2_readClause_9 : decode cX2_readClause 9 = .ok (.aload_n 0, 1) := by decide +kernel
theorem dX2_readClause_10 : decode cX2_readClause 10 = .ok (.invokevirtual 59, 3) := by decide +kernel
theorem dX2_readClause_13 : decode cX2_readClause 13 = .ok (.ireturn, 1) := by decide +kernel
theorem dX2_readClause_14 : decode cX2_readClause 14 = .ok (.aload_n 0, 1) := by decide +kernel
theorem dX2_readClause_15 : decode cX2_readClause 15 = .ok (.getfield 21, 3) := by decide +kernel
theorem dX2_readClause_18 : decode cX2_readClause 18 = .ok (.getfield 62, 3) := by decide +kernel
theorem dX2_readClause_21 : decode cX2_readClause 21 = .ok (.bipush 6, 2) := by decide +kernel
theorem dX2_readClause_23 : decode cX2_readClause 23 = .ok (.if_icmp .ge 17, 3) := by decide +kernel
theorem dX2_readClause_26 : decode cX2_readClause 26 = .ok (.aload_n 0, 1) := by decide +kernel
theorem dX2_readClause_27 : decode cX2_readClause 27 = .ok (.ldc 65, 2) := by decide +kernel
theorem dX2_readClause_29 : decode cX2_readClause 29 = .ok (.invokevirtual 55, 3) := by decide +kernel
theorem dX2_readClause_32 : decode cX2_readClause 32 = .ok (.ifCond .eq 8, 3) := by decide +kernel
theorem dX2_readClause_35 : decode cX2_readClause 35 = .ok (.aload_n 0, 1) := by decide +kernel
theorem dX2_readClause_36 : decode cX2_readClause 36 = .ok (.invokevirtual 67, 3) := by decide +kernel
theorem dX2_readClause_39 : decode cX2_readClause 39 = .ok (.ireturn, 1) := by decide +kernel
theorem dX2_readClause_40 : decode cX2_readClause 40 = .ok (.aload_n 0, 1) := by decide +kernel
theorem dX2_readClause_41 : decode cX2_readClause 41 = .ok (.ldc 70, 2) := by decide +kernel
theorem dX2_readClause_43 : decode cX2_readClause 43 = .ok (.invokevirtual 55, 3) := by decide +kernel
theorem dX2_readClause_46 : decode cX2_readClause 46 = .ok (.ifCond .eq 8, 3) := by decide +kernel
theorem dX2_readClause_49 : decode cX2_readClause 49 = .ok (.aload_n 0, 1) := by decide +kernel
theorem dX2_readClause_50 : decode cX2_readClause 50 = .ok (.invokevirtual 72, 3) := by decide +kernel
theorem dX2_readClause_53 : decode cX2_readClause 53 = .ok (.ireturn, 1) := by decide +kernel
theorem dX2_readClause_54 : decode cX2_readClause 54 = .ok (.aload_n 0, 1) := by decide +kernel
theorem dX2_readClause_55 : decode cX2_readClause 55 = .ok (.ldc 75, 2) := by decide +kernel
theorem dX2_readClause_57 : decode cX2_readClause 57 = .ok (.invokevirtual 55, 3) := by decide +kernel
theorem dX2_readClause_60 : decode cX2_readClause 60 = .ok (.ifCond .eq 8, 3) := by decide +kernel
theorem dX2_readClause_63 : decode cX2_readClause 63 = .ok (.aload_n 0, 1) := by decide +kernel
theorem dX2_readClause_64 : decode cX2_readClause 64 = .ok (.invokevirtual 77, 3) := by decide +kernel
theorem dX2_readClause_67 : decode cX2_readClause 67 = .ok (.ireturn, 1) := by decide +kernel
theorem dX2_readClause_68 : decode cX2_readClause 68 = .ok (.aload_n 0, 1) := by decide +kernel
theorem dX2_readClause_69 : decode cX2_readClause 69 = .ok (.ldc 80, 2) := by decide +kernel
theorem dX2_readClause_71 : decode cX2_readClause 71 = .ok (.invokevirtual 55, 3) := by decide +kernel
theorem dX2_readClause_74 : decode cX2_readClause 74 = .ok (.ifCond .eq 14, 3) := by decide +kernel
theorem dX2_readClause_77 : decode cX2_readClause 77 = .ok (.aload_n 0, 1) := by decide +kernel
theorem dX2_readClause_78 : decode cX2_readClause 78 = .ok (.invokevirtual 82, 3) := by decide +kernel
theorem dX2_readClause_81 : decode cX2_readClause 81 = .ok (.ifCond .eq 7, 3) := by decide +kernel
theorem dX2_readClause_84 : decode cX2_readClause 84 = .ok (.iconst 1, 1) := by decide +kernel
theorem dX2_readClause_85 : decode cX2_readClause 85 = .ok (.goto 4, 3) := by decide +kernel
theorem dX2_readClause_88 : decode cX2_readClause 88 = .ok (.iconst 0, 1) := by decide +kernel
theorem dX2_readClause_89 : decode cX2_readClause 89 = .ok (.ireturn, 1) := by decide +kernel
theorem dX2_readWall_0 : decode cX2_readWall 0 = .ok (.aload_n 0, 1) := by decide +kernel
theorem dX2_readWall_1 : decode cX2_readWall 1 = .ok (.iconst 1, 1) := by decide +kernel
theorem dX2_readWall_2 : decode cX2_readWall 2 = .ok (.sipush 999, 3) := by decide +kernel
theorem dX2_readWall_5 : decode cX2_readWall 5 = .ok (.invokevirtual 85, 3) := by decide +kernel
theorem dX2_readWall_8 : decode cX2_readWall 8 = .ok (.istore_n 1, 1) := by decide +kernel
theorem dX2_readWall_9 : decode cX2_readWall 9 = .ok (.iload_n 1, 1) := by decide +kernel
theorem dX2_readWall_10 : decode cX2_readWall 10 = .ok (.iconst (-1), 1) := by decide +kernel
theorem dX2_readWall_11 : decode cX2_readWall 11 = .ok (.if_icmp .ne 5, 3) := by decide +kernel
theorem dX2_readWall_14 : decode cX2_readWall 14 = .ok (.iconst 0, 1) := by decide +kernel
theorem dX2_readWall_15 : decode cX2_readWall 15 = .ok (.ireturn, 1) := by decide +kernel
theorem dX2_readWall_16 : decode cX2_readWall 16 = .ok (.aload_n 0, 1) := by decide +kernel
theorem dX2_readWall_17 : decode cX2_readWall 17 = .ok (.getfield 21, 3) := by decide +kernel
theorem dX2_readWall_20 : decode cX2_readWall 20 = .ok (.iload_n 1, 1) := by decide +kernel
theorem dX2_readWall_21 : decode cX2_readWall 21 = .ok (.invokevirtual 89, 3) := by decide +kernel
theorem dX2_readWall_24 : decode cX2_readWall 24 = .ok (.iconst 1, 1) := by decide +kernel
theorem dX2_readWall_25 : decode cX2_readWall 25 = .ok (.ireturn, 1) := by decide +kernel
theorem dX2_readStuff_0 : decode cX2_readStuff 0 = .ok (.aload_n 0, 1) := by decide +kernel
theorem dX2_readStuff_1 : decode cX2_readStuff 1 = .ok (.getfield 12, 3) := by decide +kernel
theorem dX2_readStuff_4 : decode cX2_readStuff 4 = .ok (.getfield 44, 3) := by decide +kernel
theorem dX2_readStuff_7 : decode cX2_readStuff 7 = .ok (.iconst 1, 1) := by decide +kernel
theorem dX2_readStuff_8 : decode cX2_readStuff 8 = .ok (.if_icmp .ne 15, 3) := by decide +kernel
theorem dX2_readStuff_11 : decode cX2_readStuff 11 = .ok (.aload_n 0, 1) := by decide +kernel
theorem dX2_readStuff_12 : decode cX2_readStuff 12 = .ok (.getfield 12, 3) := by decide +kernel
theorem dX2_readStuff_15 : decode cX2_readStuff 15 = .ok (.invokevirtual 92, 3) := by decide +kernel
theorem dX2_readStuff_18 : decode cX2_readStuff 18 = .ok (.bipush 7, 2) := by decide +kernel
theorem dX2_readStuff_20 : decode cX2_readStuff 20 = .ok (.if_icmp .le 5, 3) := by decide +kernel
theorem dX2_readStuff_23 : decode cX2_readStuff 23 = .ok (.iconst 0, 1) := by decide +kernel
theorem dX2_readStuff_24 : decode cX2_readStuff 24 = .ok (.ireturn, 1) := by decide +kernel
theorem dX2_readStuff_25 : decode cX2_readStuff 25 = .ok (.aload_n 0, 1) := by decide +kernel
theorem dX2_readStuff_26 : decode cX2_readStuff 26 = .ok (.getfield 21, 3) := by decide +kernel
theorem dX2_readStuff_29 : decode cX2_readStuff 29 = .ok (.aload_n 0, 1) := by decide +kernel
theorem dX2_readStuff_30 : decode cX2_readStuff 30 = .ok (.getfield 12, 3) := by decide +kernel
theorem dX2_readStuff_33 : decode cX2_readStuff 33 = .ok (.aload_n 0, 1) := by decide +kernel
theorem dX2_readStuff_34 : decode cX2_readStuff 34 = .ok (.getfield 12, 3) := by decide +kernel
theorem dX2_readStuff_37 : decode cX2_readStuff 37 = .ok (.getfield 41, 3) := by decide +kernel
theorem dX2_readStuff_40 : decode cX2_readStuff 40 = .ok (.aload_n 0, 1) := by decide +kernel
theorem dX2_readStuff_41 : decode cX2_readStuff 41 = .ok (.getfield 12, 3) := by decide +kernel
theorem dX2_readStuff_44 : decode cX2_readStuff 44 = .ok (.getfield 50, 3) := by decide +kernel
theorem dX2_readStuff_47 : decode cX2_readStuff 47 = .ok (.invokevirtual 96, 3) := by decide +kernel
theorem dX2_readStuff_50 : decode cX2_readStuff 50 = .ok (.iconst (-1), 1) := by decide +kernel
theorem dX2_readStuff_51 : decode cX2_readStuff 51 = .ok (.if_icmp .eq 5, 3) := by decide +kernel
theorem dX2_readStuff_54 : decode cX2_readStuff 54 = .ok (.iconst 0, 1) := by decide +kernel
theorem dX2_readStuff_55 : decode cX2_readStuff 55 = .ok (.ireturn, 1) := by decide +kernel
theorem dX2_readStuff_56 : decode cX2_readStuff 56 = .ok (.aload_n 0, 1) := by decide +kernel
theorem dX2_readStuff_57 : decode cX2_readStuff 57 = .ok (.getfield 21, 3) := by decide +kernel
theorem dX2_readStuff_60 : decode cX2_readStuff 60 = .ok (.aload_n 0, 1) := by decide +kernel
theorem dX2_readStuff_61 : decode cX2_readStuff 61 = .ok (.getfield 12, 3) := by decide +kernel
theorem dX2_readStuff_64 : decode cX2_readStuff 64 = .ok (.invokevirtual 100, 3) := by decide +kernel
theorem dX2_readStuff_67 : decode cX2_readStuff 67 = .ok (.aload_n 0, 1) := by decide +kernel
theorem dX2_readStuff_68 : decode cX2_readStuff 68 = .ok (.getfield 12, 3) := by decide +kernel
theorem dX2_readStuff_71 : decode cX2_readStuff 71 = .ok (.aload_n 0, 1) := by decide +kernel
theorem dX2_readStuff_72 : decode cX2_readStuff 72 = .ok (.getfield 12, 3) := by decide +kernel
theorem dX2_readStuff_75 : decode cX2_readStuff 75 = .ok (.getfield 50, 3) := by decide +kernel
theorem dX2_readStuff_78 : decode cX2_readStuff 78 = .ok (.invokevirtual 29, 3) := by decide +kernel
theorem dX2_readStuff_81 : decode cX2_readStuff 81 = .ok (.aload_n 0, 1) := by decide +kernel
theorem dX2_readStuff_82 : decode cX2_readStuff 82 = .ok (.iconst 1, 1) := by decide +kernel
theorem dX2_readStuff_83 : decode cX2_readStuff 83 = .ok (.bipush 20, 2) := by decide +kernel
theorem dX2_readStuff_85 : decode cX2_readStuff 85 = .ok (.invokevirtual 85, 3) := by decide +kernel
theorem dX2_readStuff_88 : decode cX2_readStuff 88 = .ok (.istore_n 1, 1) := by decide +kernel
theorem dX2_readStuff_89 : decode cX2_readStuff 89 = .ok (.iload_n 1, 1) := by decide +kernel
theorem dX2_readStuff_90 : decode cX2_readStuff 90 = .ok (.iconst (-1), 1) := by decide +kernel
theorem dX2_readStuff_91 : decode cX2_readStuff 91 = .ok (.if_icmp .ne 5, 3) := by decide +kernel
theorem dX2_readStuff_94 : decode cX2_readStuff 94 = .ok (.iconst 0, 1) := by decide +kernel
theorem dX2_readStuff_95 : decode cX2_readStuff 95 = .ok (.ireturn, 1) := by decide +kernel
theorem dX2_readStuff_96 : decode cX2_readStuff 96 = .ok (.aload_n 0, 1) := by decide +kernel
theorem dX2_readStuff_97 : decode cX2_readStuff 97 = .ok (.iconst 1, 1) := by decide +kernel
theorem dX2_readStuff_98 : decode cX2_readStuff 98 = .ok (.bipush 20, 2) := by decide +kernel
theorem dX2_readStuff_100 : decode cX2_readStuff 100 = .ok (.invokevirtual 85, 3) := by decide +kernel
theorem dX2_readStuff_103 : decode cX2_readStuff 103 = .ok (.istore_n 2, 1) := by decide +kernel
theorem dX2_readStuff_104 : decode cX2_readStuff 104 = .ok (.iload_n 2, 1) := by decide +kernel
theorem dX2_readStuff_105 : decode cX2_readStuff 105 = .ok (.iconst (-1), 1) := by decide +kernel
theorem dX2_readStuff_106 : decode cX2_readStuff 106 = .ok (.if_icmp .ne 5, 3) := by decide +kernel
theorem dX2_readStuff_109 : decode cX2_readStuff 109 = .ok (.iconst 0, 1) := by decide +kernel
theorem dX2_readStuff_110 : decode cX2_readStuff 110 = .ok (.ireturn, 1) := by decide +kernel
theorem dX2_readStuff_111 : decode cX2_readStuff 111 = .ok (.aload_n 0, 1) := by decide +kernel
theorem dX2_readStuff_112 : decode cX2_readStuff 112 = .ok (.getfield 21, 3) := by decide +kernel
theorem dX2_readStuff_115 : decode cX2_readStuff 115 = .ok (.iload_n 1, 1) := by decide +kernel
theorem dX2_readStuff_116 : decode cX2_readStuff 116 = .ok (.iload_n 2, 1) := by decide +kernel
theorem dX2_readStuff_117 : decode cX2_readStuff 117 = .ok (.invokevirtual 104, 3) := by decide +kernel
theorem dX2_readStuff_120 : decode cX2_readStuff 120 = .ok (.iconst 1, 1) := by decide +kernel
theorem dX2_readStuff_121 : decode cX2_readStuff 121 = .ok (.ireturn, 1) := by decide +kernel
theorem dX2_readLayer_0 : decode cX2_readLayer 0 = .ok (.aload_n 0, 1) := by decide +kernel
theorem dX2_readLayer_1 : decode cX2_readLayer 1 = .ok (.getfield 21, 3) := by decide +kernel
theorem dX2_readLayer_4 : decode cX2_readLayer 4 = .ok (.aload_n 0, 1) := by decide +kernel
theorem dX2_readLayer_5 : decode cX2_readLayer 5 = .ok (.getfield 12, 3) := by decide +kernel
theorem dX2_readLayer_8 : decode cX2_readLayer 8 = .ok (.aload_n 0, 1) := by decide +kernel
theorem dX2_readLayer_9 : decode cX2_readLayer 9 = .ok (.getfield 12, 3) := by decide +kernel
theorem dX2_readLayer_12 : decode cX2_readLayer 12 = .ok (.getfield 41, 3) := by decide +kernel
theorem dX2_readLayer_15 : decode cX2_readLayer 15 = .ok (.aload_n 0, 1) := by decide +kernel
theorem dX2_readLayer_16 : decode cX2_readLayer 16 = .ok (.getfield 12, 3) := by decide +kernel
theorem dX2_readLayer_19 : decode cX2_readLayer 19 = .ok (.getfield 50, 3) := by decide +kernel
theorem dX2_readLayer_22 : decode cX2_readLayer 22 = .ok (.invokevirtual 96, 3) := by decide +kernel
theorem dX2_readLayer_25 : decode cX2_readLayer 25 = .ok (.istore_n 1, 1) := by decide +kernel
theorem dX2_readLayer_26 : decode cX2_readLayer 26 = .ok (.iload_n 1, 1) := by decide +kernel
theorem dX2_readLayer_27 : decode cX2_readLayer 27 = .ok (.iconst (-1), 1) := by decide +kernel
theorem dX2_readLayer_28 : decode cX2_readLayer 28 = .ok (.if_icmp .ne 5, 3) := by decide +kernel
theorem dX2_readLayer_31 : decode cX2_readLayer 31 = .ok (.iconst 0, 1) := by decide +kernel
theorem dX2_readLayer_32 : decode cX2_readLayer 32 = .ok (.ireturn, 1) := by decide +kernel
theorem dX2_readLayer_33 : decode cX2_readLayer 33 = .ok (.aload_n 0, 1) := by decide +kernel
theorem dX2_readLayer_34 : decode cX2_readLayer 34 = .ok (.getfield 12, 3) := by decide +kernel
theorem dX2_readLayer_37 : decode cX2_readLayer 37 = .ok (.aload_n 0, 1) := by decide +kernel
theorem dX2_readLayer_38 : decode cX2_readLayer 38 = .ok (.getfield 12, 3) := by decide +kernel
theorem dX2_readLayer_41 : decode cX2_readLayer 41 = .ok (.getfield 50, 3) := by decide +kernel
theorem dX2_readLayer_44 : decode cX2_readLayer 44 = .ok (.invokevirtual 29, 3) := by decide +kernel
theorem dX2_readLayer_47 : decode cX2_readLayer 47 = .ok (.aload_n 0, 1) := by decide +kernel
theorem dX2_readLayer_48 : decode cX2_readLayer 48 = .ok (.iconst 1, 1) := by decide +kernel
theorem dX2_readLayer_49 : decode cX2_readLayer 49 = .ok (.bipush 9, 2) := by decide +kernel
theorem dX2_readLayer_51 : decode cX2_readLayer 51 = .ok (.bipush 10, 2) := by decide +kernel
theorem dX2_readLayer_53 : decode cX2_readLayer 53 = .ok (.aload_n 0, 1) := by decide +kernel
theorem dX2_readLayer_54 : decode cX2_readLayer 54 = .ok (.getfield 21, 3) := by decide +kernel
theorem dX2_readLayer_57 : decode cX2_readLayer 57 = .ok (.getfield 108, 3) := by decide +kernel
theorem dX2_readLayer_60 : decode cX2_readLayer 60 = .ok (.isub, 1) := by decide +kernel
theorem dX2_readLayer_61 : decode cX2_readLayer 61 = .ok (.invokestatic 111, 3) := by decide +kernel
theorem dX2_readLayer_64 : decode cX2_readLayer 64 = .ok (.invokevirtual 85, 3) := by decide +kernel
theorem dX2_readLayer_67 : decode cX2_readLayer 67 = .ok (.istore_n 2, 1) := by decide +kernel
theorem dX2_readLayer_68 : decode cX2_readLayer 68 = .ok (.iload_n 2, 1) := by decide +kernel
theorem dX2_readLayer_69 : decode cX2_readLayer 69 = .ok (.iconst (-1), 1) := by decide +kernel
theorem dX2_readLayer_70 : decode cX2_readLayer 70 = .ok (.if_icmp .ne 5, 3) := by decide +kernel
theorem dX2_readLayer_73 : decode cX2_readLayer 73 = .ok (.iconst 0, 1) := by decide +kernel
theorem dX2_readLayer_74 : decode cX2_readLayer 74 = .ok (.ireturn, 1) := by decide +kernel
theorem dX2_readLayer_75 : decode cX2_readLayer 75 = .ok (.aload_n 0, 1) := by decide +kernel
theorem dX2_readLayer_76 : decode cX2_readLayer 76 = .ok (.getfield 21, 3) := by decide +kernel
theorem dX2_readLayer_79 : decode cX2_readLayer 79 = .ok (.iload_n 1, 1) := by decide +kernel
theorem dX2_readLayer_80 : decode cX2_readLayer 80 = .ok (.iload_n 2, 1) := by decide +kernel
theorem dX2_readLayer_81 : decode cX2_readLayer 81 = .ok (.invokevirtual 116, 3) := by decide +kernel
theorem dX2_readLayer_84 : decode cX2_readLayer 84 = .ok (.iconst 1, 1) := by decide +kernel
theorem dX2_readLayer_85 : decode cX2_readLayer 85 = .ok (.ireturn, 1) := by decide +kernel
theorem dX2_readAir_0 : decode cX2_readAir 0 = .ok (.aload_n 0, 1) := by decide +kernel
theorem dX2_readAir_1 : decode cX2_readAir 1 = .ok (.iconst 0, 1) := by decide +kernel
theorem dX2_readAir_2 : decode cX2_readAir 2 = .ok (.sipush 999, 3) := by decide +kernel
theorem dX2_readAir_5 : decode cX2_readAir 5 = .ok (.invokevirtual 85, 3) := by decide +kernel
theorem dX2_readAir_8 : decode cX2_readAir 8 = .ok (.istore_n 1, 1) := by decide +kernel
theorem dX2_readAir_9 : decode cX2_readAir 9 = .ok (.iload_n 1, 1) := by decide +kernel
theorem dX2_readAir_10 : decode cX2_readAir 10 = .ok (.iconst (-1), 1) := by decide +kernel
theorem dX2_readAir_11 : decode cX2_readAir 11 = .ok (.if_icmp .ne 5, 3) := by decide +kernel
theorem dX2_readAir_14 : decode cX2_readAir 14 = .ok (.iconst 0, 1) := by decide +kernel
theorem dX2_readAir_15 : decode cX2_readAir 15 = .ok (.ireturn, 1) := by decide +kernel
theorem dX2_readAir_16 : decode cX2_readAir 16 = .ok (.aload_n 0, 1) := by decide +kernel
theorem dX2_readAir_17 : decode cX2_readAir 17 = .ok (.iconst 0, 1) := by decide +kernel
theorem dX2_readAir_18 : decode cX2_readAir 18 = .ok (.sipush 999, 3) := by decide +kernel
theorem dX2_readAir_21 : decode cX2_readAir 21 = .ok (.invokevirtual 85, 3) := by decide +kernel
theorem dX2_readAir_24 : decode cX2_readAir 24 = .ok (.istore_n 2, 1) := by decide +kernel
theorem dX2_readAir_25 : decode cX2_readAir 25 = .ok (.iload_n 2, 1) := by decide +kernel
theorem dX2_readAir_26 : decode cX2_readAir 26 = .ok (.iconst (-1), 1) := by decide +kernel
theorem dX2_readAir_27 : decode cX2_readAir 27 = .ok (.if_icmp .ne 5, 3) := by decide +kernel
theorem dX2_readAir_30 : decode cX2_readAir 30 = .ok (.iconst 0, 1) := by decide +kernel
theorem dX2_readAir_31 : decode cX2_readAir 31 = .ok (.ireturn, 1) := by decide +kernel
theorem dX2_readAir_32 : decode cX2_readAir 32 = .ok (.aload_n 0, 1) := by decide +kernel
theorem dX2_readAir_33 : decode cX2_readAir 33 = .ok (.getfield 21, 3) := by decide +kernel
theorem dX2_readAir_36 : decode cX2_readAir 36 = .ok (.getfield 119, 3) := by decide +kernel
theorem dX2_readAir_39 : decode cX2_readAir 39 = .ok (.iload_n 1, 1) := by decide +kernel
theorem dX2_readAir_40 : decode cX2_readAir 40 = .ok (.putfield 123, 3) := by decide +kernel
theorem dX2_readAir_43 : decode cX2_readAir 43 = .ok (.aload_n 0, 1) := by decide +kernel
theorem dX2_readAir_44 : decode cX2_readAir 44 = .ok (.getfield 21, 3) := by decide +kernel
theorem dX2_readAir_47 : decode cX2_readAir 47 = .ok (.getfield 119, 3) := by decide +kernel
theorem dX2_readAir_50 : decode cX2_readAir 50 = .ok (.iload_n 2, 1) := by decide +kernel
theorem dX2_readAir_51 : decode cX2_readAir 51 = .ok (.putfield 128, 3) := by decide +kernel
theorem dX2_readAir_54 : decode cX2_readAir 54 = .ok (.iconst 1, 1) := by decide +kernel
theorem dX2_readAir_55 : decode cX2_readAir 55 = .ok (.ireturn, 1) := by decide +kernel
theorem dX2_readHeat_0 : decode cX2_readHeat 0 = .ok (.aload_n 0, 1) := by decide +kernel
theorem dX2_readHeat_1 : decode cX2_readHeat 1 = .ok (.iconst 0, 1) := by decide +kernel
theorem dX2_readHeat_2 : decode cX2_readHeat 2 = .ok (.aload_n 0, 1) := by decide +kernel
theorem dX2_readHeat_3 : decode cX2_readHeat 3 = .ok (.getfield 21, 3) := by decide +kernel
theorem dX2_readHeat_6 : decode cX2_readHeat 6 = .ok (.getfield 108, 3) := by decide +kernel
theorem dX2_readHeat_9 : decode cX2_readHeat 9 = .ok (.iconst 1, 1) := by decide +kernel
theorem dX2_readHeat_10 : decode cX2_readHeat 10 = .ok (.isub, 1) := by decide +kernel
theorem dX2_readHeat_11 : decode cX2_readHeat 11 = .ok (.invokevirtual 85, 3) := by decide +kernel
theorem dX2_readHeat_14 : decode cX2_readHeat 14 = .ok (.istore_n 1, 1) := by decide +kernel
theorem dX2_readHeat_15 : decode cX2_readHeat 15 = .ok (.iload_n 1, 1) := by decide +kernel
theorem dX2_readHeat_16 : decode cX2_readHeat 16 = .ok (.iconst (-1), 1) := by decide +kernel
theorem dX2_readHeat_17 : decode cX2_readHeat 17 = .ok (.if_icmp .ne 5, 3) := by decide +kernel
theorem dX2_readHeat_20 : decode cX2_readHeat 20 = .ok (.iconst 0, 1) := by decide +kernel
theorem dX2_readHeat_21 : decode cX2_readHeat 21 = .ok (.ireturn, 1) := by decide +kernel
theorem dX2_readHeat_22 : decode cX2_readHeat 22 = .ok (.aload_n 0, 1) := by decide +kernel
theorem dX2_readHeat_23 : decode cX2_readHeat 23 = .ok (.iconst 0, 1) := by decide +kernel
theorem dX2_readHeat_24 : decode cX2_readHeat 24 = .ok (.sipush 9999, 3) := by decide +kernel
theorem dX2_readHeat_27 : decode cX2_readHeat 27 = .ok (.invokevirtual 85, 3) := by decide +kernel
theorem dX2_readHeat_30 : decode cX2_readHeat 30 = .ok (.istore_n 2, 1) := by decide +kernel
theorem dX2_readHeat_31 : decode cX2_readHeat 31 = .ok (.iload_n 2, 1) := by decide +kernel
theorem dX2_readHeat_32 : decode cX2_readHeat 32 = .ok (.iconst (-1), 1) := by decide +kernel
theorem dX2_readHeat_33 : decode cX2_readHeat 33 = .ok (.if_icmp .ne 5, 3) := by decide +kernel
theorem dX2_readHeat_36 : decode cX2_readHeat 36 = .ok (.iconst 0, 1) := by decide +kernel
theorem dX2_readHeat_37 : decode cX2_readHeat 37 = .ok (.ireturn, 1) := by decide +kernel
theorem dX2_readHeat_38 : decode cX2_readHeat 38 = .ok (.aload_n 0, 1) := by decide +kernel
theorem dX2_readHeat_39 : decode cX2_readHeat 39 = .ok (.getfield 21, 3) := by decide +kernel
theorem dX2_readHeat_42 : decode cX2_readHeat 42 = .ok (.getfield 119, 3) := by decide +kernel
theorem dX2_readHeat_45 : decode cX2_readHeat 45 = .ok (.getfield 131, 3) := by decide +kernel
theorem dX2_readHeat_48 : decode cX2_readHeat 48 = .ok (.iload_n 1, 1) := by decide +kernel
theorem dX2_readHeat_49 : decode cX2_readHeat 49 = .ok (.iload_n 2, 1) := by decide +kernel
theorem dX2_readHeat_50 : decode cX2_readHeat 50 = .ok (.invokestatic 135, 3) := by decide +kernel
theorem dX2_readHeat_53 : decode cX2_readHeat 53 = .ok (.iconst 1, 1) := by decide +kernel
theorem dX2_readHeat_54 : decode cX2_readHeat 54 = .ok (.ireturn, 1) := by decide +kernel
theorem dX2_takeWord_0 : decode cX2_takeWord 0 = .ok (.aload_n 0, 1) := by decide +kernel
theorem dX2_takeWord_1 : decode cX2_takeWord 1 = .ok (.getfield 12, 3) := by decide +kernel
theorem dX2_takeWord_4 : decode cX2_takeWord 4 = .ok (.aload_n 1, 1) := by decide +kernel
theorem dX2_takeWord_5 : decode cX2_takeWord 5 = .ok (.invokevirtual 139, 3) := by decide +kernel
theorem dX2_takeWord_8 : decode cX2_takeWord 8 = .ok (.ifCond .ne 5, 3) := by decide +kernel
theorem dX2_takeWord_11 : decode cX2_takeWord 11 = .ok (.iconst 0, 1) := by decide +kernel
theorem dX2_takeWord_12 : decode cX2_takeWord 12 = .ok (.ireturn, 1) := by decide +kernel
theorem dX2_takeWord_13 : decode cX2_takeWord 13 = .ok (.aload_n 0, 1) := by decide +kernel
theorem dX2_takeWord_14 : decode cX2_takeWord 14 = .ok (.getfield 12, 3) := by decide +kernel
theorem dX2_takeWord_17 : decode cX2_takeWord 17 = .ok (.aload_n 0, 1) := by decide +kernel
theorem dX2_takeWord_18 : decode cX2_takeWord 18 = .ok (.getfield 12, 3) := by decide +kernel
theorem dX2_takeWord_21 : decode cX2_takeWord 21 = .ok (.getfield 50, 3) := by decide +kernel
theorem dX2_takeWord_24 : decode cX2_takeWord 24 = .ok (.invokevirtual 29, 3) := by decide +kernel
theorem dX2_takeWord_27 : decode cX2_takeWord 27 = .ok (.iconst 1, 1) := by decide +kernel
theorem dX2_takeWord_28 : decode cX2_takeWord 28 = .ok (.ireturn, 1) := by decide +kernel
theorem dX2_takeNumber_0 : decode cX2_takeNumber 0 = .ok (.aload_n 0, 1) := by decide +kernel
theorem dX2_takeNumber_1 : decode cX2_takeNumber 1 = .ok (.getfield 12, 3) := by decide +kernel
theorem dX2_takeNumber_4 : decode cX2_takeNumber 4 = .ok (.invokevirtual 142, 3) := by decide +kernel
theorem dX2_takeNumber_7 : decode cX2_takeNumber 7 = .ok (.istore_n 3, 1) := by decide +kernel
theorem dX2_takeNumber_8 : decode cX2_takeNumber 8 = .ok (.iload_n 3, 1) := by decide +kernel
theorem dX2_takeNumber_9 : decode cX2_takeNumber 9 = .ok (.iconst (-1), 1) := by decide +kernel
theorem dX2_takeNumber_10 : decode cX2_takeNumber 10 = .ok (.if_icmp .eq 13, 3) := by decide +kernel
theorem dX2_takeNumber_13 : decode cX2_takeNumber 13 = .ok (.iload_n 3, 1) := by decide +kernel
theorem dX2_takeNumber_14 : decode cX2_takeNumber 14 = .ok (.iload_n 1, 1) := by decide +kernel
theorem dX2_takeNumber_15 : decode cX2_takeNumber 15 = .ok (.if_icmp .lt 8, 3) := by decide +kernel
theorem dX2_takeNumber_18 : decode cX2_takeNumber 18 = .ok (.iload_n 3, 1) := by decide +kernel
theorem dX2_takeNumber_19 : decode cX2_takeNumber 19 = .ok (.iload_n 2, 1) := by decide +kernel
theorem dX2_takeNumber_20 : decode cX2_takeNumber 20 = .ok (.if_icmp .le 5, 3) := by decide +kernel
theorem dX2_takeNumber_23 : decode cX2_takeNumber 23 = .ok (.iconst (-1), 1) := by decide +kernel
theorem dX2_takeNumber_24 : decode cX2_takeNumber 24 = .ok (.ireturn, 1) := by decide +kernel
theorem dX2_takeNumber_25 : decode cX2_takeNumber 25 = .ok (.aload_n 0, 1) := by decide +kernel
theorem dX2_takeNumber_26 : decode cX2_takeNumber 26 = .ok (.getfield 12, 3) := by decide +kernel
theorem dX2_takeNumber_29 : decode cX2_takeNumber 29 = .ok (.aload_n 0, 1) := by decide +kernel
theorem dX2_takeNumber_30 : decode cX2_takeNumber 30 = .ok (.getfield 12, 3) := by decide +kernel
theorem dX2_takeNumber_33 : decode cX2_takeNumber 33 = .ok (.getfield 50, 3) := by decide +kernel
theorem dX2_takeNumber_36 : decode cX2_takeNumber 36 = .ok (.invokevirtual 29, 3) := by decide +kernel
theorem dX2_takeNumber_39 : decode cX2_takeNumber 39 = .ok (.iload_n 3, 1) := by decide +kernel
theorem dX2_takeNumber_40 : decode cX2_takeNumber 40 = .ok (.ireturn, 1) := by decide +kernel
theorem dX3_init_0 : decode cX3_init 0 = .ok (.aload_n 0, 1) := by decide +kernel
theorem dX3_init_1 : decode cX3_init 1 = .ok (.invokespecial 3, 3) := by decide +kernel
theorem dX3_init_4 : decode cX3_init 4 = .ok (.aload_n 0, 1) := by decide +kernel
theorem dX3_init_5 : decode cX3_init 5 = .ok (.sipush 200, 3) := by decide +kernel
theorem dX3_init_8 : decode cX3_init 8 = .ok (.newarray .int, 2) := by decide +kernel
theorem dX3_init_10 : decode cX3_init 10 = .ok (.putfield 9, 3) := by decide +kernel
theorem dX3_init_13 : decode cX3_init 13 = .ok (.return_, 1) := by decide +kernel
theorem dX3_add_0 : decode cX3_add 0 = .ok (.aload_n 0, 1) := by decide +kernel
theorem dX3_add_1 : decode cX3_add 1 = .ok (.getfield 9, 3) := by decide +kernel
theorem dX3_add_4 : decode cX3_add 4 = .ok (.aload_n 0, 1) := by decide +kernel
theorem dX3_add_5 : decode cX3_add 5 = .ok (.getfield 15, 3) := by decide +kernel
theorem dX3_add_8 : decode cX3_add 8 = .ok (.iload_n 1, 1) := by decide +kernel
theorem dX3_add_9 : decode cX3_add 9 = .ok (.invokestatic 19, 3) := by decide +kernel
theorem dX3_add_12 : decode cX3_add 12 = .ok (.aload_n 0, 1) := by decide +kernel
theorem dX3_add_13 : decode cX3_add 13 = .ok (.dup, 1) := by decide +kernel
theorem dX3_add_14 : decode cX3_add 14 = .ok (.getfield 15, 3) := by decide +kernel
theorem dX3_add_17 : decode cX3_add 17 = .ok (.iconst 1, 1) := by decide +kernel
theorem dX3_add_18 : decode cX3_add 18 = .ok (.iadd, 1) := by decide +kernel
theorem dX3_add_19 : decode cX3_add 19 = .ok (.putfield 15, 3) := by decide +kernel
theorem dX3_add_22 : decode cX3_add 22 = .ok (.return_, 1) := by decide +kernel
theorem dX3_lookFrom_0 : decode cX3_lookFrom 0 = .ok (.aload_n 0, 1) := by decide +kernel
theorem dX3_lookFrom_1 : decode cX3_lookFrom 1 = .ok (.iload_n 1, 1) := by decide +kernel
theorem dX3_lookFrom_2 : decode cX3_lookFrom 2 = .ok (.putfield 23, 3) := by decide +kernel
theorem dX3_lookFrom_5 : decode cX3_lookFrom 5 = .ok (.aload_n 0, 1) := by decide +kernel
theorem dX3_lookFrom_6 : decode cX3_lookFrom 6 = .ok (.getfield 23, 3) := by decide +kernel
theorem dX3_lookFrom_9 : decode cX3_lookFrom 9 = .ok (.aload_n 0, 1) := by decide +kernel
theorem dX3_lookFrom_10 : decode cX3_lookFrom 10 = .ok (.getfield 15, 3) := by decide +kernel
theorem dX3_lookFrom_13 : decode cX3_lookFrom 13 = .ok (.if_icmp .ge 32, 3) := by decide +kernel
theorem dX3_lookFrom_16 : decode cX3_lookFrom 16 = .ok (.aload_n 0, 1) := by decide +kernel
theorem dX3_lookFrom_17 : decode cX3_lookFrom 17 = .ok (.getfield 9, 3) := by decide +kernel
theorem dX3_lookFrom_20 : decode cX3_lookFrom 20 = .ok (.aload_n 0, 1) := by decide +kernel
theorem dX3_lookFrom_21 : decode cX3_lookFrom 21 = .ok (.getfield 23, 3) := by decide +kernel
theorem dX3_lookFrom_24 : decode cX3_lookFrom 24 = .ok (.invokestatic 26, 3) := by decide +kernel
theorem dX3_lookFrom_27 : decode cX3_lookFrom 27 = .ok (.bipush 32, 2) := by decide +kernel
theorem dX3_lookFrom_29 : decode cX3_lookFrom 29 = .ok (.if_icmp .ne 16, 3) := by decide +kernel
theorem dX3_lookFrom_32 : decode cX3_lookFrom 32 = .ok (.aload_n 0, 1) := by decide +kernel
theorem dX3_lookFrom_33 : decode cX3_lookFrom 33 = .ok (.dup, 1) := by decide +kernel
theorem dX3_lookFrom_34 : decode cX3_lookFrom 34 = .ok (.getfield 23, 3) := by decide +kernel
theorem dX3_lookFrom_37 : decode cX3_lookFrom 37 = .ok (.iconst 1, 1) := by decide +kernel
theorem dX3_lookFrom_38 : decode cX3_lookFrom 38 = .ok (.iadd, 1) := by decide +kernel
theorem dX3_lookFrom_39 : decode cX3_lookFrom 39 = .ok (.putfield 23, 3) := by decide +kernel
theorem dX3_lookFrom_42 : decode cX3_lookFrom 42 = .ok (.goto (-37), 3) := by decide +kernel
theorem dX3_lookFrom_45 : decode cX3_lookFrom 45 = .ok (.aload_n 0, 1) := by decide +kernel
theorem dX3_lookFrom_46 : decode cX3_lookFrom 46 = .ok (.aload_n 0, 1) := by decide +kernel
theorem dX3_lookFrom_47 : decode cX3_lookFrom 47 = .ok (.getfield 23, 3) := by decide +kernel
theorem dX3_lookFrom_50 : decode cX3_lookFrom 50 = .ok (.putfield 30, 3) := by decide +kernel
theorem dX3_lookFrom_53 : decode cX3_lookFrom 53 = .ok (.aload_n 0, 1) := by decide +kernel
theorem dX3_lookFrom_54 : decode cX3_lookFrom 54 = .ok (.iconst 0, 1) := by decide +kernel
theorem dX3_lookFrom_55 : decode cX3_lookFrom 55 = .ok (.putfield 33, 3) := by decide +kernel
theorem dX3_lookFrom_58 : decode cX3_lookFrom 58 = .ok (.aload_n 0, 1) := by decide +kernel
theorem dX3_lookFrom_59 : decode cX3_lookFrom 59 = .ok (.getfield 23, 3) := by decide +kernel
theorem dX3_lookFrom_62 : decode cX3_lookFrom 62 = .ok (.aload_n 0, 1) := by decide +kernel
theorem dX3_lookFrom_63 : decode cX3_lookFrom 63 = .ok (.getfield 15, 3) := by decide +kernel
theorem dX3_lookFrom_66 : decode cX3_lookFrom 66 = .ok (.if_icmp .lt 4, 3) := by decide +kernel
theorem dX3_lookFrom_69 : decode cX3_lookFrom 69 = .ok (.return_, 1) := by decide +kernel
theorem dX3_lookFrom_70 : decode cX3_lookFrom 70 = .ok (.aload_n 0, 1) := by decide +kernel
theorem dX3_lookFrom_71 : decode cX3_lookFrom 71 = .ok (.aload_n 0, 1) := by decide +kernel
theorem dX3_lookFrom_72 : decode cX3_lookFrom 72 = .ok (.getfield 9, 3) := by decide +kernel
theorem dX3_lookFrom_75 : decode cX3_lookFrom 75 = .ok (.aload_n 0, 1) := by decide +kernel
theorem dX3_lookFrom_76 : decode cX3_lookFrom 76 = .ok (.getfield 23, 3) := by decide +kernel
theorem dX3_lookFrom_79 : decode cX3_lookFrom 79 = .ok (.invokestatic 26, 3) := by decide +kernel
theorem dX3_lookFrom_82 : decode cX3_lookFrom 82 = .ok (.invokestatic 36, 3) := by decide +kernel
theorem dX3_lookFrom_85 : decode cX3_lookFrom 85 = .ok (.putfield 33, 3) := by decide +kernel
theorem dX3_lookFrom_88 : decode cX3_lookFrom 88 = .ok (.aload_n 0, 1) := by decide +kernel
theorem dX3_lookFrom_89 : decode cX3_lookFrom 89 = .ok (.dup, 1) := by decide +kernel
theorem dX3_lookFrom_90 : decode cX3_lookFrom 90 = .ok (.getfield 30, 3) := by decide +kernel
theorem dX3_lookFrom_93 : decode cX3_lookFrom 93 = .ok (.iconst 1, 1) := by decide +kernel
theorem dX3_lookFrom_94 : decode cX3_lookFrom 94 = .ok (.iadd, 1) := by decide +kernel
theorem dX3_lookFrom_95 : decode cX3_lookFrom 95 = .ok (.putfield 30, 3) := by decide +kernel
theorem dX3_lookFrom_98 : decode cX3_lookFrom 98 = .ok (.aload_n 0, 1) := by decide +kernel
theorem dX3_lookFrom_99 : decode cX3_lookFrom 99 = .ok (.getfield 33, 3) := by decide +kernel
theorem dX3_lookFrom_102 : decode cX3_lookFrom 102 = .ok (.iconst 3, 1) := by decide +kernel
theorem dX3_lookFrom_103 : decode cX3_lookFrom 103 = .ok (.if_icmp .eq 48, 3) := by decide +kernel
theorem dX3_lookFrom_106 : decode cX3_lookFrom 106 = .ok (.aload_n 0, 1) := by decide +kernel
theorem dX3_lookFrom_107 : decode cX3_lookFrom 107 = .ok (.getfield 30, 3) := by decide +kernel
theorem dX3_lookFrom_110 : decode cX3_lookFrom 110 = .ok (.aload_n 0, 1) := by decide +kernel
theorem dX3_lookFrom_111 : decode cX3_lookFrom 111 = .ok (.getfield 15, 3) := by decide +kernel
theorem dX3_lookFrom_114 : decode cX3_lookFrom 114 = .ok (.if_icmp .ge 37, 3) := by decide +kernel
theorem dX3_lookFrom_117 : decode cX3_lookFrom 117 = .ok (.aload_n 0, 1) := by decide +kernel
theorem dX3_lookFrom_118 : decode cX3_lookFrom 118 = .ok (.getfield 9, 3) := by decide +kernel
theorem dX3_lookFrom_121 : decode cX3_lookFrom 121 = .ok (.aload_n 0, 1) := by decide +kernel
theorem dX3_lookFrom_122 : decode cX3_lookFrom 122 = .ok (.getfield 30, 3) := by decide +kernel
theorem dX3_lookFrom_125 : decode cX3_lookFrom 125 = .ok (.invokestatic 26, 3) := by decide +kernel
theorem dX3_lookFrom_128 : decode cX3_lookFrom 128 = .ok (.invokestatic 36, 3) := by decide +kernel
theorem dX3_lookFrom_131 : decode cX3_lookFrom 131 = .ok (.aload_n 0, 1) := by decide +kernel
theorem dX3_lookFrom_132 : decode cX3_lookFrom 132 = .ok (.getfield 33, 3) := by decide +kernel
theorem dX3_lookFrom_135 : decode cX3_lookFrom 135 = .ok (.if_icmp .ne 16, 3) := by decide +kernel
theorem dX3_lookFrom_138 : decode cX3_lookFrom 138 = .ok (.aload_n 0, 1) := by decide +kernel
theorem dX3_lookFrom_139 : decode cX3_lookFrom 139 = .ok (.dup, 1) := by decide +kernel
theorem dX3_lookFrom_140 : decode cX3_lookFrom 140 = .ok (.getfield 30, 3) := by decide +kernel
theorem dX3_lookFrom_143 : decode cX3_lookFrom 143 = .ok (.iconst 1, 1) := by decide +kernel
theorem dX3_lookFrom_144 : decode cX3_lookFrom 144 = .ok (.iadd, 1) := by decide +kernel
theorem dX3_lookFrom_145 : decode cX3_lookFrom 145 = .ok (.putfield 30, 3) := by decide +kernel
theorem dX3_lookFrom_148 : decode cX3_lookFrom 148 = .ok (.goto (-50), 3) := by decide +kernel
theorem dX3_lookFrom_151 : decode cX3_lookFrom 151 = .ok (.return_, 1) := by decide +kernel
theorem dX3_kindOf_0 : decode cX3_kindOf 0 = .ok (.iload_n 0, 1) := by decide +kernel
theorem dX3_kindOf_1 : decode cX3_kindOf 1 = .ok (.bipush 97, 2) := by decide +kernel
theorem dX3_kindOf_3 : decode cX3_kindOf 3 = .ok (.if_icmp .lt 11, 3) := by decide +kernel
theorem dX3_kindOf_6 : decode cX3_kindOf 6 = .ok (.iload_n 0, 1) := by decide +kernel
theorem dX3_kindOf_7 : decode cX3_kindOf 7 = .ok (.bipush 122, 2) := by decide +kernel
theorem dX3_kindOf_9 : decode cX3_kindOf 9 = .ok (.if_icmp .gt 5, 3) := by decide +kernel
theorem dX3_kindOf_12 : decode cX3_kindOf 12 = .ok (.iconst 1, 1) := by decide +kernel
theorem dX3_kindOf_13 : decode cX3_kindOf 13 = .ok (.ireturn, 1) := by decide +kernel
theorem dX3_kindOf_14 : decode cX3_kindOf 14 = .ok (.iload_n 0, 1) := by decide +kernel
theorem dX3_kindOf_15 : decode cX3_kindOf 15 = .ok (.bipush 48, 2) := by decide +kernel
theorem dX3_kindOf_17 : decode cX3_kindOf 17 = .ok (.if_icmp .lt 13, 3) := by decide +kernel
theorem dX3_kindOf_20 : decode cX3_kindOf 20 = .ok (.iload_n 0, 1) := by decide +kernel
theorem dX3_kindOf_21 : decode cX3_kindOf 21 = .ok (.bipush 57, 2) := by decide +kernel
theorem dX3_kindOf_23 : decode cX3_kindOf 23 = .ok (.if_icmp .gt 7, 3) := by decide +kernel
theorem dX3_kindOf_26 : decode cX3_kindOf 26 = .ok (.iconst 2, 1) := by decide +kernel
theorem dX3_kindOf_27 : decode cX3_kindOf 27 = .ok (.goto 4, 3) := by decide +kernel
theorem dX3_kindOf_30 : decode cX3_kindOf 30 = .ok (.iconst 3, 1) := by decide +kernel
theorem dX3_kindOf_31 : decode cX3_kindOf 31 = .ok (.ireturn, 1) := by decide +kernel
theorem dX3_tokenLength_0 : decode cX3_tokenLength 0 = .ok (.aload_n 0, 1) := by decide +kernel
theorem dX3_tokenLength_1 : decode cX3_tokenLength 1 = .ok (.getfield 30, 3) := by decide +kernel
theorem dX3_tokenLength_4 : decode cX3_tokenLength 4 = .ok (.aload_n 0, 1) := by decide +kernel
theorem dX3_tokenLength_5 : decode cX3_tokenLength 5 = .ok (.getfield 23, 3) := by decide +kernel
theorem dX3_tokenLength_8 : decode cX3_tokenLength 8 = .ok (.isub, 1) := by decide +kernel
theorem dX3_tokenLength_9 : decode cX3_tokenLength 9 = .ok (.ireturn, 1) := by decide +kernel
theorem dX3_isToken_0 : decode cX3_isToken 0 = .ok (.aload_n 0, 1) := by decide +kernel
theorem dX3_isToken_1 : decode cX3_isToken 1 = .ok (.invokevirtual 40, 3) := by decide +kernel
theorem dX3_isToken_4 : decode cX3_isToken 4 = .ok (.aload_n 1, 1) := by decide +kernel
theorem dX3_isToken_5 : decode cX3_isToken 5 = .ok (.invokevirtual 44, 3) := by decide +kernel
theorem dX3_isToken_8 : decode cX3_isToken 8 = .ok (.if_icmp .eq 5, 3) := by decide +kernel
theorem dX3_isToken_11 : decode cX3_isToken 11 = .ok (.iconst 0, 1) := by decide +kernel
theorem dX3_isToken_12 : decode cX3_isToken 12 = .ok (.ireturn, 1) := by decide +kernel
theorem dX3_isToken_13 : decode cX3_isToken 13 = .ok (.iconst 0, 1) := by decide +kernel
theorem dX3_isToken_14 : decode cX3_isToken 14 = .ok (.istore_n 2, 1) := by decide +kernel
theorem dX3_isToken_15 : decode cX3_isToken 15 = .ok (.iload_n 2, 1) := by decide +kernel
theorem dX3_isToken_16 : decode cX3_isToken 16 = .ok (.aload_n 1, 1) := by decide +kernel
theorem dX3_isToken_17 : decode cX3_isToken 17 = .ok (.invokevirtual 44, 3) := by decide +kernel
theorem dX3_isToken_20 : decode cX3_isToken 20 = .ok (.if_icmp .ge 32, 3) := by decide +kernel
theorem dX3_isToken_23 : decode cX3_isToken 23 = .ok (.aload_n 0, 1) := by decide +kernel
theorem dX3_isToken_24 : decode cX3_isToken 24 = .ok (.getfield 9, 3) := by decide +kernel
theorem dX3_isToken_27 : decode cX3_isToken 27 = .ok (.aload_n 0, 1) := by decide +kernel
theorem dX3_isToken_28 : decode cX3_isToken 28 = .ok (.getfield 23, 3) := by decide +kernel
theorem dX3_isToken_31 : decode cX3_isToken 31 = .ok (.iload_n 2, 1) := by decide +kernel
theorem dX3_isToken_32 : decode cX3_isToken 32 = .ok (.iadd, 1) := by decide +kernel
theorem dX3_isToken_33 : decode cX3_isToken 33 = .ok (.invokestatic 26, 3) := by decide +kernel
theorem dX3_isToken_36 : decode cX3_isToken 36 = .ok (.aload_n 1, 1) := by decide +kernel
theorem dX3_isToken_37 : decode cX3_isToken 37 = .ok (.iload_n 2, 1) := by decide +kernel
theorem dX3_isToken_38 : decode cX3_isToken 38 = .ok (.invokevirtual 49, 3) := by decide +kernel
theorem dX3_isToken_41 : decode cX3_isToken 41 = .ok (.if_icmp .eq 5, 3) := by decide +kernel
theorem dX3_isToken_44 : decode cX3_isToken 44 = .ok (.iconst 0, 1) := by decide +kernel
theorem dX3_isToken_45 : decode cX3_isToken 45 = .ok (.ireturn, 1) := by decide +kernel
theorem dX3_isToken_46 : decode cX3_isToken 46 = .ok (.iinc 2 1, 3) := by decide +kernel
theorem dX3_isToken_49 : decode cX3_isToken 49 = .ok (.goto (-34), 3) := by decide +kernel
theorem dX3_isToken_52 : decode cX3_isToken 52 = .ok (.iconst 1, 1) := by decide +kernel
theorem dX3_isToken_53 : decode cX3_isToken 53 = .ok (.ireturn, 1) := by decide +kernel
theorem dX3_isSemicolon_0 : decode cX3_isSemicolon 0 = .ok (.aload_n 0, 1) := by decide +kernel
theorem dX3_isSemicolon_1 : decode cX3_isSemicolon 1 = .ok (.getfield 33, 3) := by decide +kernel
theorem dX3_isSemicolon_4 : decode cX3_isSemicolon 4 = .ok (.iconst 3, 1) := by decide +kernel
theorem dX3_isSemicolon_5 : decode cX3_isSemicolon 5 = .ok (.if_icmp .ne 23, 3) := by decide +kernel
theorem dX3_isSemicolon_8 : decode cX3_isSemicolon 8 = .ok (.aload_n 0, 1) := by decide +kernel
theorem dX3_isSemicolon_9 : decode cX3_isSemicolon 9 = .ok (.getfield 9, 3) := by decide +kernel
theorem dX3_isSemicolon_12 : decode cX3_isSemicolon 12 = .ok (.aload_n 0, 1) := by decide +kernel
theorem dX3_isSemicolon_13 : decode cX3_isSemicolon 13 = .ok (.getfield 23, 3) := by decide +kernel
theorem dX3_isSemicolon_16 : decode cX3_isSemicolon 16 = .ok (.invokestatic 26, 3) := by decide +kernel
theorem dX3_isSemicolon_19 : decode cX3_isSemicolon 19 = .ok (.bipush 59, 2) := by decide +kernel
theorem dX3_isSemicolon_21 : decode cX3_isSemicolon 21 = .ok (.if_icmp .ne 7, 3) := by decide +kernel
theorem dX3_isSemicolon_24 : decode cX3_isSemicolon 24 = .ok (.iconst 1, 1) := by decide +kernel
theorem dX3_isSemicolon_25 : decode cX3_isSemicolon 25 = .ok (.goto 4, 3) := by decide +kernel
theorem dX3_isSemicolon_28 : decode cX3_isSemicolon 28 = .ok (.iconst 0, 1) := by decide +kernel
theorem dX3_isSemicolon_29 : decode cX3_isSemicolon 29 = .ok (.ireturn, 1) := by decide +kernel
theorem dX3_number_0 : decode cX3_number 0 = .ok (.aload_n 0, 1) := by decide +kernel
theorem dX3_number_1 : decode cX3_number 1 = .ok (.getfield 33, 3) := by decide +kernel
theorem dX3_number_4 : decode cX3_number 4 = .ok (.iconst 2, 1) := by decide +kernel
theorem dX3_number_5 : decode cX3_number 5 = .ok (.if_icmp .ne 11, 3) := by decide +kernel
theorem dX3_number_8 : decode cX3_number 8 = .ok (.aload_n 0, 1) := by decide +kernel
theorem dX3_number_9 : decode cX3_number 9 = .ok (.invokevirtual 40, 3) := by decide +kernel
theorem dX3_number_12 : decode cX3_number 12 = .ok (.iconst 4, 1) := by decide +kernel
theorem dX3_number_13 : decode cX3_number 13 = .ok (.if_icmp .le 5, 3) := by decide +kernel
theorem dX3_number_16 : decode cX3_number 16 = .ok (.iconst (-1), 1) := by decide +kernel
theorem dX3_number_17 : decode cX3_number 17 = .ok (.ireturn, 1) := by decide +kernel
theorem dX3_number_18 : decode cX3_number 18 = .ok (.iconst 0, 1) := by decide +kernel
theorem dX3_number_19 : decode cX3_number 19 = .ok (.istore_n 1, 1) := by decide +kernel
theorem dX3_number_20 : decode cX3_number 20 = .ok (.aload_n 0, 1) := by decide +kernel
theorem dX3_number_21 : decode cX3_number 21 = .ok (.getfield 23, 3) := by decide +kernel
theorem dX3_number_24 : decode cX3_number 24 = .ok (.istore_n 2, 1) := by decide +kernel
theorem dX3_number_25 : decode cX3_number 25 = .ok (.iload_n 2, 1) := by decide +kernel
theorem dX3_number_26 : decode cX3_number 26 = .ok (.aload_n 0, 1) := by decide +kernel
theorem dX3_number_27 : decode cX3_number 27 = .ok (.getfield 30, 3) := by decide +kernel
theorem dX3_number_30 : decode cX3_number 30 = .ok (.if_icmp .ge 26, 3) := by decide +kernel
theorem dX3_number_33 : decode cX3_number 33 = .ok (.bipush 10, 2) := by decide +kernel
theorem dX3_number_35 : decode cX3_number 35 = .ok (.iload_n 1, 1) := by decide +kernel
theorem dX3_number_36 : decode cX3_number 36 = .ok (.imul, 1) := by decide +kernel
theorem dX3_number_37 : decode cX3_number 37 = .ok (.aload_n 0, 1) := by decide +kernel
theorem dX3_number_38 : decode cX3_number 38 = .ok (.getfield 9, 3) := by decide +kernel
theorem dX3_number_41 : decode cX3_number 41 = .ok (.iload_n 2, 1) := by decide +kernel
theorem dX3_number_42 : decode cX3_number 42 = .ok (.invokestatic 26, 3) := by decide +kernel
theorem dX3_number_45 : decode cX3_number 45 = .ok (.iadd, 1) := by decide +kernel
theorem dX3_number_46 : decode cX3_number 46 = .ok (.bipush 48, 2) := by decide +kernel
theorem dX3_number_48 : decode cX3_number 48 = .ok (.isub, 1) := by decide +kernel
theorem dX3_number_49 : decode cX3_number 49 = .ok (.istore_n 1, 1) := by decide +kernel
theorem dX3_number_50 : decode cX3_number 50 = .ok (.iinc 2 1, 3) := by decide +kernel
theorem dX3_number_53 : decode cX3_number 53 = .ok (.goto (-28), 3) := by decide +kernel
theorem dX3_number_56 : decode cX3_number 56 = .ok (.iload_n 1, 1) := by decide +kernel
theorem dX3_number_57 : decode cX3_number 57 = .ok (.ireturn, 1) := by decide +kernel
theorem dX4_init_0 : decode cX4_init 0 = .ok (.aload_n 0, 1) := by decide +kernel
theorem dX4_init_1 : decode cX4_init 1 = .ok (.invokespecial 3, 3) := by decide +kernel
theorem dX4_init_4 : decode cX4_init 4 = .ok (.aload_n 0, 1) := by decide +kernel
theorem dX4_init_5 : decode cX4_init 5 = .ok (.bipush 42, 2) := by decide +kernel
theorem dX4_init_7 : decode cX4_init 7 = .ok (.newarray .int, 2) := by decide +kernel
theorem dX4_init_9 : decode cX4_init 9 = .ok (.putfield 9, 3) := by decide +kernel
theorem dX4_init_12 : decode cX4_init 12 = .ok (.aload_n 0, 1) := by decide +kernel
theorem dX4_init_13 : decode cX4_init 13 = .ok (.bipush 6, 2) := by decide +kernel
theorem dX4_init_15 : decode cX4_init 15 = .ok (.newarray .int, 2) := by decide +kernel
theorem dX4_init_17 : decode cX4_init 17 = .ok (.putfield 15, 3) := by decide +kernel
theorem dX4_init_20 : decode cX4_init 20 = .ok (.aload_n 0, 1) := by decide +kernel
theorem dX4_init_21 : decode cX4_init 21 = .ok (.bipush 6, 2) := by decide +kernel
theorem dX4_init_23 : decode cX4_init 23 = .ok (.newarray .int, 2) := by decide +kernel
theorem dX4_init_25 : decode cX4_init 25 = .ok (.putfield 18, 3) := by decide +kernel
theorem dX4_init_28 : decode cX4_init 28 = .ok (.aload_n 0, 1) := by decide +kernel
theorem dX4_init_29 : decode cX4_init 29 = .ok (.bipush 6, 2) := by decide +kernel
theorem dX4_init_31 : decode cX4_init 31 = .ok (.newarray .int, 2) := by decide +kernel
theorem dX4_init_33 : decode cX4_init 33 = .ok (.putfield 21, 3) := by decide +kernel
theorem dX4_init_36 : decode cX4_init 36 = .ok (.aload_n 0, 1) := by decide +kernel
theorem dX4_init_37 : decode cX4_init 37 = .ok (.bipush 10, 2) := by decide +kernel
theorem dX4_init_39 : decode cX4_init 39 = .ok (.newarray .int, 2) := by decide +kernel
theorem dX4_init_41 : decode cX4_init 41 = .ok (.putfield 24, 3) := by decide +kernel
theorem dX4_init_44 : decode cX4_init 44 = .ok (.aload_n 0, 1) := by decide +kernel
theorem dX4_init_45 : decode cX4_init 45 = .ok (.new 27, 3) := by decide +kernel
theorem dX4_init_48 : decode cX4_init 48 = .ok (.dup, 1) := by decide +kernel
theorem dX4_init_49 : decode cX4_init 49 = .ok (.invokespecial 29, 3) := by decide +kernel
theorem dX4_init_52 : decode cX4_init 52 = .ok (.putfield 30, 3) := by decide +kernel
theorem dX4_init_55 : decode cX4_init 55 = .ok (.aload_n 0, 1) := by decide +kernel
theorem dX4_init_56 : decode cX4_init 56 = .ok (.bipush 11, 2) := by decide +kernel
theorem dX4_init_58 : decode cX4_init 58 = .ok (.newarray .int, 2) := by decide +kernel
theorem dX4_init_60 : decode cX4_init 60 = .ok (.putfield 34, 3) := by decide +kernel
theorem dX4_init_63 : decode cX4_init 63 = .ok (.return_, 1) := by decide +kernel
theorem dX4_become_0 : decode cX4_become 0 = .ok (.aload_n 0, 1) := by decide +kernel
theorem dX4_become_1 : decode cX4_become 1 = .ok (.aload_n 1, 1) := by decide +kernel
theorem dX4_become_2 : decode cX4_become 2 = .ok (.getfield 37, 3) := by decide +kernel
theorem dX4_become_5 : decode cX4_become 5 = .ok (.putfield 37, 3) := by decide +kernel
theorem dX4_become_8 : decode cX4_become 8 = .ok (.aload_n 1, 1) := by decide +kernel
theorem dX4_become_9 : decode cX4_become 9 = .ok (.getfield 9, 3) := by decide +kernel
theorem dX4_become_12 : decode cX4_become 12 = .ok (.aload_n 0, 1) := by decide +kernel
theorem dX4_become_13 : decode cX4_become 13 = .ok (.getfield 9, 3) := by decide +kernel
theorem dX4_become_16 : decode cX4_become 16 = .ok (.invokestatic 41, 3) := by decide +kernel
theorem dX4_become_19 : decode cX4_become 19 = .ok (.aload_n 1, 1) := by decide +kernel
theorem dX4_become_20 : decode cX4_become 20 = .ok (.getfield 15, 3) := by decide +kernel
theorem dX4_become_23 : decode cX4_become 23 = .ok (.aload_n 0, 1) := by decide +kernel
theorem dX4_become_24 : decode cX4_become 24 = .ok (.getfield 15, 3) := by decide +kernel
theorem dX4_become_27 : decode cX4_become 27 = .ok (.invokestatic 41, 3) := by decide +kernel
theorem dX4_become_30 : decode cX4_become 30 = .ok (.aload_n 1, 1) := by decide +kernel
theorem dX4_become_31 : decode cX4_become 31 = .ok (.getfield 18, 3) := by decide +kernel
theorem dX4_become_34 : decode cX4_become 34 = .ok (.aload_n 0, 1) := by decide +kernel
theorem dX4_become_35 : decode cX4_become 35 = .ok (.getfield 18, 3) := by decide +kernel
theorem dX4_become_38 : decode cX4_become 38 = .ok (.invokestatic 41, 3) := by decide +kernel
theorem dX4_become_41 : decode cX4_become 41 = .ok (.aload_n 1, 1) := by decide +kernel
theorem dX4_become_42 : decode cX4_become 42 = .ok (.getfield 21, 3) := by decide +kernel
theorem dX4_become_45 : decode cX4_become 45 = .ok (.aload_n 0, 1) := by decide +kernel
theorem dX4_become_46 : decode cX4_become 46 = .ok (.getfield 21, 3) := by decide +kernel
theorem dX4_become_49 : decode cX4_become 49 = .ok (.invokestatic 41, 3) := by decide +kernel
theorem dX4_become_52 : decode cX4_become 52 = .ok (.aload_n 0, 1) := by decide +kernel
theorem dX4_become_53 : decode cX4_become 53 = .ok (.aload_n 1, 1) := by decide +kernel
theorem dX4_become_54 : decode cX4_become 54 = .ok (.getfield 45, 3) := by decide +kernel
theorem dX4_become_57 : decode cX4_become 57 = .ok (.putfield 45, 3) := by decide +kernel
theorem dX4_become_60 : decode cX4_become 60 = .ok (.aload_n 1, 1) := by decide +kernel
theorem dX4_become_61 : decode cX4_become 61 = .ok (.getfield 24, 3) := by decide +kernel
theorem dX4_become_64 : decode cX4_become 64 = .ok (.aload_n 0, 1) := by decide +kernel
theorem dX4_become_65 : decode cX4_become 65 = .ok (.getfield 24, 3) := by decide +kernel
theorem dX4_become_68 : decode cX4_become 68 = .ok (.invokestatic 41, 3) := by decide +kernel
theorem dX4_become_71 : decode cX4_become 71 = .ok (.aload_n 0, 1) := by decide +kernel
theorem dX4_become_72 : decode cX4_become 72 = .ok (.getfield 30, 3) := by decide +kernel
theorem dX4_become_75 : decode cX4_become 75 = .ok (.aload_n 1, 1) := by decide +kernel
theorem dX4_become_76 : decode cX4_become 76 = .ok (.getfield 30, 3) := by decide +kernel
theorem dX4_become_79 : decode cX4_become 79 = .ok (.invokevirtual 48, 3) := by decide +kernel
theorem dX4_become_82 : decode cX4_become 82 = .ok (.return_, 1) := by decide +kernel
theorem dX4_clear_0 : decode cX4_clear 0 = .ok (.aload_n 0, 1) := by decide +kernel
theorem dX4_clear_1 : decode cX4_clear 1 = .ok (.iconst 0, 1) := by decide +kernel
theorem dX4_clear_2 : decode cX4_clear 2 = .ok (.putfield 37, 3) := by decide +kernel
theorem dX4_clear_5 : decode cX4_clear 5 = .ok (.aload_n 0, 1) := by decide +kernel
theorem dX4_clear_6 : decode cX4_clear 6 = .ok (.iconst 0, 1) := by decide +kernel
theorem dX4_clear_7 : decode cX4_clear 7 = .ok (.putfield 45, 3) := by decide +kernel
theorem dX4_clear_10 : decode cX4_clear 10 = .ok (.aload_n 0, 1) := by decide +kernel
theorem dX4_clear_11 : decode cX4_clear 11 = .ok (.getfield 30, 3) := by decide +kernel
theorem dX4_clear_14 : decode cX4_clear 14 = .ok (.iconst 0, 1) := by decide +kernel
theorem dX4_clear_15 : decode cX4_clear 15 = .ok (.putfield 52, 3) := by decide +kernel
theorem dX4_clear_18 : decode cX4_clear 18 = .ok (.aload_n 0, 1) := by decide +kernel
theorem dX4_clear_19 : decode cX4_clear 19 = .ok (.getfield 30, 3) := by decide +kernel
theorem dX4_clear_22 : decode cX4_clear 22 = .ok (.iconst 0, 1) := by decide +kernel
theorem dX4_clear_23 : decode cX4_clear 23 = .ok (.putfield 55, 3) := by decide +kernel
theorem dX4_clear_26 : decode cX4_clear 26 = .ok (.aload_n 0, 1) := by decide +kernel
theorem dX4_clear_27 : decode cX4_clear 27 = .ok (.getfield 30, 3) := by decide +kernel
theorem dX4_clear_30 : decode cX4_clear 30 = .ok (.iload_n 1, 1) := by decide +kernel
theorem dX4_clear_31 : decode cX4_clear 31 = .ok (.putfield 58, 3) := by decide +kernel
theorem dX4_clear_34 : decode cX4_clear 34 = .ok (.return_, 1) := by decide +kernel
theorem dX4_isStuff_0 : decode cX4_isStuff 0 = .ok (.iload_n 1, 1) := by decide +kernel
theorem dX4_isStuff_1 : decode cX4_isStuff 1 = .ok (.ifCond .lt 15, 3) := by decide +kernel
theorem dX4_isStuff_4 : decode cX4_isStuff 4 = .ok (.iload_n 1, 1) := by decide +kernel
theorem dX4_isStuff_5 : decode cX4_isStuff 5 = .ok (.aload_n 0, 1) := by decide +kernel
theorem dX4_isStuff_6 : decode cX4_isStuff 6 = .ok (.getfield 37, 3) := by decide +kernel
theorem dX4_isStuff_9 : decode cX4_isStuff 9 = .ok (.if_icmp .ge 7, 3) := by decide +kernel
theorem dX4_isStuff_12 : decode cX4_isStuff 12 = .ok (.iconst 1, 1) := by decide +kernel
theorem dX4_isStuff_13 : decode cX4_isStuff 13 = .ok (.goto 4, 3) := by decide +kernel
theorem dX4_isStuff_16 : decode cX4_isStuff 16 = .ok (.iconst 0, 1) := by decide +kernel
theorem dX4_isStuff_17 : decode cX4_isStuff 17 = .ok (.ireturn, 1) := by decide +kernel
theorem dX4_isCell_0 : decode cX4_isCell 0 = .ok (.iload_n 1, 1) := by decide +kernel
theorem dX4_isCell_1 : decode cX4_isCell 1 = .ok (.ifCond .lt 15, 3) := by decide +kernel
theorem dX4_isCell_4 : decode cX4_isCell 4 = .ok (.iload_n 1, 1) := by decide +kernel
theorem dX4_isCell_5 : decode cX4_isCell 5 = .ok (.aload_n 0, 1) := by decide +kernel
theorem dX4_isCell_6 : decode cX4_isCell 6 = .ok (.getfield 45, 3) := by decide +kernel
theorem dX4_isCell_9 : decode cX4_isCell 9 = .ok (.if_icmp .ge 7, 3) := by decide +kernel
theorem dX4_isCell_12 : decode cX4_isCell 12 = .ok (.iconst 1, 1) := by decide +kernel
theorem dX4_isCell_13 : decode cX4_isCell 13 = .ok (.goto 4, 3) := by decide +kernel
theorem dX4_isCell_16 : decode cX4_isCell 16 = .ok (.iconst 0, 1) := by decide +kernel
theorem dX4_isCell_17 : decode cX4_isCell 17 = .ok (.ireturn, 1) := by decide +kernel
theorem dX4_passesAt_0 : decode cX4_passesAt 0 = .ok (.aload_n 0, 1) := by decide +kernel
theorem dX4_passesAt_1 : decode cX4_passesAt 1 = .ok (.getfield 18, 3) := by decide +kernel
theorem dX4_passesAt_4 : decode cX4_passesAt 4 = .ok (.aload_n 0, 1) := by decide +kernel
theorem dX4_passesAt_5 : decode cX4_passesAt 5 = .ok (.getfield 24, 3) := by decide +kernel
theorem dX4_passesAt_8 : decode cX4_passesAt 8 = .ok (.iload_n 1, 1) := by decide +kernel
theorem dX4_passesAt_9 : decode cX4_passesAt 9 = .ok (.invokestatic 61, 3) := by decide +kernel
theorem dX4_passesAt_12 : decode cX4_passesAt 12 = .ok (.invokestatic 61, 3) := by decide +kernel
theorem dX4_passesAt_15 : decode cX4_passesAt 15 = .ok (.ireturn, 1) := by decide +kernel
theorem dX4_holdsAt_0 : decode cX4_holdsAt 0 = .ok (.aload_n 0, 1) := by decide +kernel
theorem dX4_holdsAt_1 : decode cX4_holdsAt 1 = .ok (.getfield 21, 3) := by decide +kernel
theorem dX4_holdsAt_4 : decode cX4_holdsAt 4 = .ok (.aload_n 0, 1) := by decide +kernel
theorem dX4_holdsAt_5 : decode cX4_holdsAt 5 = .ok (.getfield 24, 3) := by decide +kernel
theorem dX4_holdsAt_8 : decode cX4_holdsAt 8 = .ok (.iload_n 1, 1) := by decide +kernel
theorem dX4_holdsAt_9 : decode cX4_holdsAt 9 = .ok (.invokestatic 61, 3) := by decide +kernel
theorem dX4_holdsAt_12 : decode cX4_holdsAt 12 = .ok (.invokestatic 61, 3) := by decide +kernel
theorem dX4_holdsAt_15 : decode cX4_holdsAt 15 = .ok (.ireturn, 1) := by decide +kernel
theorem dX4_cellsOf_0 : decode cX4_cellsOf 0 = .ok (.iconst 0, 1) := by decide +kernel
theorem dX4_cellsOf_1 : decode cX4_cellsOf 1 = .ok (.istore_n 2, 1) := by decide +kernel
theorem dX4_cellsOf_2 : decode cX4_cellsOf 2 = .ok (.iconst 0, 1) := by decide +kernel
theorem dX4_cellsOf_3 : decode cX4_cellsOf 3 = .ok (.istore_n 3, 1) := by decide +kernel
theorem dX4_cellsOf_4 : decode cX4_cellsOf 4 = .ok (.iload_n 3, 1) := by decide +kernel
theorem dX4_cellsOf_5 : decode cX4_cellsOf 5 = .ok (.aload_n 0, 1) := by decide +kernel
theorem dX4_cellsOf_6 : decode cX4_cellsOf 6 = .ok (.getfield 45, 3) := by decide +kernel
theorem dX4_cellsOf_9 : decode cX4_cellsOf 9 = .ok (.if_icmp .ge 27, 3) := by decide +kernel
theorem dX4_cellsOf_12 : decode cX4_cellsOf 12 = .ok (.aload_n 0, 1) := by decide +kernel
theorem dX4_cellsOf_13 : decode cX4_cellsOf 13 = .ok (.getfield 24, 3) := by decide +kernel
theorem dX4_cellsOf_16 : decode cX4_cellsOf 16 = .ok (.iload_n 3, 1) := by decide +kernel
theorem dX4_cellsOf_17 : decode cX4_cellsOf 17 = .ok (.invokestatic 61, 3) := by decide +kernel
theorem dX4_cellsOf_20 : decode cX4_cellsOf 20 = .ok (.iload_n 1, 1) := by decide +kernel
theorem dX4_cellsOf_21 : decode cX4_cellsOf 21 = .ok (.if_icmp .ne 9, 3) := by decide +kernel
theorem dX4_cellsOf_24 : decode cX4_cellsOf 24 = .ok (.iload_n 2, 1) := by decide +kernel
theorem dX4_cellsOf_25 : decode cX4_cellsOf 25 = .ok (.iconst 1, 1) := by decide +kernel
theorem dX4_cellsOf_26 : decode cX4_cellsOf 26 = .ok (.iload_n 3, 1) := by decide +kernel
theorem dX4_cellsOf_27 : decode cX4_cellsOf 27 = .ok (.ishl, 1) := by decide +kernel
theorem dX4_cellsOf_28 : decode cX4_cellsOf 28 = .ok (.ior, 1) := by decide +kernel
theorem dX4_cellsOf_29 : decode cX4_cellsOf 29 = .ok (.istore_n 2, 1) := by decide +kernel
theorem dX4_cellsOf_30 : decode cX4_cellsOf 30 = .ok (.iinc 3 1, 3) := by decide +kernel
theorem dX4_cellsOf_33 : decode cX4_cellsOf 33 = .ok (.goto (-29), 3) := by decide +kernel
theorem dX4_cellsOf_36 : decode cX4_cellsOf 36 = .ok (.iload_n 2, 1) := by decide +kernel
theorem dX4_cellsOf_37 : decode cX4_cellsOf 37 = .ok (.ireturn, 1) := by decide +kernel
theorem dX4_nameNext_0 : decode cX4_nameNext 0 = .ok (.aload_n 0, 1) := by decide +kernel
theorem dX4_nameNext_1 : decode cX4_nameNext 1 = .ok (.getfield 15, 3) := by decide +kernel
theorem dX4_nameNext_4 : decode cX4_nameNext 4 = .ok (.aload_n 0, 1) := by decide +kernel
theorem dX4_nameNext_5 : decode cX4_nameNext 5 = .ok (.getfield 37, 3) := by decide +kernel
theorem dX4_nameNext_8 : decode cX4_nameNext 8 = .ok (.aload_n 1, 1) := by decide +kernel
theorem dX4_nameNext_9 : decode cX4_nameNext 9 = .ok (.invokevirtual 65, 3) := by decide +kernel
theorem dX4_nameNext_12 : decode cX4_nameNext 12 = .ok (.invokestatic 71, 3) := by decide +kernel
theorem dX4_nameNext_15 : decode cX4_nameNext 15 = .ok (.iconst 0, 1) := by decide +kernel
theorem dX4_nameNext_16 : decode cX4_nameNext 16 = .ok (.istore_n 2, 1) := by decide +kernel
theorem dX4_nameNext_17 : decode cX4_nameNext 17 = .ok (.iload_n 2, 1) := by decide +kernel
theorem dX4_nameNext_18 : decode cX4_nameNext 18 = .ok (.aload_n 1, 1) := by decide +kernel
theorem dX4_nameNext_19 : decode cX4_nameNext 19 = .ok (.invokevirtual 65, 3) := by decide +kernel
theorem dX4_nameNext_22 : decode cX4_nameNext 22 = .ok (.if_icmp .ge 38, 3) := by decide +kernel
theorem dX4_nameNext_25 : decode cX4_nameNext 25 = .ok (.aload_n 0, 1) := by decide +kernel
theorem dX4_nameNext_26 : decode cX4_nameNext 26 = .ok (.getfield 9, 3) := by decide +kernel
theorem dX4_nameNext_29 : decode cX4_nameNext 29 = .ok (.aload_n 0, 1) := by decide +kernel
theorem dX4_nameNext_30 : decode cX4_nameNext 30 = .ok (.getfield 37, 3) := by decide +kernel
theorem dX4_nameNext_33 : decode cX4_nameNext 33 = .ok (.bipush 7, 2) := by decide +kernel
theorem dX4_nameNext_35 : decode cX4_nameNext 35 = .ok (.imul, 1) := by decide +kernel
theorem dX4_nameNext_36 : decode cX4_nameNext 36 = .ok (.iload_n 2, 1) := by decide +kernel
theorem dX4_nameNext_37 : decode cX4_nameNext 37 = .ok (.iadd, 1) := by decide +kernel
theorem dX4_nameNext_38 : decode cX4_nameNext 38 = .ok (.aload_n 1, 1) := by decide +kernel
theorem dX4_nameNext_39 : decode cX4_nameNext 39 = .ok (.getfield 75, 3) := by decide +kernel
theorem dX4_nameNext_42 : decode cX4_nameNext 42 = .ok (.aload_n 1, 1) := by decide +kernel
theorem dX4_nameNext_43 : decode cX4_nameNext 43 = .ok (.getfield 78, 3) := by decide +kernel
theorem dX4_nameNext_46 : decode cX4_nameNext 46 = .ok (.iload_n 2, 1) := by decide +kernel
theorem dX4_nameNext_47 : decode cX4_nameNext 47 = .ok (.iadd, 1) := by decide +kernel
theorem dX4_nameNext_48 : decode cX4_nameNext 48 = .ok (.invokestatic 61, 3) := by decide +kernel
theorem dX4_nameNext_51 : decode cX4_nameNext 51 = .ok (.invokestatic 71, 3) := by decide +kernel
theorem dX4_nameNext_54 : decode cX4_nameNext 54 = .ok (.iinc 2 1, 3) := by decide +kernel
theorem dX4_nameNext_57 : decode cX4_nameNext 57 = .ok (.goto (-40), 3) := by decide +kernel
theorem dX4_nameNext_60 : decode cX4_nameNext 60 = .ok (.return_, 1) := by decide +kernel
theorem dX4_addStuff_0 : decode cX4_addStuff 0 = .ok (.aload_n 0, 1) := by decide +kernel
theorem dX4_addStuff_1 : decode cX4_addStuff 1 = .ok (.getfield 18, 3) := by decide +kernel
theorem dX4_addStuff_4 : decode cX4_addStuff 4 = .ok (.aload_n 0, 1) := by decide +kernel
theorem dX4_addStuff_5 : decode cX4_addStuff 5 = .ok (.getfield 37, 3) := by decide +kernel
theorem dX4_addStuff_8 : decode cX4_addStuff 8 = .ok (.iload_n 1, 1) := by decide +kernel
theorem dX4_addStuff_9 : decode cX4_addStuff 9 = .ok (.invokestatic 71, 3) := by decide +kernel
theorem dX4_addStuff_12 : decode cX4_addStuff 12 = .ok (.aload_n 0, 1) := by decide +kernel
theorem dX4_addStuff_13 : decode cX4_addStuff 13 = .ok (.getfield 21, 3) := by decide +kernel
theorem dX4_addStuff_16 : decode cX4_addStuff 16 = .ok (.aload_n 0, 1) := by decide +kernel
theorem dX4_addStuff_17 : decode cX4_addStuff 17 = .ok (.getfield 37, 3) := by decide +kernel
theorem dX4_addStuff_20 : decode cX4_addStuff 20 = .ok (.iload_n 2, 1) := by decide +kernel
theorem dX4_addStuff_21 : decode cX4_addStuff 21 = .ok (.invokestatic 71, 3) := by decide +kernel
theorem dX4_addStuff_24 : decode cX4_addStuff 24 = .ok (.aload_n 0, 1) := by decide +kernel
theorem dX4_addStuff_25 : decode cX4_addStuff 25 = .ok (.dup, 1) := by decide +kernel
theorem dX4_addStuff_26 : decode cX4_addStuff 26 = .ok (.getfield 37, 3) := by decide +kernel
theorem dX4_addStuff_29 : decode cX4_addStuff 29 = .ok (.iconst 1, 1) := by decide +kernel
theorem dX4_addStuff_30 : decode cX4_addStuff 30 = .ok (.iadd, 1) := by decide +kernel
theorem dX4_addStuff_31 : decode cX4_addStuff 31 = .ok (.putfield 37, 3) := by decide +kernel
theorem dX4_addStuff_34 : decode cX4_addStuff 34 = .ok (.return_, 1) := by decide +kernel
theorem dX4_addCells_0 : decode cX4_addCells 0 = .ok (.iconst 0, 1) := by decide +kernel
theorem dX4_addCells_1 : decode cX4_addCells 1 = .ok (.istore_n 3, 1) := by decide +kernel
theorem dX4_addCells_2 : decode cX4_addCells 2 = .ok (.iload_n 3, 1) := by decide +kernel
theorem dX4_addCells_3 : decode cX4_addCells 3 = .ok (.iload_n 2, 1) := by decide +kernel
theorem dX4_addCells_4 : decode cX4_addCells 4 = .ok (.if_icmp .ge 46, 3) := by decide +kernel
theorem dX4_addCells_7 : decode cX4_addCells 7 = .ok (.aload_n 0, 1) := by decide +kernel
theorem dX4_addCells_8 : decode cX4_addCells 8 = .ok (.getfield 24, 3) := by decide +kernel
theorem dX4_addCells_11 : decode cX4_addCells 11 = .ok (.aload_n 0, 1) := by decide +kernel
theorem dX4_addCells_12 : decode cX4_addCells 12 = .ok (.getfield 45, 3) := by decide +kernel
theorem dX4_addCells_15 : decode cX4_addCells 15 = .ok (.iload_n 1, 1) := by decide +kernel
theorem dX4_addCells_16 : decode cX4_addCells 16 = .ok (.invokestatic 71, 3) := by decide +kernel
theorem dX4_addCells_19 : decode cX4_addCells 19 = .ok (.aload_n 0, 1) := by decide +kernel
theorem dX4_addCells_20 : decode cX4_addCells 20 = .ok (.getfield 30, 3) := by decide +kernel
theorem dX4_addCells_23 : decode cX4_addCells 23 = .ok (.getfield 81, 3) := by decide +kernel
theorem dX4_addCells_26 : decode cX4_addCells 26 = .ok (.aload_n 0, 1) := by decide +kernel
theorem dX4_addCells_27 : decode cX4_addCells 27 = .ok (.getfield 45, 3) := by decide +kernel
theorem dX4_addCells_30 : decode cX4_addCells 30 = .ok (.iconst 0, 1) := by decide +kernel
theorem dX4_addCells_31 : decode cX4_addCells 31 = .ok (.invokestatic 71, 3) := by decide +kernel
theorem dX4_addCells_34 : decode cX4_addCells 34 = .ok (.aload_n 0, 1) := by decide +kernel
theorem dX4_addCells_35 : decode cX4_addCells 35 = .ok (.dup, 1) := by decide +kernel
theorem dX4_addCells_36 : decode cX4_addCells 36 = .ok (.getfield 45, 3) := by decide +kernel
theorem dX4_addCells_39 : decode cX4_addCells 39 = .ok (.iconst 1, 1) := by decide +kernel
theorem dX4_addCells_40 : decode cX4_addCells 40 = .ok (.iadd, 1) := by decide +kernel
theorem dX4_addCells_41 : decode cX4_addCells 41 = .ok (.putfield 45, 3) := by decide +kernel
theorem dX4_addCells_44 : decode cX4_addCells 44 = .ok (.iinc 3 1, 3) := by decide +kernel
theorem dX4_addCells_47 : decode cX4_addCells 47 = .ok (.goto (-45), 3) := by decide +kernel
theorem dX4_addCells_50 : decode cX4_addCells 50 = .ok (.return_, 1) := by decide +kernel
theorem dX4_stuffNamed_0 : decode cX4_stuffNamed 0 = .ok (.iconst 0, 1) := by decide +kernel
theorem dX4_stuffNamed_1 : decode cX4_stuffNamed 1 = .ok (.istore 4, 2) := by decide +kernel
theorem dX4_stuffNamed_3 : decode cX4_stuffNamed 3 = .ok (.iload 4, 2) := by decide +kernel
theorem dX4_stuffNamed_5 : decode cX4_stuffNamed 5 = .ok (.aload_n 0, 1) := by decide +kernel
theorem dX4_stuffNamed_6 : decode cX4_stuffNamed 6 = .ok (.getfield 37, 3) := by decide +kernel
theorem dX4_stuffNamed_9 : decode cX4_stuffNamed 9 = .ok (.if_icmp .ge 24, 3) := by decide +kernel
theorem dX4_stuffNamed_12 : decode cX4_stuffNamed 12 = .ok (.aload_n 0, 1) := by decide +kernel
theorem dX4_stuffNamed_13 : decode cX4_stuffNamed 13 = .ok (.iload 4, 2) := by decide +kernel
theorem dX4_stuffNamed_15 : decode cX4_stuffNamed 15 = .ok (.aload_n 1, 1) := by decide +kernel
theorem dX4_stuffNamed_16 : decode cX4_stuffNamed 16 = .ok (.iload_n 2, 1) := by decide +kernel
theorem dX4_stuffNamed_17 : decode cX4_stuffNamed 17 = .ok (.iload_n 3, 1) := by decide +kernel
theorem dX4_stuffNamed_18 : decode cX4_stuffNamed 18 = .ok (.invokevirtual 84, 3) := by decide +kernel
theorem dX4_stuffNamed_21 : decode cX4_stuffNamed 21 = .ok (.ifCond .eq 6, 3) := by decide +kernel
theorem dX4_stuffNamed_24 : decode cX4_stuffNamed 24 = .ok (.iload 4, 2) := by decide +kernel
theorem dX4_stuffNamed_26 : decode cX4_stuffNamed 26 = .ok (.ireturn, 1) := by decide +kernel
theorem dX4_stuffNamed_27 : decode cX4_stuffNamed 27 = .ok (.iinc 4 1, 3) := by decide +kernel
theorem dX4_stuffNamed_30 : decode cX4_stuffNamed 30 = .ok (.goto (-27), 3) := by decide +kernel
theorem dX4_stuffNamed_33 : decode cX4_stuffNamed 33 = .ok (.iconst (-1), 1) := by decide +kernel
theorem dX4_stuffNamed_34 : decode cX4_stuffNamed 34 = .ok (.ireturn, 1) := by decide +kernel
theorem dX4_isNamed_0 : decode cX4_isNamed 0 = .ok (.aload_n 0, 1) := by decide +kernel
theorem dX4_isNamed_1 : decode cX4_isNamed 1 = .ok (.getfield 15, 3) := by decide +kernel
theorem dX4_isNamed_4 : decode cX4_isNamed 4 = .ok (.iload_n 1, 1) := by decide +kernel
theorem dX4_isNamed_5 : decode cX4_isNamed 5 = .ok (.invokestatic 61, 3) := by decide +kernel
theorem dX4_isNamed_8 : decode cX4_isNamed 8 = .ok (.istore 5, 2) := by decide +kernel
theorem dX4_isNamed_10 : decode cX4_isNamed 10 = .ok (.iconst 0, 1) := by decide +kernel
theorem dX4_isNamed_11 : decode cX4_isNamed 11 = .ok (.istore 6, 2) := by decide +kernel
theorem dX4_isNamed_13 : decode cX4_isNamed 13 = .ok (.iload_n 3, 1) := by decide +kernel
theorem dX4_isNamed_14 : decode cX4_isNamed 14 = .ok (.istore 7, 2) := by decide +kernel
theorem dX4_isNamed_16 : decode cX4_isNamed 16 = .ok (.iload 7, 2) := by decide +kernel
theorem dX4_isNamed_18 : decode cX4_isNamed 18 = .ok (.iload 4, 2) := by decide +kernel
theorem dX4_isNamed_20 : decode cX4_isNamed 20 = .ok (.if_icmp .ge 61, 3) := by decide +kernel
theorem dX4_isNamed_23 : decode cX4_isNamed 23 = .ok (.aload_n 2, 1) := by decide +kernel
theorem dX4_isNamed_24 : decode cX4_isNamed 24 = .ok (.getfield 75, 3) := by decide +kernel
theorem dX4_isNamed_27 : decode cX4_isNamed 27 = .ok (.iload 7, 2) := by decide +kernel
theorem dX4_isNamed_29 : decode cX4_isNamed 29 = .ok (.invokestatic 61, 3) := by decide +kernel
theorem dX4_isNamed_32 : decode cX4_isNamed 32 = .ok (.istore 8, 2) := by decide +kernel
theorem dX4_isNamed_34 : decode cX4_isNamed 34 = .ok (.iload 8, 2) := by decide +kernel
theorem dX4_isNamed_36 : decode cX4_isNamed 36 = .ok (.bipush 32, 2) := by decide +kernel
theorem dX4_isNamed_38 : decode cX4_isNamed 38 = .ok (.if_icmp .ne 6, 3) := by decide +kernel
theorem dX4_isNamed_41 : decode cX4_isNamed 41 = .ok (.goto 34, 3) := by decide +kernel
theorem dX4_isNamed_44 : decode cX4_isNamed 44 = .ok (.iload 6, 2) := by decide +kernel
theorem dX4_isNamed_46 : decode cX4_isNamed 46 = .ok (.iload 5, 2) := by decide +kernel
theorem dX4_isNamed_48 : decode cX4_isNamed 48 = .ok (.if_icmp .ge 22, 3) := by decide +kernel
theorem dX4_isNamed_51 : decode cX4_isNamed 51 = .ok (.iload 8, 2) := by decide +kernel
theorem dX4_isNamed_53 : decode cX4_isNamed 53 = .ok (.aload_n 0, 1) := by decide +kernel
theorem dX4_isNamed_54 : decode cX4_isNamed 54 = .ok (.getfield 9, 3) := by decide +kernel
theorem dX4_isNamed_57 : decode cX4_isNamed 57 = .ok (.iload_n 1, 1) := by decide +kernel
theorem dX4_isNamed_58 : decode cX4_isNamed 58 = .ok (.bipush 7, 2) := by decide +kernel
theorem dX4_isNamed_60 : decode cX4_isNamed 60 = .ok (.imul, 1) := by decide +kernel
theorem dX4_isNamed_61 : decode cX4_isNamed 61 = .ok (.iload 6, 2) := by decide +kernel
theorem dX4_isNamed_63 : decode cX4_isNamed 63 = .ok (.iadd, 1) := by decide +kernel
theorem dX4_isNamed_64 : decode cX4_isNamed 64 = .ok (.invokestatic 61, 3) := by decide +kernel
theorem dX4_isNamed_67 : decode cX4_isNamed 67 = .ok (.if_icmp .eq 5, 3) := by decide +kernel
theorem dX4_isNamed_70 : decode cX4_isNamed 70 = .ok (.iconst 0, 1) := by decide +kernel
theorem dX4_isNamed_71 : decode cX4_isNamed 71 = .ok (.ireturn, 1) := by decide +kernel
theorem dX4_isNamed_72 : decode cX4_isNamed 72 = .ok (.iinc 6 1, 3) := by decide +kernel
theorem dX4_isNamed_75 : decode cX4_isNamed 75 = .ok (.iinc 7 1, 3) := by decide +kernel
theorem dX4_isNamed_78 : decode cX4_isNamed 78 = .ok (.goto (-62), 3) := by decide +kernel
theorem dX4_isNamed_81 : decode cX4_isNamed 81 = .ok (.iload 6, 2) := by decide +kernel
theorem dX4_isNamed_83 : decode cX4_isNamed 83 = .ok (.iload 5, 2) := by decide +kernel
theorem dX4_isNamed_85 : decode cX4_isNamed 85 = .ok (.if_icmp .ne 7, 3) := by decide +kernel
theorem dX4_isNamed_88 : decode cX4_isNamed 88 = .ok (.iconst 1, 1) := by decide +kernel
theorem dX4_isNamed_89 : decode cX4_isNamed 89 = .ok (.goto 4, 3) := by decide +kernel
theorem dX4_isNamed_92 : decode cX4_isNamed 92 = .ok (.iconst 0, 1) := by decide +kernel
theorem dX4_isNamed_93 : decode cX4_isNamed 93 = .ok (.ireturn, 1) := by decide +kernel
theorem dX4_advance_0 : decode cX4_advance 0 = .ok (.iconst 0, 1) := by decide +kernel
theorem dX4_advance_1 : decode cX4_advance 1 = .ok (.istore_n 2, 1) := by decide +kernel
theorem dX4_advance_2 : decode cX4_advance 2 = .ok (.iload_n 2, 1) := by decide +kernel
theorem dX4_advance_3 : decode cX4_advance 3 = .ok (.aload_n 0, 1) := by decide +kernel
theorem dX4_advance_4 : decode cX4_advance 4 = .ok (.getfield 45, 3) := by decide +kernel
theorem dX4_advance_7 : decode cX4_advance 7 = .ok (.if_icmp .gt 23, 3) := by decide +kernel
theorem dX4_advance_10 : decode cX4_advance 10 = .ok (.aload_n 0, 1) := by decide +kernel
theorem dX4_advance_11 : decode cX4_advance 11 = .ok (.getfield 34, 3) := by decide +kernel
theorem dX4_advance_14 : decode cX4_advance 14 = .ok (.iload_n 2, 1) := by decide +kernel
theorem dX4_advance_15 : decode cX4_advance 15 = .ok (.aload_n 0, 1) := by decide +kernel
theorem dX4_advance_16 : decode cX4_advance 16 = .ok (.aload_n 1, 1) := by decide +kernel
theorem dX4_advance_17 : decode cX4_advance 17 = .ok (.iload_n 2, 1) := by decide +kernel
theorem dX4_advance_18 : decode cX4_advance 18 = .ok (.invokevirtual 88, 3) := by decide +kernel
theorem dX4_advance_21 : decode cX4_advance 21 = .ok (.invokestatic 71, 3) := by decide +kernel
theorem dX4_advance_24 : decode cX4_advance 24 = .ok (.iinc 2 1, 3) := by decide +kernel
theorem dX4_advance_27 : decode cX4_advance 27 = .ok (.goto (-25), 3) := by decide +kernel
theorem dX4_advance_30 : decode cX4_advance 30 = .ok (.iconst 0, 1) := by decide +kernel
theorem dX4_advance_31 : decode cX4_advance 31 = .ok (.istore_n 2, 1) := by decide +kernel
theorem dX4_advance_32 : decode cX4_advance 32 = .ok (.iload_n 2, 1) := by decide +kernel
theorem dX4_advance_33 : decode cX4_advance 33 = .ok (.aload_n 0, 1) := by decide +kernel
theorem dX4_advance_34 : decode cX4_advance 34 = .ok (.getfield 45, 3) := by decide +kernel
theorem dX4_advance_37 : decode cX4_advance 37 = .ok (.if_icmp .ge 23, 3) := by decide +kernel
theorem dX4_advance_40 : decode cX4_advance 40 = .ok (.aload_n 0, 1) := by decide +kernel
theorem dX4_advance_41 : decode cX4_advance 41 = .ok (.aload_n 1, 1) := by decide +kernel
theorem dX4_advance_42 : decode cX4_advance 42 = .ok (.iload_n 2, 1) := by decide +kernel
theorem dX4_advance_43 : decode cX4_advance 43 = .ok (.invokevirtual 92, 3) := by decide +kernel
theorem dX4_advance_46 : decode cX4_advance 46 = .ok (.invokestatic 95, 3) := by decide +kernel
theorem dX4_advance_49 : decode cX4_advance 49 = .ok (.ifCond .ne 5, 3) := by decide +kernel
theorem dX4_advance_52 : decode cX4_advance 52 = .ok (.iconst 0, 1) := by decide +kernel
theorem dX4_advance_53 : decode cX4_advance 53 = .ok (.ireturn, 1) := by decide +kernel
theorem dX4_advance_54 : decode cX4_advance 54 = .ok (.iinc 2 1, 3) := by decide +kernel
theorem dX4_advance_57 : decode cX4_advance 57 = .ok (.goto (-25), 3) := by decide +kernel
theorem dX4_advance_60 : decode cX4_advance 60 = .ok (.iconst 0, 1) := by decide +kernel
theorem dX4_advance_61 : decode cX4_advance 61 = .ok (.istore_n 2, 1) := by decide +kernel
theorem dX4_advance_62 : decode cX4_advance 62 = .ok (.iload_n 2, 1) := by decide +kernel
theorem dX4_advance_63 : decode cX4_advance 63 = .ok (.aload_n 0, 1) := by decide +kernel
theorem dX4_advance_64 : decode cX4_advance 64 = .ok (.getfield 45, 3) := by decide +kernel
theorem dX4_advance_67 : decode cX4_advance 67 = .ok (.if_icmp .ge 23, 3) := by decide +kernel
theorem dX4_advance_70 : decode cX4_advance 70 = .ok (.aload_n 1, 1) := by decide +kernel
theorem dX4_advance_71 : decode cX4_advance 71 = .ok (.getfield 81, 3) := by decide +kernel
theorem dX4_advance_74 : decode cX4_advance 74 = .ok (.iload_n 2, 1) := by decide +kernel
theorem dX4_advance_75 : decode cX4_advance 75 = .ok (.aload_n 0, 1) := by decide +kernel
theorem dX4_advance_76 : decode cX4_advance 76 = .ok (.aload_n 1, 1) := by decide +kernel
theorem dX4_advance_77 : decode cX4_advance 77 = .ok (.iload_n 2, 1) := by decide +kernel
theorem dX4_advance_78 : decode cX4_advance 78 = .ok (.invokevirtual 92, 3) := by decide +kernel
theorem dX4_advance_81 : decode cX4_advance 81 = .ok (.invokestatic 71, 3) := by decide +kernel
theorem dX4_advance_84 : decode cX4_advance 84 = .ok (.iinc 2 1, 3) := by decide +kernel
theorem dX4_advance_87 : decode cX4_advance 87 = .ok (.goto (-25), 3) := by decide +kernel
theorem dX4_advance_90 : decode cX4_advance 90 = .ok (.aload_n 1, 1) := by decide +kernel
theorem dX4_advance_91 : decode cX4_advance 91 = .ok (.dup, 1) := by decide +kernel
theorem dX4_advance_92 : decode cX4_advance 92 = .ok (.getfield 99, 3) := by decide +kernel
theorem dX4_advance_95 : decode cX4_advance 95 = .ok (.aload_n 0, 1) := by decide +kernel
theorem dX4_advance_96 : decode cX4_advance 96 = .ok (.getfield 34, 3) := by decide +kernel
theorem dX4_advance_99 : decode cX4_advance 99 = .ok (.iconst 0, 1) := by decide +kernel
theorem dX4_advance_100 : decode cX4_advance 100 = .ok (.invokestatic 61, 3) := by decide +kernel
theorem dX4_advance_103 : decode cX4_advance 103 = .ok (.iadd, 1) := by decide +kernel
theorem dX4_advance_104 : decode cX4_advance 104 = .ok (.putfield 99, 3) := by decide +kernel
theorem dX4_advance_107 : decode cX4_advance 107 = .ok (.aload_n 1, 1) := by decide +kernel
theorem dX4_advance_108 : decode cX4_advance 108 = .ok (.dup, 1) := by decide +kernel
theorem dX4_advance_109 : decode cX4_advance 109 = .ok (.getfield 102, 3) := by decide +kernel
theorem dX4_advance_112 : decode cX4_advance 112 = .ok (.aload_n 0, 1) := by decide +kernel
theorem dX4_advance_113 : decode cX4_advance 113 = .ok (.getfield 34, 3) := by decide +kernel
theorem dX4_advance_116 : decode cX4_advance 116 = .ok (.aload_n 0, 1) := by decide +kernel
theorem dX4_advance_117 : decode cX4_advance 117 = .ok (.getfield 45, 3) := by decide +kernel
theorem dX4_advance_120 : decode cX4_advance 120 = .ok (.invokestatic 61, 3) := by decide +kernel
theorem dX4_advance_123 : decode cX4_advance 123 = .ok (.iadd, 1) := by decide +kernel
theorem dX4_advance_124 : decode cX4_advance 124 = .ok (.putfield 102, 3) := by decide +kernel
theorem dX4_advance_127 : decode cX4_advance 127 = .ok (.aload_n 1, 1) := by decide +kernel
theorem dX4_advance_128 : decode cX4_advance 128 = .ok (.dup, 1) := by decide +kernel
theorem dX4_advance_129 : decode cX4_advance 129 = .ok (.getfield 105, 3) := by decide +kernel
theorem dX4_advance_132 : decode cX4_advance 132 = .ok (.iconst 1, 1) := by decide +kernel
theorem dX4_advance_133 : decode cX4_advance 133 = .ok (.iadd, 1) := by decide +kernel
theorem dX4_advance_134 : decode cX4_advance 134 = .ok (.putfield 105, 3) := by decide +kernel
theorem dX4_advance_137 : decode cX4_advance 137 = .ok (.iconst 1, 1) := by decide +kernel
theorem dX4_advance_138 : decode cX4_advance 138 = .ok (.ireturn, 1) := by decide +kernel
theorem dX4_heatBehind_0 : decode cX4_heatBehind 0 = .ok (.aload_n 1, 1) := by decide +kernel
theorem dX4_heatBehind_1 : decode cX4_heatBehind 1 = .ok (.getfield 81, 3) := by decide +kernel
theorem dX4_heatBehind_4 : decode cX4_heatBehind 4 = .ok (.iload_n 2, 1) := by decide +kernel
theorem dX4_heatBehind_5 : decode cX4_heatBehind 5 = .ok (.invokestatic 61, 3) := by decide +kernel
theorem dX4_heatBehind_8 : decode cX4_heatBehind 8 = .ok (.aload_n 0, 1) := by decide +kernel
theorem dX4_heatBehind_9 : decode cX4_heatBehind 9 = .ok (.getfield 34, 3) := by decide +kernel
theorem dX4_heatBehind_12 : decode cX4_heatBehind 12 = .ok (.iload_n 2, 1) := by decide +kernel
theorem dX4_heatBehind_13 : decode cX4_heatBehind 13 = .ok (.invokestatic 61, 3) := by decide +kernel
theorem dX4_heatBehind_16 : decode cX4_heatBehind 16 = .ok (.iadd, 1) := by decide +kernel
theorem dX4_heatBehind_17 : decode cX4_heatBehind 17 = .ok (.aload_n 0, 1) := by decide +kernel
theorem dX4_heatBehind_18 : decode cX4_heatBehind 18 = .ok (.getfield 34, 3) := by decide +kernel
theorem dX4_heatBehind_21 : decode cX4_heatBehind 21 = .ok (.iload_n 2, 1) := by decide +kernel
theorem dX4_heatBehind_22 : decode cX4_heatBehind 22 = .ok (.iconst 1, 1) := by decide +kernel
theorem dX4_heatBehind_23 : decode cX4_heatBehind 23 = .ok (.iadd, 1) := by decide +kernel
theorem dX4_heatBehind_24 : decode cX4_heatBehind 24 = .ok (.invokestatic 61, 3) := by decide +kernel
theorem dX4_heatBehind_27 : decode cX4_heatBehind 27 = .ok (.isub, 1) := by decide +kernel
theorem dX4_heatBehind_28 : decode cX4_heatBehind 28 = .ok (.ireturn, 1) := by decide +kernel
theorem dX4_flowAt_0 : decode cX4_flowAt 0 = .ok (.aload_n 0, 1) := by decide +kernel
theorem dX4_flowAt_1 : decode cX4_flowAt 1 = .ok (.iload_n 2, 1) := by decide +kernel
theorem dX4_flowAt_2 : decode cX4_flowAt 2 = .ok (.iconst 1, 1) := by decide +kernel
theorem dX4_flowAt_3 : decode cX4_flowAt 3 = .ok (.isub, 1) := by decide +kernel
theorem dX4_flowAt_4 : decode cX4_flowAt 4 = .ok (.invokevirtual 108, 3) := by decide +kernel
theorem dX4_flowAt_7 : decode cX4_flowAt 7 = .ok (.lstore_n 3, 1) := by decide +kernel
theorem dX4_flowAt_8 : decode cX4_flowAt 8 = .ok (.aload_n 0, 1) := by decide +kernel
theorem dX4_flowAt_9 : decode cX4_flowAt 9 = .ok (.iload_n 2, 1) := by decide +kernel
theorem dX4_flowAt_10 : decode cX4_flowAt 10 = .ok (.invokevirtual 108, 3) := by decide +kernel
theorem dX4_flowAt_13 : decode cX4_flowAt 13 = .ok (.lstore 5, 2) := by decide +kernel
theorem dX4_flowAt_15 : decode cX4_flowAt 15 = .ok (.aload_n 0, 1) := by decide +kernel
theorem dX4_flowAt_16 : decode cX4_flowAt 16 = .ok (.aload_n 1, 1) := by decide +kernel
theorem dX4_flowAt_17 : decode cX4_flowAt 17 = .ok (.iload_n 2, 1) := by decide +kernel
theorem dX4_flowAt_18 : decode cX4_flowAt 18 = .ok (.iconst 1, 1) := by decide +kernel
theorem dX4_flowAt_19 : decode cX4_flowAt 19 = .ok (.isub, 1) := by decide +kernel
theorem dX4_flowAt_20 : decode cX4_flowAt 20 = .ok (.invokevirtual 112, 3) := by decide +kernel
theorem dX4_flowAt_23 : decode cX4_flowAt 23 = .ok (.lload 5, 2) := by decide +kernel
theorem dX4_flowAt_25 : decode cX4_flowAt 25 = .ok (.lmul, 1) := by decide +kernel
theorem dX4_flowAt_26 : decode cX4_flowAt 26 = .ok (.aload_n 0, 1) := by decide +kernel
theorem dX4_flowAt_27 : decode cX4_flowAt 27 = .ok (.aload_n 1, 1) := by decide +kernel
theorem dX4_flowAt_28 : decode cX4_flowAt 28 = .ok (.iload_n 2, 1) := by decide +kernel
theorem dX4_flowAt_29 : decode cX4_flowAt 29 = .ok (.invokevirtual 112, 3) := by decide +kernel
theorem dX4_flowAt_32 : decode cX4_flowAt 32 = .ok (.lload_n 3, 1) := by decide +kernel
theorem dX4_flowAt_33 : decode cX4_flowAt 33 = .ok (.lmul, 1) := by decide +kernel
theorem dX4_flowAt_34 : decode cX4_flowAt 34 = .ok (.lsub, 1) := by decide +kernel
theorem dX4_flowAt_35 : decode cX4_flowAt 35 = .ok (.lstore 7, 2) := by decide +kernel
theorem dX4_flowAt_37 : decode cX4_flowAt 37 = .ok (.lload 7, 2) := by decide +kernel
theorem dX4_flowAt_39 : decode cX4_flowAt 39 = .ok (.aload_n 0, 1) := by decide +kernel
theorem dX4_flowAt_40 : decode cX4_flowAt 40 = .ok (.iload_n 2, 1) := by decide +kernel
theorem dX4_flowAt_41 : decode cX4_flowAt 41 = .ok (.invokevirtual 116, 3) := by decide +kernel
theorem dX4_flowAt_44 : decode cX4_flowAt 44 = .ok (.lmul, 1) := by decide +kernel
theorem dX4_flowAt_45 : decode cX4_flowAt 45 = .ok (.lload_n 3, 1) := by decide +kernel
theorem dX4_flowAt_46 : decode cX4_flowAt 46 = .ok (.lload 5, 2) := by decide +kernel
theorem dX4_flowAt_48 : decode cX4_flowAt 48 = .ok (.lmul, 1) := by decide +kernel
theorem dX4_flowAt_49 : decode cX4_flowAt 49 = .ok (.aload_n 0, 1) := by decide +kernel
theorem dX4_flowAt_50 : decode cX4_flowAt 50 = .ok (.iload_n 2, 1) := by decide +kernel
theorem dX4_flowAt_51 : decode cX4_flowAt 51 = .ok (.invokevirtual 119, 3) := by decide +kernel
theorem dX4_flowAt_54 : decode cX4_flowAt 54 = .ok (.lmul, 1) := by decide +kernel
theorem dX4_flowAt_55 : decode cX4_flowAt 55 = .ok (.aload_n 1, 1) := by decide +kernel
theorem dX4_flowAt_56 : decode cX4_flowAt 56 = .ok (.getfield 58, 3) := by decide +kernel
theorem dX4_flowAt_59 : decode cX4_flowAt 59 = .ok (.i2l, 1) := by decide +kernel
theorem dX4_flowAt_60 : decode cX4_flowAt 60 = .ok (.lmul, 1) := by decide +kernel
theorem dX4_flowAt_61 : decode cX4_flowAt 61 = .ok (.invokestatic 122, 3) := by decide +kernel
theorem dX4_flowAt_64 : decode cX4_flowAt 64 = .ok (.l2i, 1) := by decide +kernel
theorem dX4_flowAt_65 : decode cX4_flowAt 65 = .ok (.ireturn, 1) := by decide +kernel
theorem dX4_degreesAbove_0 : decode cX4_degreesAbove 0 = .ok (.iload_n 2, 1) := by decide +kernel
theorem dX4_degreesAbove_1 : decode cX4_degreesAbove 1 = .ok (.ifCond .ge 9, 3) := by decide +kernel
theorem dX4_degreesAbove_4 : decode cX4_degreesAbove 4 = .ok (.aload_n 1, 1) := by decide +kernel
theorem dX4_degreesAbove_5 : decode cX4_degreesAbove 5 = .ok (.getfield 52, 3) := by decide +kernel
theorem dX4_degreesAbove_8 : decode cX4_degreesAbove 8 = .ok (.i2l, 1) := by decide +kernel
theorem dX4_degreesAbove_9 : decode cX4_degreesAbove 9 = .ok (.lreturn, 1) := by decide +kernel
theorem dX4_degreesAbove_10 : decode cX4_degreesAbove 10 = .ok (.iload_n 2, 1) := by decide +kernel
theorem dX4_degreesAbove_11 : decode cX4_degreesAbove 11 = .ok (.aload_n 0, 1) := by decide +kernel
theorem dX4_degreesAbove_12 : decode cX4_degreesAbove 12 = .ok (.getfield 45, 3) := by decide +kernel
theorem dX4_degreesAbove_15 : decode cX4_degreesAbove 15 = .ok (.if_icmp .ge 15, 3) := by decide +kernel
theorem dX4_degreesAbove_18 : decode cX4_degreesAbove 18 = .ok (.aload_n 1, 1) := by decide +kernel
theorem dX4_degreesAbove_19 : decode cX4_degreesAbove 19 = .ok (.getfield 81, 3) := by decide +kernel
theorem dX4_degreesAbove_22 : decode cX4_degreesAbove 22 = .ok (.iload_n 2, 1) := by decide +kernel
theorem dX4_degreesAbove_23 : decode cX4_degreesAbove 23 = .ok (.invokestatic 61, 3) := by decide +kernel
theorem dX4_degreesAbove_26 : decode cX4_degreesAbove 26 = .ok (.i2l, 1) := by decide +kernel
theorem dX4_degreesAbove_27 : decode cX4_degreesAbove 27 = .ok (.goto 8, 3) := by decide +kernel
theorem dX4_degreesAbove_30 : decode cX4_degreesAbove 30 = .ok (.aload_n 1, 1) := by decide +kernel
theorem dX4_degreesAbove_31 : decode cX4_degreesAbove 31 = .ok (.getfield 55, 3) := by decide +kernel
theorem dX4_degreesAbove_34 : decode cX4_degreesAbove 34 = .ok (.i2l, 1) := by decide +kernel
theorem dX4_degreesAbove_35 : decode cX4_degreesAbove 35 = .ok (.lreturn, 1) := by decide +kernel
theorem dX4_degreesBelow_0 : decode cX4_degreesBelow 0 = .ok (.aload_n 0, 1) := by decide +kernel
theorem dX4_degreesBelow_1 : decode cX4_degreesBelow 1 = .ok (.iload_n 1, 1) := by decide +kernel
theorem dX4_degreesBelow_2 : decode cX4_degreesBelow 2 = .ok (.invokevirtual 126, 3) := by decide +kernel
theorem dX4_degreesBelow_5 : decode cX4_degreesBelow 5 = .ok (.ifCond .eq 12, 3) := by decide +kernel
theorem dX4_degreesBelow_8 : decode cX4_degreesBelow 8 = .ok (.aload_n 0, 1) := by decide +kernel
theorem dX4_degreesBelow_9 : decode cX4_degreesBelow 9 = .ok (.iload_n 1, 1) := by decide +kernel
theorem dX4_degreesBelow_10 : decode cX4_degreesBelow 10 = .ok (.invokevirtual 129, 3) := by decide +kernel
theorem dX4_degreesBelow_13 : decode cX4_degreesBelow 13 = .ok (.i2l, 1) := by decide +kernel
theorem dX4_degreesBelow_14 : decode cX4_degreesBelow 14 = .ok (.goto 4, 3) := by decide +kernel
theorem dX4_degreesBelow_17 : decode cX4_degreesBelow 17 = .ok (.lconst 1, 1) := by decide +kernel
theorem dX4_degreesBelow_18 : decode cX4_degreesBelow 18 = .ok (.lreturn, 1) := by decide +kernel
theorem dX4_betweenAbove_0 : decode cX4_betweenAbove 0 = .ok (.iload_n 1, 1) := by decide +kernel
theorem dX4_betweenAbove_1 : decode cX4_betweenAbove 1 = .ok (.ifCond .ne 14, 3) := by decide +kernel
theorem dX4_betweenAbove_4 : decode cX4_betweenAbove 4 = .ok (.ldc2_w 133, 3) := by decide +kernel
theorem dX4_betweenAbove_7 : decode cX4_betweenAbove 7 = .ok (.aload_n 0, 1) := by decide +kernel
theorem dX4_betweenAbove_8 : decode cX4_betweenAbove 8 = .ok (.iconst 0, 1) := by decide +kernel
theorem dX4_betweenAbove_9 : decode cX4_betweenAbove 9 = .ok (.invokevirtual 135, 3) := by decide +kernel
theorem dX4_betweenAbove_12 : decode cX4_betweenAbove 12 = .ok (.i2l, 1) := by decide +kernel
theorem dX4_betweenAbove_13 : decode cX4_betweenAbove 13 = .ok (.lmul, 1) := by decide +kernel
theorem dX4_betweenAbove_14 : decode cX4_betweenAbove 14 = .ok (.lreturn, 1) := by decide +kernel
theorem dX4_betweenAbove_15 : decode cX4_betweenAbove 15 = .ok (.iload_n 1, 1) := by decide +kernel
theorem dX4_betweenAbove_16 : decode cX4_betweenAbove 16 = .ok (.aload_n 0, 1) := by decide +kernel
theorem dX4_betweenAbove_17 : decode cX4_betweenAbove 17 = .ok (.getfield 45, 3) := by decide +kernel
theorem dX4_betweenAbove_20 : decode cX4_betweenAbove 20 = .ok (.if_icmp .ne 19, 3) := by decide +kernel
theorem dX4_betweenAbove_23 : decode cX4_betweenAbove 23 = .ok (.ldc2_w 133, 3) := by decide +kernel
theorem dX4_betweenAbove_26 : decode cX4_betweenAbove 26 = .ok (.aload_n 0, 1) := by decide +kernel
theorem dX4_betweenAbove_27 : decode cX4_betweenAbove 27 = .ok (.aload_n 0, 1) := by decide +kernel
theorem dX4_betweenAbove_28 : decode cX4_betweenAbove 28 = .ok (.getfield 45, 3) := by decide +kernel
theorem dX4_betweenAbove_31 : decode cX4_betweenAbove 31 = .ok (.iconst 1, 1) := by decide +kernel
theorem dX4_betweenAbove_32 : decode cX4_betweenAbove 32 = .ok (.isub, 1) := by decide +kernel
theorem dX4_betweenAbove_33 : decode cX4_betweenAbove 33 = .ok (.invokevirtual 135, 3) := by decide +kernel
theorem dX4_betweenAbove_36 : decode cX4_betweenAbove 36 = .ok (.i2l, 1) := by decide +kernel
theorem dX4_betweenAbove_37 : decode cX4_betweenAbove 37 = .ok (.lmul, 1) := by decide +kernel
theorem dX4_betweenAbove_38 : decode cX4_betweenAbove 38 = .ok (.lreturn, 1) := by decide +kernel
theorem dX4_betweenAbove_39 : decode cX4_betweenAbove 39 = .ok (.ldc2_w 133, 3) := by decide +kernel
theorem dX4_betweenAbove_42 : decode cX4_betweenAbove 42 = .ok (.aload_n 0, 1) := by decide +kernel
theorem dX4_betweenAbove_43 : decode cX4_betweenAbove 43 = .ok (.iload_n 1, 1) := by decide +kernel
theorem dX4_betweenAbove_44 : decode cX4_betweenAbove 44 = .ok (.iconst 1, 1) := by decide +kernel
theorem dX4_betweenAbove_45 : decode cX4_betweenAbove 45 = .ok (.isub, 1) := by decide +kernel
theorem dX4_betweenAbove_46 : decode cX4_betweenAbove 46 = .ok (.invokevirtual 135, 3) := by decide +kernel
theorem dX4_betweenAbove_49 : decode cX4_betweenAbove 49 = .ok (.i2l, 1) := by decide +kernel
theorem dX4_betweenAbove_50 : decode cX4_betweenAbove 50 = .ok (.lmul, 1) := by decide +kernel
theorem dX4_betweenAbove_51 : decode cX4_betweenAbove 51 = .ok (.aload_n 0, 1) := by decide +kernel
theorem dX4_betweenAbove_52 : decode cX4_betweenAbove 52 = .ok (.iload_n 1, 1) := by decide +kernel
theorem dX4_betweenAbove_53 : decode cX4_betweenAbove 53 = .ok (.invokevirtual 135, 3) := by decide +kernel
theorem dX4_betweenAbove_56 : decode cX4_betweenAbove 56 = .ok (.i2l, 1) := by decide +kernel
theorem dX4_betweenAbove_57 : decode cX4_betweenAbove 57 = .ok (.lmul, 1) := by decide +kernel
theorem dX4_betweenAbove_58 : decode cX4_betweenAbove 58 = .ok (.lreturn, 1) := by decide +kernel
theorem dX4_betweenBelow_0 : decode cX4_betweenBelow 0 = .ok (.iload_n 1, 1) := by decide +kernel
theorem dX4_betweenBelow_1 : decode cX4_betweenBelow 1 = .ok (.ifCond .eq 11, 3) := by decide +kernel
theorem dX4_betweenBelow_4 : decode cX4_betweenBelow 4 = .ok (.iload_n 1, 1) := by decide +kernel
theorem dX4_betweenBelow_5 : decode cX4_betweenBelow 5 = .ok (.aload_n 0, 1) := by decide +kernel
theorem dX4_betweenBelow_6 : decode cX4_betweenBelow 6 = .ok (.getfield 45, 3) := by decide +kernel
theorem dX4_betweenBelow_9 : decode cX4_betweenBelow 9 = .ok (.if_icmp .ne 7, 3) := by decide +kernel
theorem dX4_betweenBelow_12 : decode cX4_betweenBelow 12 = .ok (.lconst 1, 1) := by decide +kernel
theorem dX4_betweenBelow_13 : decode cX4_betweenBelow 13 = .ok (.goto 17, 3) := by decide +kernel
theorem dX4_betweenBelow_16 : decode cX4_betweenBelow 16 = .ok (.aload_n 0, 1) := by decide +kernel
theorem dX4_betweenBelow_17 : decode cX4_betweenBelow 17 = .ok (.iload_n 1, 1) := by decide +kernel
theorem dX4_betweenBelow_18 : decode cX4_betweenBelow 18 = .ok (.iconst 1, 1) := by decide +kernel
theorem dX4_betweenBelow_19 : decode cX4_betweenBelow 19 = .ok (.isub, 1) := by decide +kernel
theorem dX4_betweenBelow_20 : decode cX4_betweenBelow 20 = .ok (.invokevirtual 135, 3) := by decide +kernel
theorem dX4_betweenBelow_23 : decode cX4_betweenBelow 23 = .ok (.aload_n 0, 1) := by decide +kernel
theorem dX4_betweenBelow_24 : decode cX4_betweenBelow 24 = .ok (.iload_n 1, 1) := by decide +kernel
theorem dX4_betweenBelow_25 : decode cX4_betweenBelow 25 = .ok (.invokevirtual 135, 3) := by decide +kernel
theorem dX4_betweenBelow_28 : decode cX4_betweenBelow 28 = .ok (.iadd, 1) := by decide +kernel
theorem dX4_betweenBelow_29 : decode cX4_betweenBelow 29 = .ok (.i2l, 1) := by decide +kernel
theorem dX4_betweenBelow_30 : decode cX4_betweenBelow 30 = .ok (.lreturn, 1) := by decide +kernel
theorem dX4_safe_0 : decode cX4_safe 0 = .ok (.lconst 1, 1) := by decide +kernel
theorem dX4_safe_1 : decode cX4_safe 1 = .ok (.lstore_n 1, 1) := by decide +kernel
theorem dX4_safe_2 : decode cX4_safe 2 = .ok (.iconst 0, 1) := by decide +kernel
theorem dX4_safe_3 : decode cX4_safe 3 = .ok (.istore_n 3, 1) := by decide +kernel
theorem dX4_safe_4 : decode cX4_safe 4 = .ok (.iload_n 3, 1) := by decide +kernel
theorem dX4_safe_5 : decode cX4_safe 5 = .ok (.aload_n 0, 1) := by decide +kernel
theorem dX4_safe_6 : decode cX4_safe 6 = .ok (.getfield 45, 3) := by decide +kernel
theorem dX4_safe_9 : decode cX4_safe 9 = .ok (.if_icmp .ge 77, 3) := by decide +kernel
theorem dX4_safe_12 : decode cX4_safe 12 = .ok (.aload_n 0, 1) := by decide +kernel
theorem dX4_safe_13 : decode cX4_safe 13 = .ok (.iload_n 3, 1) := by decide +kernel
theorem dX4_safe_14 : decode cX4_safe 14 = .ok (.invokevirtual 116, 3) := by decide +kernel
theorem dX4_safe_17 : decode cX4_safe 17 = .ok (.aload_n 0, 1) := by decide +kernel
theorem dX4_safe_18 : decode cX4_safe 18 = .ok (.iload_n 3, 1) := by decide +kernel
theorem dX4_safe_19 : decode cX4_safe 19 = .ok (.iconst 1, 1) := by decide +kernel
theorem dX4_safe_20 : decode cX4_safe 20 = .ok (.iadd, 1) := by decide +kernel
theorem dX4_safe_21 : decode cX4_safe 21 = .ok (.invokevirtual 119, 3) := by decide +kernel
theorem dX4_safe_24 : decode cX4_safe 24 = .ok (.lmul, 1) := by decide +kernel
theorem dX4_safe_25 : decode cX4_safe 25 = .ok (.aload_n 0, 1) := by decide +kernel
theorem dX4_safe_26 : decode cX4_safe 26 = .ok (.iload_n 3, 1) := by decide +kernel
theorem dX4_safe_27 : decode cX4_safe 27 = .ok (.iconst 1, 1) := by decide +kernel
theorem dX4_safe_28 : decode cX4_safe 28 = .ok (.iadd, 1) := by decide +kernel
theorem dX4_safe_29 : decode cX4_safe 29 = .ok (.invokevirtual 116, 3) := by decide +kernel
theorem dX4_safe_32 : decode cX4_safe 32 = .ok (.aload_n 0, 1) := by decide +kernel
theorem dX4_safe_33 : decode cX4_safe 33 = .ok (.iload_n 3, 1) := by decide +kernel
theorem dX4_safe_34 : decode cX4_safe 34 = .ok (.invokevirtual 119, 3) := by decide +kernel
theorem dX4_safe_37 : decode cX4_safe 37 = .ok (.lmul, 1) := by decide +kernel
theorem dX4_safe_38 : decode cX4_safe 38 = .ok (.ladd, 1) := by decide +kernel
theorem dX4_safe_39 : decode cX4_safe 39 = .ok (.lstore 4, 2) := by decide +kernel
theorem dX4_safe_41 : decode cX4_safe 41 = .ok (.aload_n 0, 1) := by decide +kernel
theorem dX4_safe_42 : decode cX4_safe 42 = .ok (.iload_n 3, 1) := by decide +kernel
theorem dX4_safe_43 : decode cX4_safe 43 = .ok (.invokevirtual 119, 3) := by decide +kernel
theorem dX4_safe_46 : decode cX4_safe 46 = .ok (.aload_n 0, 1) := by decide +kernel
theorem dX4_safe_47 : decode cX4_safe 47 = .ok (.iload_n 3, 1) := by decide +kernel
theorem dX4_safe_48 : decode cX4_safe 48 = .ok (.iconst 1, 1) := by decide +kernel
theorem dX4_safe_49 : decode cX4_safe 49 = .ok (.iadd, 1) := by decide +kernel
theorem dX4_safe_50 : decode cX4_safe 50 = .ok (.invokevirtual 119, 3) := by decide +kernel
theorem dX4_safe_53 : decode cX4_safe 53 = .ok (.lmul, 1) := by decide +kernel
theorem dX4_safe_54 : decode cX4_safe 54 = .ok (.aload_n 0, 1) := by decide +kernel
theorem dX4_safe_55 : decode cX4_safe 55 = .ok (.iload_n 3, 1) := by decide +kernel
theorem dX4_safe_56 : decode cX4_safe 56 = .ok (.invokevirtual 129, 3) := by decide +kernel
theorem dX4_safe_59 : decode cX4_safe 59 = .ok (.i2l, 1) := by decide +kernel
theorem dX4_safe_60 : decode cX4_safe 60 = .ok (.lmul, 1) := by decide +kernel
theorem dX4_safe_61 : decode cX4_safe 61 = .ok (.lstore 6, 2) := by decide +kernel
theorem dX4_safe_63 : decode cX4_safe 63 = .ok (.lload_n 1, 1) := by decide +kernel
theorem dX4_safe_64 : decode cX4_safe 64 = .ok (.lload 4, 2) := by decide +kernel
theorem dX4_safe_66 : decode cX4_safe 66 = .ok (.lload 6, 2) := by decide +kernel
theorem dX4_safe_68 : decode cX4_safe 68 = .ok (.ladd, 1) := by decide +kernel
theorem dX4_safe_69 : decode cX4_safe 69 = .ok (.lconst 1, 1) := by decide +kernel
theorem dX4_safe_70 : decode cX4_safe 70 = .ok (.lsub, 1) := by decide +kernel
theorem dX4_safe_71 : decode cX4_safe 71 = .ok (.lload 6, 2) := by decide +kernel
theorem dX4_safe_73 : decode cX4_safe 73 = .ok (.invokestatic 122, 3) := by decide +kernel
theorem dX4_safe_76 : decode cX4_safe 76 = .ok (.invokestatic 138, 3) := by decide +kernel
theorem dX4_safe_79 : decode cX4_safe 79 = .ok (.lstore_n 1, 1) := by decide +kernel
theorem dX4_safe_80 : decode cX4_safe 80 = .ok (.iinc 3 1, 3) := by decide +kernel
theorem dX4_safe_83 : decode cX4_safe 83 = .ok (.goto (-79), 3) := by decide +kernel
theorem dX4_safe_86 : decode cX4_safe 86 = .ok (.lload_n 1, 1) := by decide +kernel
theorem dX4_safe_87 : decode cX4_safe 87 = .ok (.l2i, 1) := by decide +kernel
theorem dX4_safe_88 : decode cX4_safe 88 = .ok (.ireturn, 1) := by decide +kernel
theorem dX4_resistsInAll_0 : decode cX4_resistsInAll 0 = .ok (.lconst 0, 1) := by decide +kernel
theorem dX4_resistsInAll_1 : decode cX4_resistsInAll 1 = .ok (.lstore_n 1, 1) := by decide +kernel
theorem dX4_resistsInAll_2 : decode cX4_resistsInAll 2 = .ok (.iconst 0, 1) := by decide +kernel
theorem dX4_resistsInAll_3 : decode cX4_resistsInAll 3 = .ok (.istore_n 3, 1) := by decide +kernel
theorem dX4_resistsInAll_4 : decode cX4_resistsInAll 4 = .ok (.iload_n 3, 1) := by decide +kernel
theorem dX4_resistsInAll_5 : decode cX4_resistsInAll 5 = .ok (.aload_n 0, 1) := by decide +kernel
theorem dX4_resistsInAll_6 : decode cX4_resistsInAll 6 = .ok (.getfield 45, 3) := by decide +kernel
theorem dX4_resistsInAll_9 : decode cX4_resistsInAll 9 = .ok (.if_icmp .ge 24, 3) := by decide +kernel
theorem dX4_resistsInAll_12 : decode cX4_resistsInAll 12 = .ok (.lload_n 1, 1) := by decide +kernel
theorem dX4_resistsInAll_13 : decode cX4_resistsInAll 13 = .ok (.ldc2_w 133, 3) := by decide +kernel
theorem dX4_resistsInAll_16 : decode cX4_resistsInAll 16 = .ok (.aload_n 0, 1) := by decide +kernel
theorem dX4_resistsInAll_17 : decode cX4_resistsInAll 17 = .ok (.iload_n 3, 1) := by decide +kernel
theorem dX4_resistsInAll_18 : decode cX4_resistsInAll 18 = .ok (.invokevirtual 135, 3) := by decide +kernel
theorem dX4_resistsInAll_21 : decode cX4_resistsInAll 21 = .ok (.invokestatic 143, 3) := by decide +kernel
theorem dX4_resistsInAll_24 : decode cX4_resistsInAll 24 = .ok (.lmul, 1) := by decide +kernel
theorem dX4_resistsInAll_25 : decode cX4_resistsInAll 25 = .ok (.ladd, 1) := by decide +kernel
theorem dX4_resistsInAll_26 : decode cX4_resistsInAll 26 = .ok (.lstore_n 1, 1) := by decide +kernel
theorem dX4_resistsInAll_27 : decode cX4_resistsInAll 27 = .ok (.iinc 3 1, 3) := by decide +kernel
theorem dX4_resistsInAll_30 : decode cX4_resistsInAll 30 = .ok (.goto (-26), 3) := by decide +kernel
theorem dX4_resistsInAll_33 : decode cX4_resistsInAll 33 = .ok (.lload_n 1, 1) := by decide +kernel
theorem dX4_resistsInAll_34 : decode cX4_resistsInAll 34 = .ok (.lreturn, 1) := by decide +kernel
theorem dX4_resistsRightOf_0 : decode cX4_resistsRightOf 0 = .ok (.aload_n 0, 1) := by decide +kernel
theorem dX4_resistsRightOf_1 : decode cX4_resistsRightOf 1 = .ok (.iload_n 1, 1) := by decide +kernel
theorem dX4_resistsRightOf_2 : decode cX4_resistsRightOf 2 = .ok (.invokevirtual 135, 3) := by decide +kernel
theorem dX4_resistsRightOf_5 : decode cX4_resistsRightOf 5 = .ok (.invokestatic 143, 3) := by decide +kernel
theorem dX4_resistsRightOf_8 : decode cX4_resistsRightOf 8 = .ok (.lstore_n 2, 1) := by decide +kernel
theorem dX4_resistsRightOf_9 : decode cX4_resistsRightOf 9 = .ok (.iload_n 1, 1) := by decide +kernel
theorem dX4_resistsRightOf_10 : decode cX4_resistsRightOf 10 = .ok (.iconst 1, 1) := by decide +kernel
theorem dX4_resistsRightOf_11 : decode cX4_resistsRightOf 11 = .ok (.iadd, 1) := by decide +kernel
theorem dX4_resistsRightOf_12 : decode cX4_resistsRightOf 12 = .ok (.istore 4, 2) := by decide +kernel
theorem dX4_resistsRightOf_14 : decode cX4_resistsRightOf 14 = .ok (.iload 4, 2) := by decide +kernel
theorem dX4_resistsRightOf_16 : decode cX4_resistsRightOf 16 = .ok (.aload_n 0, 1) := by decide +kernel
theorem dX4_resistsRightOf_17 : decode cX4_resistsRightOf 17 = .ok (.getfield 45, 3) := by decide +kernel
theorem dX4_resistsRightOf_20 : decode cX4_resistsRightOf 20 = .ok (.if_icmp .ge 25, 3) := by decide +kernel
theorem dX4_resistsRightOf_23 : decode cX4_resistsRightOf 23 = .ok (.lload_n 2, 1) := by decide +kernel
theorem dX4_resistsRightOf_24 : decode cX4_resistsRightOf 24 = .ok (.ldc2_w 133, 3) := by decide +kernel
theorem dX4_resistsRightOf_27 : decode cX4_resistsRightOf 27 = .ok (.aload_n 0, 1) := by decide +kernel
theorem dX4_resistsRightOf_28 : decode cX4_resistsRightOf 28 = .ok (.iload 4, 2) := by decide +kernel
theorem dX4_resistsRightOf_30 : decode cX4_resistsRightOf 30 = .ok (.invokevirtual 135, 3) := by decide +kernel
theorem dX4_resistsRightOf_33 : decode cX4_resistsRightOf 33 = .ok (.invokestatic 143, 3) := by decide +kernel
theorem dX4_resistsRightOf_36 : decode cX4_resistsRightOf 36 = .ok (.lmul, 1) := by decide +kernel
theorem dX4_resistsRightOf_37 : decode cX4_resistsRightOf 37 = .ok (.ladd, 1) := by decide +kernel
theorem dX4_resistsRightOf_38 : decode cX4_resistsRightOf 38 = .ok (.lstore_n 2, 1) := by decide +kernel
theorem dX4_resistsRightOf_39 : decode cX4_resistsRightOf 39 = .ok (.iinc 4 1, 3) := by decide +kernel
theorem dX4_resistsRightOf_42 : decode cX4_resistsRightOf 42 = .ok (.goto (-28), 3) := by decide +kernel
theorem dX4_resistsRightOf_45 : decode cX4_resistsRightOf 45 = .ok (.lload_n 2, 1) := by decide +kernel
theorem dX4_resistsRightOf_46 : decode cX4_resistsRightOf 46 = .ok (.lreturn, 1) := by decide +kernel
theorem dX4_mostOf_0 : decode cX4_mostOf 0 = .ok (.iconst (-1), 1) := by decide +kernel
theorem dX4_mostOf_1 : decode cX4_mostOf 1 = .ok (.istore_n 2, 1) := by decide +kernel
theorem dX4_mostOf_2 : decode cX4_mostOf 2 = .ok (.iconst 0, 1) := by decide +kernel
theorem dX4_mostOf_3 : decode cX4_mostOf 3 = .ok (.istore_n 3, 1) := by decide +kernel
theorem dX4_mostOf_4 : decode cX4_mostOf 4 = .ok (.iload_n 3, 1) := by decide +kernel
theorem dX4_mostOf_5 : decode cX4_mostOf 5 = .ok (.aload_n 0, 1) := by decide +kernel
theorem dX4_mostOf_6 : decode cX4_mostOf 6 = .ok (.getfield 45, 3) := by decide +kernel
theorem dX4_mostOf_9 : decode cX4_mostOf 9 = .ok (.if_icmp .ge 27, 3) := by decide +kernel
theorem dX4_mostOf_12 : decode cX4_mostOf 12 = .ok (.iload_n 2, 1) := by decide +kernel
theorem dX4_mostOf_13 : decode cX4_mostOf 13 = .ok (.iconst (-1), 1) := by decide +kernel
theorem dX4_mostOf_14 : decode cX4_mostOf 14 = .ok (.if_icmp .eq 14, 3) := by decide +kernel
theorem dX4_mostOf_17 : decode cX4_mostOf 17 = .ok (.iload_n 1, 1) := by decide +kernel
theorem dX4_mostOf_18 : decode cX4_mostOf 18 = .ok (.aload_n 0, 1) := by decide +kernel
theorem dX4_mostOf_19 : decode cX4_mostOf 19 = .ok (.iload_n 3, 1) := by decide +kernel
theorem dX4_mostOf_20 : decode cX4_mostOf 20 = .ok (.iload_n 2, 1) := by decide +kernel
theorem dX4_mostOf_21 : decode cX4_mostOf 21 = .ok (.invokevirtual 146, 3) := by decide +kernel
theorem dX4_mostOf_24 : decode cX4_mostOf 24 = .ok (.imul, 1) := by decide +kernel
theorem dX4_mostOf_25 : decode cX4_mostOf 25 = .ok (.ifCond .le 5, 3) := by decide +kernel
theorem dX4_mostOf_28 : decode cX4_mostOf 28 = .ok (.iload_n 3, 1) := by decide +kernel
theorem dX4_mostOf_29 : decode cX4_mostOf 29 = .ok (.istore_n 2, 1) := by decide +kernel
theorem dX4_mostOf_30 : decode cX4_mostOf 30 = .ok (.iinc 3 1, 3) := by decide +kernel
theorem dX4_mostOf_33 : decode cX4_mostOf 33 = .ok (.goto (-29), 3) := by decide +kernel
theorem dX4_mostOf_36 : decode cX4_mostOf 36 = .ok (.iload_n 2, 1) := by decide +kernel
theorem dX4_mostOf_37 : decode cX4_mostOf 37 = .ok (.ireturn, 1) := by decide +kernel
theorem dX4_compareDegrees_0 : decode cX4_compareDegrees 0 = .ok (.aload_n 0, 1) := by decide +kernel
theorem dX4_compareDegrees_1 : decode cX4_compareDegrees 1 = .ok (.getfield 30, 3) := by decide +kernel
theorem dX4_compareDegrees_4 : decode cX4_compareDegrees 4 = .ok (.getfield 81, 3) := by decide +kernel
theorem dX4_compareDegrees_7 : decode cX4_compareDegrees 7 = .ok (.iload_n 1, 1) := by decide +kernel
theorem dX4_compareDegrees_8 : decode cX4_compareDegrees 8 = .ok (.invokestatic 61, 3) := by decide +kernel
theorem dX4_compareDegrees_11 : decode cX4_compareDegrees 11 = .ok (.aload_n 0, 1) := by decide +kernel
theorem dX4_compareDegrees_12 : decode cX4_compareDegrees 12 = .ok (.iload_n 2, 1) := by decide +kernel
theorem dX4_compareDegrees_13 : decode cX4_compareDegrees 13 = .ok (.invokevirtual 129, 3) := by decide +kernel
theorem dX4_compareDegrees_16 : decode cX4_compareDegrees 16 = .ok (.imul, 1) := by decide +kernel
theorem dX4_compareDegrees_17 : decode cX4_compareDegrees 17 = .ok (.aload_n 0, 1) := by decide +kernel
theorem dX4_compareDegrees_18 : decode cX4_compareDegrees 18 = .ok (.getfield 30, 3) := by decide +kernel
theorem dX4_compareDegrees_21 : decode cX4_compareDegrees 21 = .ok (.getfield 81, 3) := by decide +kernel
theorem dX4_compareDegrees_24 : decode cX4_compareDegrees 24 = .ok (.iload_n 2, 1) := by decide +kernel
theorem dX4_compareDegrees_25 : decode cX4_compareDegrees 25 = .ok (.invokestatic 61, 3) := by decide +kernel
theorem dX4_compareDegrees_28 : decode cX4_compareDegrees 28 = .ok (.aload_n 0, 1) := by decide +kernel
theorem dX4_compareDegrees_29 : decode cX4_compareDegrees 29 = .ok (.iload_n 1, 1) := by decide +kernel
theorem dX4_compareDegrees_30 : decode cX4_compareDegrees 30 = .ok (.invokevirtual 129, 3) := by decide +kernel
theorem dX4_compareDegrees_33 : decode cX4_compareDegrees 33 = .ok (.imul, 1) := by decide +kernel
theorem dX4_compareDegrees_34 : decode cX4_compareDegrees 34 = .ok (.invokestatic 150, 3) := by decide +kernel
theorem dX4_compareDegrees_37 : decode cX4_compareDegrees 37 = .ok (.ireturn, 1) := by decide +kernel
theorem dX4_alikePairs_0 : decode cX4_alikePairs 0 = .ok (.iconst 0, 1) := by decide +kernel
theorem dX4_alikePairs_1 : decode cX4_alikePairs 1 = .ok (.istore_n 1, 1) := by decide +kernel
theorem dX4_alikePairs_2 : decode cX4_alikePairs 2 = .ok (.iconst 0, 1) := by decide +kernel
theorem dX4_alikePairs_3 : decode cX4_alikePairs 3 = .ok (.istore_n 2, 1) := by decide +kernel
theorem dX4_alikePairs_4 : decode cX4_alikePairs 4 = .ok (.iload_n 2, 1) := by decide +kernel
theorem dX4_alikePairs_5 : decode cX4_alikePairs 5 = .ok (.aload_n 0, 1) := by decide +kernel
theorem dX4_alikePairs_6 : decode cX4_alikePairs 6 = .ok (.getfield 45, 3) := by decide +kernel
theorem dX4_alikePairs_9 : decode cX4_alikePairs 9 = .ok (.if_icmp .ge 39, 3) := by decide +kernel
theorem dX4_alikePairs_12 : decode cX4_alikePairs 12 = .ok (.iload_n 2, 1) := by decide +kernel
theorem dX4_alikePairs_13 : decode cX4_alikePairs 13 = .ok (.iconst 1, 1) := by decide +kernel
theorem dX4_alikePairs_14 : decode cX4_alikePairs 14 = .ok (.iadd, 1) := by decide +kernel
theorem dX4_alikePairs_15 : decode cX4_alikePairs 15 = .ok (.istore_n 3, 1) := by decide +kernel
theorem dX4_alikePairs_16 : decode cX4_alikePairs 16 = .ok (.iload_n 3, 1) := by decide +kernel
theorem dX4_alikePairs_17 : decode cX4_alikePairs 17 = .ok (.aload_n 0, 1) := by decide +kernel
theorem dX4_alikePairs_18 : decode cX4_alikePairs 18 = .ok (.getfield 45, 3) := by decide +kernel
theorem dX4_alikePairs_21 : decode cX4_alikePairs 21 = .ok (.if_icmp .ge 21, 3) := by decide +kernel
theorem dX4_alikePairs_24 : decode cX4_alikePairs 24 = .ok (.aload_n 0, 1) := by decide +kernel
theorem dX4_alikePairs_25 : decode cX4_alikePairs 25 = .ok (.iload_n 2, 1) := by decide +kernel
theorem dX4_alikePairs_26 : decode cX4_alikePairs 26 = .ok (.iload_n 3, 1) := by decide +kernel
theorem dX4_alikePairs_27 : decode cX4_alikePairs 27 = .ok (.invokevirtual 155, 3) := by decide +kernel
theorem dX4_alikePairs_30 : decode cX4_alikePairs 30 = .ok (.ifCond .eq 6, 3) := by decide +kernel
theorem dX4_alikePairs_33 : decode cX4_alikePairs 33 = .ok (.iinc 1 1, 3) := by decide +kernel
theorem dX4_alikePairs_36 : decode cX4_alikePairs 36 = .ok (.iinc 3 1, 3) := by decide +kernel
theorem dX4_alikePairs_39 : decode cX4_alikePairs 39 = .ok (.goto (-23), 3) := by decide +kernel
theorem dX4_alikePairs_42 : decode cX4_alikePairs 42 = .ok (.iinc 2 1, 3) := by decide +kernel
theorem dX4_alikePairs_45 : decode cX4_alikePairs 45 = .ok (.goto (-41), 3) := by decide +kernel
theorem dX4_alikePairs_48 : decode cX4_alikePairs 48 = .ok (.iload_n 1, 1) := by decide +kernel
theorem dX4_alikePairs_49 : decode cX4_alikePairs 49 = .ok (.ireturn, 1) := by decide +kernel
theorem dX4_isAlike_0 : decode cX4_isAlike 0 = .ok (.aload_n 0, 1) := by decide +kernel
theorem dX4_isAlike_1 : decode cX4_isAlike 1 = .ok (.getfield 24, 3) := by decide +kernel
theorem dX4_isAlike_4 : decode cX4_isAlike 4 = .ok (.iload_n 1, 1) := by decide +kernel
theorem dX4_isAlike_5 : decode cX4_isAlike 5 = .ok (.invokestatic 61, 3) := by decide +kernel
theorem dX4_isAlike_8 : decode cX4_isAlike 8 = .ok (.aload_n 0, 1) := by decide +kernel
theorem dX4_isAlike_9 : decode cX4_isAlike 9 = .ok (.getfield 24, 3) := by decide +kernel
theorem dX4_isAlike_12 : decode cX4_isAlike 12 = .ok (.iload_n 2, 1) := by decide +kernel
theorem dX4_isAlike_13 : decode cX4_isAlike 13 = .ok (.invokestatic 61, 3) := by decide +kernel
theorem dX4_isAlike_16 : decode cX4_isAlike 16 = .ok (.if_icmp .ne 32, 3) := by decide +kernel
theorem dX4_isAlike_19 : decode cX4_isAlike 19 = .ok (.aload_n 0, 1) := by decide +kernel
theorem dX4_isAlike_20 : decode cX4_isAlike 20 = .ok (.getfield 30, 3) := by decide +kernel
theorem dX4_isAlike_23 : decode cX4_isAlike 23 = .ok (.getfield 81, 3) := by decide +kernel
theorem dX4_isAlike_26 : decode cX4_isAlike 26 = .ok (.iload_n 1, 1) := by decide +kernel
theorem dX4_isAlike_27 : decode cX4_isAlike 27 = .ok (.invokestatic 61, 3) := by decide +kernel
theorem dX4_isAlike_30 : decode cX4_isAlike 30 = .ok (.aload_n 0, 1) := by decide +kernel
theorem dX4_isAlike_31 : decode cX4_isAlike 31 = .ok (.getfield 30, 3) := by decide +kernel
theorem dX4_isAlike_34 : decode cX4_isAlike 34 = .ok (.getfield 81, 3) := by decide +kernel
theorem dX4_isAlike_37 : decode cX4_isAlike 37 = .ok (.iload_n 2, 1) := by decide +kernel
theorem dX4_isAlike_38 : decode cX4_isAlike 38 = .ok (.invokestatic 61, 3) := by decide +kernel
theorem dX4_isAlike_41 : decode cX4_isAlike 41 = .ok (.if_icmp .ne 7, 3) := by decide +kernel
theorem dX4_isAlike_44 : decode cX4_isAlike 44 = .ok (.iconst 1, 1) := by decide +kernel
theorem dX4_isAlike_45 : decode cX4_isAlike 45 = .ok (.goto 4, 3) := by decide +kernel
theorem dX4_isAlike_48 : decode cX4_isAlike 48 = .ok (.iconst 0, 1) := by decide +kernel
theorem dX4_isAlike_49 : decode cX4_isAlike 49 = .ok (.ireturn, 1) := by decide +kernel
theorem dX5_init_0 : decode cX5_init 0 = .ok (.aload_n 0, 1) := by decide +kernel
theorem dX5_init_1 : decode cX5_init 1 = .ok (.invokespecial 3, 3) := by decide +kernel
theorem dX5_init_4 : decode cX5_init 4 = .ok (.aload_n 0, 1) := by decide +kernel
theorem dX5_init_5 : decode cX5_init 5 = .ok (.bipush 10, 2) := by decide +kernel
theorem dX5_init_7 : decode cX5_init 7 = .ok (.newarray .int, 2) := by decide +kernel
theorem dX5_init_9 : decode cX5_init 9 = .ok (.putfield 9, 3) := by decide +kernel
theorem dX5_init_12 : decode cX5_init 12 = .ok (.aload_n 0, 1) := by decide +kernel
theorem dX5_init_13 : decode cX5_init 13 = .ok (.bipush 40, 2) := by decide +kernel
theorem dX5_init_15 : decode cX5_init 15 = .ok (.putfield 15, 3) := by decide +kernel
theorem dX5_init_18 : decode cX5_init 18 = .ok (.return_, 1) := by decide +kernel
theorem dX5_become_0 : decode cX5_become 0 = .ok (.aload_n 1, 1) := by decide +kernel
theorem dX5_become_1 : decode cX5_become 1 = .ok (.getfield 9, 3) := by decide +kernel
theorem dX5_become_4 : decode cX5_become 4 = .ok (.aload_n 0, 1) := by decide +kernel
theorem dX5_become_5 : decode cX5_become 5 = .ok (.getfield 9, 3) := by decide +kernel
theorem dX5_become_8 : decode cX5_become 8 = .ok (.invokestatic 19, 3) := by decide +kernel
theorem dX5_become_11 : decode cX5_become 11 = .ok (.aload_n 0, 1) := by decide +kernel
theorem dX5_become_12 : decode cX5_become 12 = .ok (.aload_n 1, 1) := by decide +kernel
theorem dX5_become_13 : decode cX5_become 13 = .ok (.getfield 23, 3) := by decide +kernel
theorem dX5_become_16 : decode cX5_become 16 = .ok (.putfield 23, 3) := by decide +kernel
theorem dX5_become_19 : decode cX5_become 19 = .ok (.aload_n 0, 1) := by decide +kernel
theorem dX5_become_20 : decode cX5_become 20 = .ok (.aload_n 1, 1) := by decide +kernel
theorem dX5_become_21 : decode cX5_become 21 = .ok (.getfield 26, 3) := by decide +kernel
theorem dX5_become_24 : decode cX5_become 24 = .ok (.putfield 26, 3) := by decide +kernel
theorem dX5_become_27 : decode cX5_become 27 = .ok (.aload_n 0, 1) := by decide +kernel
theorem dX5_become_28 : decode cX5_become 28 = .ok (.aload_n 1, 1) := by decide +kernel
theorem dX5_become_29 : decode cX5_become 29 = .ok (.getfield 15, 3) := by decide +kernel
theorem dX5_become_32 : decode cX5_become 32 = .ok (.putfield 15, 3) := by decide +kernel
theorem dX5_become_35 : decode cX5_become 35 = .ok (.aload_n 0, 1) := by decide +kernel
theorem dX5_become_36 : decode cX5_become 36 = .ok (.aload_n 1, 1) := by decide +kernel
theorem dX5_become_37 : decode cX5_become 37 = .ok (.getfield 29, 3) := by decide +kernel
theorem dX5_become_40 : decode cX5_become 40 = .ok (.putfield 29, 3) := by decide +kernel
theorem dX5_become_43 : decode cX5_become 43 = .ok (.aload_n 0, 1) := by decide +kernel
theorem dX5_become_44 : decode cX5_become 44 = .ok (.aload_n 1, 1) := by decide +kernel
theorem dX5_become_45 : decode cX5_become 45 = .ok (.getfield 32, 3) := by decide +kernel
theorem dX5_become_48 : decode cX5_become 48 = .ok (.putfield 32, 3) := by decide +kernel
theorem dX5_become_51 : decode cX5_become 51 = .ok (.aload_n 0, 1) := by decide +kernel
theorem dX5_become_52 : decode cX5_become 52 = .ok (.aload_n 1, 1) := by decide +kernel
theorem dX5_become_53 : decode cX5_become 53 = .ok (.getfield 35, 3) := by decide +kernel
theorem dX5_become_56 : decode cX5_become 56 = .ok (.putfield 35, 3) := by decide +kernel
theorem dX5_become_59 : decode cX5_become 59 = .ok (.return_, 1) := by decide +kernel
theorem dX5_forget_0 : decode cX5_forget 0 = .ok (.aload_n 0, 1) := by decide +kernel
theorem dX5_forget_1 : decode cX5_forget 1 = .ok (.iconst 0, 1) := by decide +kernel
theorem dX5_forget_2 : decode cX5_forget 2 = .ok (.putfield 29, 3) := by decide +kernel
theorem dX5_forget_5 : decode cX5_forget 5 = .ok (.aload_n 0, 1) := by decide +kernel
theorem dX5_forget_6 : decode cX5_forget 6 = .ok (.iconst 0, 1) := by decide +kernel
theorem dX5_forget_7 : decode cX5_forget 7 = .ok (.putfield 32, 3) := by decide +kernel
theorem dX5_forget_10 : decode cX5_forget 10 = .ok (.aload_n 0, 1) := by decide +kernel
theorem dX5_forget_11 : decode cX5_forget 11 = .ok (.iconst 0, 1) := by decide +kernel
theorem dX5_forget_12 : decode cX5_forget 12 = .ok (.putfield 35, 3) := by decide +kernel
theorem dX5_forget_15 : decode cX5_forget 15 = .ok (.return_, 1) := by decide +kernel
theorem dX5_allHeat_0 : decode cX5_allHeat 0 = .ok (.aload_n 0, 1) := by decide +kernel
theorem dX5_allHeat_1 : decode cX5_allHeat 1 = .ok (.getfield 9, 3) := by decide +kernel
theorem dX5_allHeat_4 : decode cX5_allHeat 4 = .ok (.iload_n 1, 1) := by decide +kernel
theorem dX5_allHeat_5 : decode cX5_allHeat 5 = .ok (.invokestatic 38, 3) := by decide +kernel
theorem dX5_allHeat_8 : decode cX5_allHeat 8 = .ok (.ireturn, 1) := by decide +kernel
theorem dX6_init_0 : decode cX6_init 0 = .ok (.aload_n 0, 1) := by decide +kernel
theorem dX6_init_1 : decode cX6_init 1 = .ok (.invokespecial 1, 3) := by decide +kernel
theorem dX6_init_4 : decode cX6_init 4 = .ok (.aload_n 0, 1) := by decide +kernel
theorem dX6_init_5 : decode cX6_init 5 = .ok (.new 7, 3) := by decide +kernel
theorem dX6_init_8 : decode cX6_init 8 = .ok (.dup, 1) := by decide +kernel
theorem dX6_init_9 : decode cX6_init 9 = .ok (.invokespecial 9, 3) := by decide +kernel
theorem dX6_init_12 : decode cX6_init 12 = .ok (.putfield 10, 3) := by decide +kernel
theorem dX6_init_15 : decode cX6_init 15 = .ok (.aload_n 0, 1) := by decide +kernel
theorem dX6_init_16 : decode cX6_init 16 = .ok (.new 16, 3) := by decide +kernel
theorem dX6_init_19 : decode cX6_init 19 = .ok (.dup, 1) := by decide +kernel
theorem dX6_init_20 : decode cX6_init 20 = .ok (.invokespecial 18, 3) := by decide +kernel
theorem dX6_init_23 : decode cX6_init 23 = .ok (.putfield 19, 3) := by decide +kernel
theorem dX6_init_26 : decode cX6_init 26 = .ok (.aload_n 0, 1) := by decide +kernel
theorem dX6_init_27 : decode cX6_init 27 = .ok (.new 23, 3) := by decide +kernel
theorem dX6_init_30 : decode cX6_init 30 = .ok (.dup, 1) := by decide +kernel
theorem dX6_init_31 : decode cX6_init 31 = .ok (.invokespecial 25, 3) := by decide +kernel
theorem dX6_init_34 : decode cX6_init 34 = .ok (.putfield 26, 3) := by decide +kernel
theorem dX6_init_37 : decode cX6_init 37 = .ok (.aload_n 0, 1) := by decide +kernel
theorem dX6_init_38 : decode cX6_init 38 = .ok (.new 30, 3) := by decide +kernel
theorem dX6_init_41 : decode cX6_init 41 = .ok (.dup, 1) := by decide +kernel
theorem dX6_init_42 : decode cX6_init 42 = .ok (.invokespecial 32, 3) := by decide +kernel
theorem dX6_init_45 : decode cX6_init 45 = .ok (.putfield 33, 3) := by decide +kernel
theorem dX6_init_48 : decode cX6_init 48 = .ok (.aload_n 0, 1) := by decide +kernel
theorem dX6_init_49 : decode cX6_init 49 = .ok (.iconst 3, 1) := by decide +kernel
theorem dX6_init_50 : decode cX6_init 50 = .ok (.anewarray 37, 3) := by decide +kernel
theorem dX6_init_53 : decode cX6_init 53 = .ok (.putfield 39, 3) := by decide +kernel
theorem dX6_init_56 : decode cX6_init 56 = .ok (.iconst 0, 1) := by decide +kernel
theorem dX6_init_57 : decode cX6_init 57 = .ok (.istore_n 1, 1) := by decide +kernel
theorem dX6_init_58 : decode cX6_init 58 = .ok (.iload_n 1, 1) := by decide +kernel
theorem dX6_init_59 : decode cX6_init 59 = .ok (.aload_n 0, 1) := by decide +kernel
theorem dX6_init_60 : decode cX6_init 60 = .ok (.getfield 39, 3) := by decide +kernel
theorem dX6_init_63 : decode cX6_init 63 = .ok (.arraylength, 1) := by decide +kernel
theorem dX6_init_64 : decode cX6_init 64 = .ok (.if_icmp .ge 22, 3) := by decide +kernel
theorem dX6_init_67 : decode cX6_init 67 = .ok (.aload_n 0, 1) := by decide +kernel
theorem dX6_init_68 : decode cX6_init 68 = .ok (.getfield 39, 3) := by decide +kernel
theorem dX6_init_71 : decode cX6_init 71 = .ok (.iload_n 1, 1) := by decide +kernel
theorem dX6_init_72 : decode cX6_init 72 = .ok (.new 37, 3) := by decide +kernel
theorem dX6_init_75 : decode cX6_init 75 = .ok (.dup, 1) := by decide +kernel
theorem dX6_init_76 : decode cX6_init 76 = .ok (.invokespecial 43, 3) := by decide +kernel
theorem dX6_init_79 : decode cX6_init 79 = .ok (.aastore, 1) := by decide +kernel
theorem dX6_init_80 : decode cX6_init 80 = .ok (.iinc 1 1, 3) := by decide +kernel
theorem dX6_init_83 : decode cX6_init 83 = .ok (.goto (-25), 3) := by decide +kernel
theorem dX6_init_86 : decode cX6_init 86 = .ok (.return_, 1) := by decide +kernel
theorem dX6_write_0 : decode cX6_write 0 = .ok (.iload_n 1, 1) := by decide +kernel
theorem dX6_write_1 : decode cX6_write 1 = .ok (.ifCond .lt 10, 3) := by decide +kernel
theorem dX6_write_4 : decode cX6_write 4 = .ok (.iload_n 1, 1) := by decide +kernel
theorem dX6_write_5 : decode cX6_write 5 = .ok (.sipush 255, 3) := by decide +kernel
theorem dX6_write_8 : decode cX6_write 8 = .ok (.if_icmp .le 6, 3) := by decide +kernel
theorem dX6_write_11 : decode cX6_write 11 = .ok (.ldc 44, 2) := by decide +kernel
theorem dX6_write_13 : decode cX6_write 13 = .ok (.ireturn, 1) := by decide +kernel
theorem dX6_write_14 : decode cX6_write 14 = .ok (.aload_n 0, 1) := by decide +kernel
theorem dX6_write_15 : decode cX6_write 15 = .ok (.getfield 10, 3) := by decide +kernel
theorem dX6_write_18 : decode cX6_write 18 = .ok (.getfield 45, 3) := by decide +kernel
theorem dX6_write_21 : decode cX6_write 21 = .ok (.getfield 49, 3) := by decide +kernel
theorem dX6_write_24 : decode cX6_write 24 = .ok (.sipush 200, 3) := by decide +kernel
theorem dX6_write_27 : decode cX6_write 27 = .ok (.if_icmp .lt 6, 3) := by decide +kernel
theorem dX6_write_30 : decode cX6_write 30 = .ok (.ldc 55, 2) := by decide +kernel
theorem dX6_write_32 : decode cX6_write 32 = .ok (.ireturn, 1) := by decide +kernel
theorem dX6_write_33 : decode cX6_write 33 = .ok (.aload_n 0, 1) := by decide +kernel
theorem dX6_write_34 : decode cX6_write 34 = .ok (.getfield 10, 3) := by decide +kernel
theorem dX6_write_37 : decode cX6_write 37 = .ok (.getfield 45, 3) := by decide +kernel
theorem dX6_write_40 : decode cX6_write 40 = .ok (.iload_n 1, 1) := by decide +kernel
theorem dX6_write_41 : decode cX6_write 41 = .ok (.invokevirtual 56, 3) := by decide +kernel
theorem dX6_write_44 : decode cX6_write 44 = .ok (.aload_n 0, 1) := by decide +kernel
theorem dX6_write_45 : decode cX6_write 45 = .ok (.getfield 10, 3) := by decide +kernel
theorem dX6_write_48 : decode cX6_write 48 = .ok (.getfield 45, 3) := by decide +kernel
theorem dX6_write_51 : decode cX6_write 51 = .ok (.getfield 49, 3) := by decide +kernel
theorem dX6_write_54 : decode cX6_write 54 = .ok (.ireturn, 1) := by decide +kernel
theorem dX6_erase_0 : decode cX6_erase 0 = .ok (.aload_n 0, 1) := by decide +kernel
theorem dX6_erase_1 : decode cX6_erase 1 = .ok (.getfield 10, 3) := by decide +kernel
theorem dX6_erase_4 : decode cX6_erase 4 = .ok (.getfield 45, 3) := by decide +kernel
theorem dX6_erase_7 : decode cX6_erase 7 = .ok (.getfield 49, 3) := by decide +kernel
theorem dX6_erase_10 : decode cX6_erase 10 = .ok (.istore_n 1, 1) := by decide +kernel
theorem dX6_erase_11 : decode cX6_erase 11 = .ok (.aload_n 0, 1) := by decide +kernel
theorem dX6_erase_12 : decode cX6_erase 12 = .ok (.getfield 10, 3) := by decide +kernel
theorem dX6_erase_15 : decode cX6_erase 15 = .ok (.getfield 45, 3) := by decide +kernel
theorem dX6_erase_18 : decode cX6_erase 18 = .ok (.iconst 0, 1) := by decide +kernel
theorem dX6_erase_19 : decode cX6_erase 19 = .ok (.putfield 49, 3) := by decide +kernel
theorem dX6_erase_22 : decode cX6_erase 22 = .ok (.iload_n 1, 1) := by decide +kernel
theorem dX6_erase_23 : decode cX6_erase 23 = .ok (.ireturn, 1) := by decide +kernel
theorem dX6_fault_0 : decode cX6_fault 0 = .ok (.aload_n 0, 1) := by decide +kernel
theorem dX6_fault_1 : decode cX6_fault 1 = .ok (.getfield 10, 3) := by decide +kernel
theorem dX6_fault_4 : decode cX6_fault 4 = .ok (.aload_n 0, 1) := by decide +kernel
theorem dX6_fault_5 : decode cX6_fault 5 = .ok (.getfield 19, 3) := by decide +kernel
theorem dX6_fault_8 : decode cX6_fault 8 = .ok (.invokevirtual 60, 3) := by decide +kernel
theorem dX6_fault_11 : decode cX6_fault 11 = .ok (.ireturn, 1) := by decide +kernel
theorem dX6_wall_0 : decode cX6_wall 0 = .ok (.aload_n 0, 1) := by decide +kernel
theorem dX6_wall_1 : decode cX6_wall 1 = .ok (.getfield 10, 3) := by decide +kernel
theorem dX6_wall_4 : decode cX6_wall 4 = .ok (.aload_n 0, 1) := by decide +kernel
theorem dX6_wall_5 : decode cX6_wall 5 = .ok (.getfield 19, 3) := by decide +kernel
theorem dX6_wall_8 : decode cX6_wall 8 = .ok (.invokevirtual 60, 3) := by decide +kernel
theorem dX6_wall_11 : decode cX6_wall 11 = .ok (.iconst (-1), 1) := by decide +kernel
theorem dX6_wall_12 : decode cX6_wall 12 = .ok (.if_icmp .eq 6, 3) := by decide +kernel
theorem dX6_wall_15 : decode cX6_wall 15 = .ok (.ldc 64, 2) := by decide +kernel
theorem dX6_wall_17 : decode cX6_wall 17 = .ok (.ireturn, 1) := by decide +kernel
theorem dX6_wall_18 : decode cX6_wall 18 = .ok (.aload_n 0, 1) := by decide +kernel
theorem dX6_wall_19 : decode cX6_wall 19 = .ok (.getfield 19, 3) := by decide +kernel
theorem dX6_wall_22 : decode cX6_wall 22 = .ok (.aload_n 0, 1) := by decide +kernel
theorem dX6_wall_23 : decode cX6_wall 23 = .ok (.getfield 10, 3) := by decide +kernel
theorem dX6_wall_26 : decode cX6_wall 26 = .ok (.getfield 65, 3) := by decide +kernel
theorem dX6_wall_29 : decode cX6_wall 29 = .ok (.invokevirtual 68, 3) := by decide +kernel
theorem dX6_wall_32 : decode cX6_wall 32 = .ok (.aload_n 0, 1) := by decide +kernel
theorem dX6_wall_33 : decode cX6_wall 33 = .ok (.getfield 19, 3) := by decide +kernel
theorem dX6_wall_36 : decode cX6_wall 36 = .ok (.getfield 72, 3) := by decide +kernel
theorem dX6_wall_39 : decode cX6_wall 39 = .ok (.invokevirtual 75, 3) := by decide +kernel
theorem dX6_wall_42 : decode cX6_wall 42 = .ok (.aload_n 0, 1) := by decide +kernel
theorem dX6_wall_43 : decode cX6_wall 43 = .ok (.getfield 33, 3) := by decide +kernel
theorem dX6_wall_46 : decode cX6_wall 46 = .ok (.invokevirtual 78, 3) := by decide +kernel
theorem dX6_wall_49 : decode cX6_wall 49 = .ok (.iconst 0, 1) := by decide +kernel
theorem dX6_wall_50 : decode cX6_wall 50 = .ok (.istore_n 1, 1) := by decide +kernel
theorem dX6_wall_51 : decode cX6_wall 51 = .ok (.iload_n 1, 1) := by decide +kernel
theorem dX6_wall_52 : decode cX6_wall 52 = .ok (.iconst 3, 1) := by decide +kernel
theorem dX6_wall_53 : decode cX6_wall 53 = .ok (.if_icmp .ge 14, 3) := by decide +kernel
theorem dX6_wall_56 : decode cX6_wall 56 = .ok (.aload_n 0, 1) := by decide +kernel
theorem dX6_wall_57 : decode cX6_wall 57 = .ok (.iload_n 1, 1) := by decide +kernel
theorem dX6_wall_58 : decode cX6_wall 58 = .ok (.invokevirtual 79, 3) := by decide +kernel
theorem dX6_wall_61 : decode cX6_wall 61 = .ok (.iinc 1 1, 3) := by decide +kernel
theorem dX6_wall_64 : decode cX6_wall 64 = .ok (.goto (-13), 3) := by decide +kernel
theorem dX6_wall_67 : decode cX6_wall 67 = .ok (.aload_n 0, 1) := by decide +kernel
theorem dX6_wall_68 : decode cX6_wall 68 = .ok (.getfield 10, 3) := by decide +kernel
theorem dX6_wall_71 : decode cX6_wall 71 = .ok (.getfield 45, 3) := by decide +kernel
theorem dX6_wall_74 : decode cX6_wall 74 = .ok (.iconst 0, 1) := by decide +kernel
theorem dX6_wall_75 : decode cX6_wall 75 = .ok (.putfield 49, 3) := by decide +kernel
theorem dX6_wall_78 : decode cX6_wall 78 = .ok (.aload_n 0, 1) := by decide +kernel
theorem dX6_wall_79 : decode cX6_wall 79 = .ok (.getfield 10, 3) := by decide +kernel
theorem dX6_wall_82 : decode cX6_wall 82 = .ok (.getfield 82, 3) := by decide +kernel
theorem dX6_wall_85 : decode cX6_wall 85 = .ok (.ireturn, 1) := by decide +kernel
theorem dX6_find_0 : decode cX6_find 0 = .ok (.aload_n 0, 1) := by decide +kernel
theorem dX6_find_1 : decode cX6_find 1 = .ok (.getfield 19, 3) := by decide +kernel
theorem dX6_find_4 : decode cX6_find 4 = .ok (.aload_n 0, 1) := by decide +kernel
theorem dX6_find_5 : decode cX6_find 5 = .ok (.getfield 10, 3) := by decide +kernel
theorem dX6_find_8 : decode cX6_find 8 = .ok (.getfield 45, 3) := by decide +kernel
theorem dX6_find_11 : decode cX6_find 11 = .ok (.iconst 0, 1) := by decide +kernel
theorem dX6_find_12 : decode cX6_find 12 = .ok (.aload_n 0, 1) := by decide +kernel
theorem dX6_find_13 : decode cX6_find 13 = .ok (.getfield 10, 3) := by decide +kernel
theorem dX6_find_16 : decode cX6_find 16 = .ok (.getfield 45, 3) := by decide +kernel
theorem dX6_find_19 : decode cX6_find 19 = .ok (.getfield 49, 3) := by decide +kernel
theorem dX6_find_22 : decode cX6_find 22 = .ok (.invokevirtual 85, 3) := by decide +kernel
theorem dX6_find_25 : decode cX6_find 25 = .ok (.ireturn, 1) := by decide +kernel
theorem dX6_stuff_0 : decode cX6_stuff 0 = .ok (.aload_n 0, 1) := by decide +kernel
theorem dX6_stuff_1 : decode cX6_stuff 1 = .ok (.getfield 19, 3) := by decide +kernel
theorem dX6_stuff_4 : decode cX6_stuff 4 = .ok (.iload_n 1, 1) := by decide +kernel
theorem dX6_stuff_5 : decode cX6_stuff 5 = .ok (.invokevirtual 89, 3) := by decide +kernel
theorem dX6_stuff_8 : decode cX6_stuff 8 = .ok (.ifCond .ne 6, 3) := by decide +kernel
theorem dX6_stuff_11 : decode cX6_stuff 11 = .ok (.ldc 93, 2) := by decide +kernel
theorem dX6_stuff_13 : decode cX6_stuff 13 = .ok (.ireturn, 1) := by decide +kernel
theorem dX6_stuff_14 : decode cX6_stuff 14 = .ok (.iload_n 2, 1) := by decide +kernel
theorem dX6_stuff_15 : decode cX6_stuff 15 = .ok (.tableswitch 74 0 3 #[29, 41, 53, 65], 29) := by decide +kernel
theorem dX6_stuff_44 : decode cX6_stuff 44 = .ok (.aload_n 0, 1) := by decide +kernel
theorem dX6_stuff_45 : decode cX6_stuff 45 = .ok (.getfield 19, 3) := by decide +kernel
theorem dX6_stuff_48 : decode cX6_stuff 48 = .ok (.getfield 94, 3) := by decide +kernel
theorem dX6_stuff_51 : decode cX6_stuff 51 = .ok (.iload_n 1, 1) := by decide +kernel
theorem dX6_stuff_52 : decode cX6_stuff 52 = .ok (.invokestatic 98, 3) := by decide +kernel
theorem dX6_stuff_55 : decode cX6_stuff 55 = .ok (.ireturn, 1) := by decide +kernel
theorem dX6_stuff_56 : decode cX6_stuff 56 = .ok (.aload_n 0, 1) := by decide +kernel
theorem dX6_stuff_57 : decode cX6_stuff 57 = .ok (.getfield 19, 3) := by decide +kernel
theorem dX6_stuff_60 : decode cX6_stuff 60 = .ok (.getfield 102, 3) := by decide +kernel
theorem dX6_stuff_63 : decode cX6_stuff 63 = .ok (.iload_n 1, 1) := by decide +kernel
theorem dX6_stuff_64 : decode cX6_stuff 64 = .ok (.invokestatic 98, 3) := by decide +kernel
theorem dX6_stuff_67 : decode cX6_stuff 67 = .ok (.ireturn, 1) := by decide +kernel
theorem dX6_stuff_68 : decode cX6_stuff 68 = .ok (.aload_n 0, 1) := by decide +kernel
theorem dX6_stuff_69 : decode cX6_stuff 69 = .ok (.getfield 19, 3) := by decide +kernel
theorem dX6_stuff_72 : decode cX6_stuff 72 = .ok (.getfield 105, 3) := by decide +kernel
theorem dX6_stuff_75 : decode cX6_stuff 75 = .ok (.iload_n 1, 1) := by decide +kernel
theorem dX6_stuff_76 : decode cX6_stuff 76 = .ok (.invokestatic 98, 3) := by decide +kernel
theorem dX6_stuff_79 : decode cX6_stuff 79 = .ok (.ireturn, 1) := by decide +kernel
theorem dX6_stuff_80 : decode cX6_stuff 80 = .ok (.aload_n 0, 1) := by decide +kernel
theorem dX6_stuff_81 : decode cX6_stuff 81 = .ok (.getfield 19, 3) := by decide +kernel
theorem dX6_stuff_84 : decode cX6_stuff 84 = .ok (.iload_n 1, 1) := by decide +kernel
theorem dX6_stuff_85 : decode cX6_stuff 85 = .ok (.invokevirtual 108, 3) := by decide +kernel
theorem dX6_stuff_88 : decode cX6_stuff 88 = .ok (.ireturn, 1) := by decide +kernel
theorem dX6_stuff_89 : decode cX6_stuff 89 = .ok (.ldc 44, 2) := by decide +kernel
theorem dX6_stuff_91 : decode cX6_stuff 91 = .ok (.ireturn, 1) := by decide +kernel
theorem dX6_cell_0 : decode cX6_cell 0 = .ok (.aload_n 0, 1) := by decide +kernel
theorem dX6_cell_1 : decode cX6_cell 1 = .ok (.getfield 19, 3) := by decide +kernel
theorem dX6_cell_4 : decode cX6_cell 4 = .ok (.iload_n 1, 1) := by decide +kernel
theorem dX6_cell_5 : decode cX6_cell 5 = .ok (.invokevirtual 112, 3) := by decide +kernel
theorem dX6_cell_8 : decode cX6_cell 8 = .ok (.ifCond .ne 6, 3) := by decide +kernel
theorem dX6_cell_11 : decode cX6_cell 11 = .ok (.ldc 93, 2) := by decide +kernel
theorem dX6_cell_13 : decode cX6_cell 13 = .ok (.ireturn, 1) := by decide +kernel
theorem dX6_cell_14 : decode cX6_cell 14 = .ok (.aload_n 0, 1) := by decide +kernel
theorem dX6_cell_15 : decode cX6_cell 15 = .ok (.getfield 19, 3) := by decide +kernel
theorem dX6_cell_18 : decode cX6_cell 18 = .ok (.getfield 72, 3) := by decide +kernel
theorem dX6_cell_21 : decode cX6_cell 21 = .ok (.getfield 115, 3) := by decide +kernel
theorem dX6_cell_24 : decode cX6_cell 24 = .ok (.iload_n 1, 1) := by decide +kernel
theorem dX6_cell_25 : decode cX6_cell 25 = .ok (.invokestatic 98, 3) := by decide +kernel
theorem dX6_cell_28 : decode cX6_cell 28 = .ok (.istore_n 3, 1) := by decide +kernel
theorem dX6_cell_29 : decode cX6_cell 29 = .ok (.iload_n 2, 1) := by decide +kernel
theorem dX6_cell_30 : decode cX6_cell 30 = .ok (.tableswitch 78 0 3 #[30, 42, 44, 61], 30) := by decide +kernel
theorem dX6_cell_60 : decode cX6_cell 60 = .ok (.aload_n 0, 1) := by decide +kernel
theorem dX6_cell_61 : decode cX6_cell 61 = .ok (.getfield 19, 3) := by decide +kernel
theorem dX6_cell_64 : decode cX6_cell 64 = .ok (.getfield 118, 3) := by decide +kernel
theorem dX6_cell_67 : decode cX6_cell 67 = .ok (.iload_n 1, 1) := by decide +kernel
theorem dX6_cell_68 : decode cX6_cell 68 = .ok (.invokestatic 98, 3) := by decide +kernel
theorem dX6_cell_71 : decode cX6_cell 71 = .ok (.ireturn, 1) := by decide +kernel
theorem dX6_cell_72 : decode cX6_cell 72 = .ok (.iload_n 3, 1) := by decide +kernel
theorem dX6_cell_73 : decode cX6_cell 73 = .ok (.ireturn, 1) := by decide +kernel
theorem dX6_cell_74 : decode cX6_cell 74 = .ok (.iload_n 3, 1) := by decide +kernel
theorem dX6_cell_75 : decode cX6_cell 75 = .ok (.i2l, 1) := by decide +kernel
theorem dX6_cell_76 : decode cX6_cell 76 = .ok (.aload_n 0, 1) := by decide +kernel
theorem dX6_cell_77 : decode cX6_cell 77 = .ok (.getfield 19, 3) := by decide +kernel
theorem dX6_cell_80 : decode cX6_cell 80 = .ok (.iload_n 1, 1) := by decide +kernel
theorem dX6_cell_81 : decode cX6_cell 81 = .ok (.invokevirtual 121, 3) := by decide +kernel
theorem dX6_cell_84 : decode cX6_cell 84 = .ok (.i2l, 1) := by decide +kernel
theorem dX6_cell_85 : decode cX6_cell 85 = .ok (.iconst 0, 1) := by decide +kernel
theorem dX6_cell_86 : decode cX6_cell 86 = .ok (.invokestatic 124, 3) := by decide +kernel
theorem dX6_cell_89 : decode cX6_cell 89 = .ok (.l2i, 1) := by decide +kernel
theorem dX6_cell_90 : decode cX6_cell 90 = .ok (.ireturn, 1) := by decide +kernel
theorem dX6_cell_91 : decode cX6_cell 91 = .ok (.iload_n 3, 1) := by decide +kernel
theorem dX6_cell_92 : decode cX6_cell 92 = .ok (.i2l, 1) := by decide +kernel
theorem dX6_cell_93 : decode cX6_cell 93 = .ok (.aload_n 0, 1) := by decide +kernel
theorem dX6_cell_94 : decode cX6_cell 94 = .ok (.getfield 19, 3) := by decide +kernel
theorem dX6_cell_97 : decode cX6_cell 97 = .ok (.iload_n 1, 1) := by decide +kernel
theorem dX6_cell_98 : decode cX6_cell 98 = .ok (.invokevirtual 121, 3) := by decide +kernel
theorem dX6_cell_101 : decode cX6_cell 101 = .ok (.i2l, 1) := by decide +kernel
theorem dX6_cell_102 : decode cX6_cell 102 = .ok (.iconst 1, 1) := by decide +kernel
theorem dX6_cell_103 : decode cX6_cell 103 = .ok (.invokestatic 124, 3) := by decide +kernel
theorem dX6_cell_106 : decode cX6_cell 106 = .ok (.l2i, 1) := by decide +kernel
theorem dX6_cell_107 : decode cX6_cell 107 = .ok (.ireturn, 1) := by decide +kernel
theorem dX6_cell_108 : decode cX6_cell 108 = .ok (.ldc 44, 2) := by decide +kernel
theorem dX6_cell_110 : decode cX6_cell 110 = .ok (.ireturn, 1) := by decide +kernel
theorem dX6_rest_0 : decode cX6_rest 0 = .ok (.aload_n 0, 1) := by decide +kernel
theorem dX6_rest_1 : decode cX6_rest 1 = .ok (.getfield 19, 3) := by decide +kernel
theorem dX6_rest_4 : decode cX6_rest 4 = .ok (.iload_n 1, 1) := by decide +kernel
theorem dX6_rest_5 : decode cX6_rest 5 = .ok (.invokevirtual 112, 3) := by decide +kernel
theorem dX6_rest_8 : decode cX6_rest 8 = .ok (.ifCond .ne 7, 3) := by decide +kernel
theorem dX6_rest_11 : decode cX6_rest 11 = .ok (.ldc2_w 128, 3) := by decide +kernel
theorem dX6_rest_14 : decode cX6_rest 14 = .ok (.lreturn, 1) := by decide +kernel
theorem dX6_rest_15 : decode cX6_rest 15 = .ok (.iload_n 2, 1) := by decide +kernel
theorem dX6_rest_16 : decode cX6_rest 16 = .ok (.invokestatic 130, 3) := by decide +kernel
theorem dX6_rest_19 : decode cX6_rest 19 = .ok (.ifCond .ne 7, 3) := by decide +kernel
theorem dX6_rest_22 : decode cX6_rest 22 = .ok (.ldc2_w 133, 3) := by decide +kernel
theorem dX6_rest_25 : decode cX6_rest 25 = .ok (.lreturn, 1) := by decide +kernel
theorem dX6_rest_26 : decode cX6_rest 26 = .ok (.aload_n 0, 1) := by decide +kernel
theorem dX6_rest_27 : decode cX6_rest 27 = .ok (.getfield 19, 3) := by decide +kernel
theorem dX6_rest_30 : decode cX6_rest 30 = .ok (.iload_n 1, 1) := by decide +kernel
theorem dX6_rest_31 : decode cX6_rest 31 = .ok (.invokevirtual 135, 3) := by decide +kernel
theorem dX6_rest_34 : decode cX6_rest 34 = .ok (.lstore_n 3, 1) := by decide +kernel
theorem dX6_rest_35 : decode cX6_rest 35 = .ok (.aload_n 0, 1) := by decide +kernel
theorem dX6_rest_36 : decode cX6_rest 36 = .ok (.getfield 19, 3) := by decide +kernel
theorem dX6_rest_39 : decode cX6_rest 39 = .ok (.invokevirtual 139, 3) := by decide +kernel
theorem dX6_rest_42 : decode cX6_rest 42 = .ok (.lstore 5, 2) := by decide +kernel
theorem dX6_rest_44 : decode cX6_rest 44 = .ok (.aload_n 0, 1) := by decide +kernel
theorem dX6_rest_45 : decode cX6_rest 45 = .ok (.getfield 19, 3) := by decide +kernel
theorem dX6_rest_48 : decode cX6_rest 48 = .ok (.getfield 72, 3) := by decide +kernel
theorem dX6_rest_51 : decode cX6_rest 51 = .ok (.getfield 143, 3) := by decide +kernel
theorem dX6_rest_54 : decode cX6_rest 54 = .ok (.i2l, 1) := by decide +kernel
theorem dX6_rest_55 : decode cX6_rest 55 = .ok (.lload 5, 2) := by decide +kernel
theorem dX6_rest_57 : decode cX6_rest 57 = .ok (.lload_n 3, 1) := by decide +kernel
theorem dX6_rest_58 : decode cX6_rest 58 = .ok (.lsub, 1) := by decide +kernel
theorem dX6_rest_59 : decode cX6_rest 59 = .ok (.lmul, 1) := by decide +kernel
theorem dX6_rest_60 : decode cX6_rest 60 = .ok (.aload_n 0, 1) := by decide +kernel
theorem dX6_rest_61 : decode cX6_rest 61 = .ok (.getfield 19, 3) := by decide +kernel
theorem dX6_rest_64 : decode cX6_rest 64 = .ok (.getfield 72, 3) := by decide +kernel
theorem dX6_rest_67 : decode cX6_rest 67 = .ok (.getfield 146, 3) := by decide +kernel
theorem dX6_rest_70 : decode cX6_rest 70 = .ok (.i2l, 1) := by decide +kernel
theorem dX6_rest_71 : decode cX6_rest 71 = .ok (.lload_n 3, 1) := by decide +kernel
theorem dX6_rest_72 : decode cX6_rest 72 = .ok (.lmul, 1) := by decide +kernel
theorem dX6_rest_73 : decode cX6_rest 73 = .ok (.ladd, 1) := by decide +kernel
theorem dX6_rest_74 : decode cX6_rest 74 = .ok (.lstore 7, 2) := by decide +kernel
theorem dX6_rest_76 : decode cX6_rest 76 = .ok (.lload 7, 2) := by decide +kernel
theorem dX6_rest_78 : decode cX6_rest 78 = .ok (.lload 5, 2) := by decide +kernel
theorem dX6_rest_80 : decode cX6_rest 80 = .ok (.iload_n 2, 1) := by decide +kernel
theorem dX6_rest_81 : decode cX6_rest 81 = .ok (.invokestatic 124, 3) := by decide +kernel
theorem dX6_rest_84 : decode cX6_rest 84 = .ok (.lreturn, 1) := by decide +kernel
theorem dX6_step_0 : decode cX6_step 0 = .ok (.iload_n 1, 1) := by decide +kernel
theorem dX6_step_1 : decode cX6_step 1 = .ok (.iconst 1, 1) := by decide +kernel
theorem dX6_step_2 : decode cX6_step 2 = .ok (.if_icmp .lt 9, 3) := by decide +kernel
theorem dX6_step_5 : decode cX6_step 5 = .ok (.iload_n 1, 1) := by decide +kernel
theorem dX6_step_6 : decode cX6_step 6 = .ok (.bipush 50, 2) := by decide +kernel
theorem dX6_step_8 : decode cX6_step 8 = .ok (.if_icmp .le 6, 3) := by decide +kernel
theorem dX6_step_11 : decode cX6_step 11 = .ok (.ldc 44, 2) := by decide +kernel
theorem dX6_step_13 : decode cX6_step 13 = .ok (.ireturn, 1) := by decide +kernel
theorem dX6_step_14 : decode cX6_step 14 = .ok (.aload_n 0, 1) := by decide +kernel
theorem dX6_step_15 : decode cX6_step 15 = .ok (.getfield 19, 3) := by decide +kernel
theorem dX6_step_18 : decode cX6_step 18 = .ok (.getfield 149, 3) := by decide +kernel
theorem dX6_step_21 : decode cX6_step 21 = .ok (.ifCond .ne 6, 3) := by decide +kernel
theorem dX6_step_24 : decode cX6_step 24 = .ok (.ldc 64, 2) := by decide +kernel
theorem dX6_step_26 : decode cX6_step 26 = .ok (.ireturn, 1) := by decide +kernel
theorem dX6_step_27 : decode cX6_step 27 = .ok (.aload_n 0, 1) := by decide +kernel
theorem dX6_step_28 : decode cX6_step 28 = .ok (.getfield 33, 3) := by decide +kernel
theorem dX6_step_31 : decode cX6_step 31 = .ok (.aload_n 0, 1) := by decide +kernel
theorem dX6_step_32 : decode cX6_step 32 = .ok (.getfield 19, 3) := by decide +kernel
theorem dX6_step_35 : decode cX6_step 35 = .ok (.getfield 72, 3) := by decide +kernel
theorem dX6_step_38 : decode cX6_step 38 = .ok (.invokevirtual 152, 3) := by decide +kernel
theorem dX6_step_41 : decode cX6_step 41 = .ok (.iconst 0, 1) := by decide +kernel
theorem dX6_step_42 : decode cX6_step 42 = .ok (.istore_n 2, 1) := by decide +kernel
theorem dX6_step_43 : decode cX6_step 43 = .ok (.iload_n 2, 1) := by decide +kernel
theorem dX6_step_44 : decode cX6_step 44 = .ok (.iload_n 1, 1) := by decide +kernel
theorem dX6_step_45 : decode cX6_step 45 = .ok (.if_icmp .ge 26, 3) := by decide +kernel
theorem dX6_step_48 : decode cX6_step 48 = .ok (.aload_n 0, 1) := by decide +kernel
theorem dX6_step_49 : decode cX6_step 49 = .ok (.getfield 19, 3) := by decide +kernel
theorem dX6_step_52 : decode cX6_step 52 = .ok (.aload_n 0, 1) := by decide +kernel
theorem dX6_step_53 : decode cX6_step 53 = .ok (.getfield 19, 3) := by decide +kernel
theorem dX6_step_56 : decode cX6_step 56 = .ok (.getfield 72, 3) := by decide +kernel
theorem dX6_step_59 : decode cX6_step 59 = .ok (.invokevirtual 156, 3) := by decide +kernel
theorem dX6_step_62 : decode cX6_step 62 = .ok (.ifCond .eq 9, 3) := by decide +kernel
theorem dX6_step_65 : decode cX6_step 65 = .ok (.iinc 2 1, 3) := by decide +kernel
theorem dX6_step_68 : decode cX6_step 68 = .ok (.goto (-25), 3) := by decide +kernel
theorem dX6_step_71 : decode cX6_step 71 = .ok (.iload_n 2, 1) := by decide +kernel
theorem dX6_step_72 : decode cX6_step 72 = .ok (.ireturn, 1) := by decide +kernel
theorem dX6_heat_0 : decode cX6_heat 0 = .ok (.aload_n 0, 1) := by decide +kernel
theorem dX6_heat_1 : decode cX6_heat 1 = .ok (.getfield 19, 3) := by decide +kernel
theorem dX6_heat_4 : decode cX6_heat 4 = .ok (.iload_n 1, 1) := by decide +kernel
theorem dX6_heat_5 : decode cX6_heat 5 = .ok (.invokevirtual 112, 3) := by decide +kernel
theorem dX6_heat_8 : decode cX6_heat 8 = .ok (.ifCond .ne 6, 3) := by decide +kernel
theorem dX6_heat_11 : decode cX6_heat 11 = .ok (.ldc 93, 2) := by decide +kernel
theorem dX6_heat_13 : decode cX6_heat 13 = .ok (.ireturn, 1) := by decide +kernel
theorem dX6_heat_14 : decode cX6_heat 14 = .ok (.iload_n 2, 1) := by decide +kernel
theorem dX6_heat_15 : decode cX6_heat 15 = .ok (.sipush (-9999), 3) := by decide +kernel
theorem dX6_heat_18 : decode cX6_heat 18 = .ok (.if_icmp .lt 10, 3) := by decide +kernel
theorem dX6_heat_21 : decode cX6_heat 21 = .ok (.iload_n 2, 1) := by decide +kernel
theorem dX6_heat_22 : decode cX6_heat 22 = .ok (.sipush 9999, 3) := by decide +kernel
theorem dX6_heat_25 : decode cX6_heat 25 = .ok (.if_icmp .le 6, 3) := by decide +kernel
theorem dX6_heat_28 : decode cX6_heat 28 = .ok (.ldc 44, 2) := by decide +kernel
theorem dX6_heat_30 : decode cX6_heat 30 = .ok (.ireturn, 1) := by decide +kernel
theorem dX6_heat_31 : decode cX6_heat 31 = .ok (.aload_n 0, 1) := by decide +kernel
theorem dX6_heat_32 : decode cX6_heat 32 = .ok (.getfield 19, 3) := by decide +kernel
theorem dX6_heat_35 : decode cX6_heat 35 = .ok (.getfield 72, 3) := by decide +kernel
theorem dX6_heat_38 : decode cX6_heat 38 = .ok (.getfield 115, 3) := by decide +kernel
theorem dX6_heat_41 : decode cX6_heat 41 = .ok (.iload_n 1, 1) := by decide +kernel
theorem dX6_heat_42 : decode cX6_heat 42 = .ok (.invokestatic 98, 3) := by decide +kernel
theorem dX6_heat_45 : decode cX6_heat 45 = .ok (.iload_n 2, 1) := by decide +kernel
theorem dX6_heat_46 : decode cX6_heat 46 = .ok (.iadd, 1) := by decide +kernel
theorem dX6_heat_47 : decode cX6_heat 47 = .ok (.istore_n 3, 1) := by decide +kernel
theorem dX6_heat_48 : decode cX6_heat 48 = .ok (.iload_n 3, 1) := by decide +kernel
theorem dX6_heat_49 : decode cX6_heat 49 = .ok (.invokestatic 160, 3) := by decide +kernel
theorem dX6_heat_52 : decode cX6_heat 52 = .ok (.ifCond .ne 6, 3) := by decide +kernel
theorem dX6_heat_55 : decode cX6_heat 55 = .ok (.ldc 64, 2) := by decide +kernel
theorem dX6_heat_57 : decode cX6_heat 57 = .ok (.ireturn, 1) := by decide +kernel
theorem dX6_heat_58 : decode cX6_heat 58 = .ok (.aload_n 0, 1) := by decide +kernel
theorem dX6_heat_59 : decode cX6_heat 59 = .ok (.getfield 33, 3) := by decide +kernel
theorem dX6_heat_62 : decode cX6_heat 62 = .ok (.aload_n 0, 1) := by decide +kernel
theorem dX6_heat_63 : decode cX6_heat 63 = .ok (.getfield 19, 3) := by decide +kernel
theorem dX6_heat_66 : decode cX6_heat 66 = .ok (.getfield 72, 3) := by decide +kernel
theorem dX6_heat_69 : decode cX6_heat 69 = .ok (.invokevirtual 152, 3) := by decide +kernel
theorem dX6_heat_72 : decode cX6_heat 72 = .ok (.aload_n 0, 1) := by decide +kernel
theorem dX6_heat_73 : decode cX6_heat 73 = .ok (.getfield 19, 3) := by decide +kernel
theorem dX6_heat_76 : decode cX6_heat 76 = .ok (.getfield 72, 3) := by decide +kernel
theorem dX6_heat_79 : decode cX6_heat 79 = .ok (.getfield 115, 3) := by decide +kernel
theorem dX6_heat_82 : decode cX6_heat 82 = .ok (.iload_n 1, 1) := by decide +kernel
theorem dX6_heat_83 : decode cX6_heat 83 = .ok (.iload_n 3, 1) := by decide +kernel
theorem dX6_heat_84 : decode cX6_heat 84 = .ok (.invokestatic 163, 3) := by decide +kernel
theorem dX6_heat_87 : decode cX6_heat 87 = .ok (.iload_n 3, 1) := by decide +kernel
theorem dX6_heat_88 : decode cX6_heat 88 = .ok (.ireturn, 1) := by decide +kernel
theorem dX6_air_0 : decode cX6_air 0 = .ok (.iload_n 1, 1) := by decide +kernel
theorem dX6_air_1 : decode cX6_air 1 = .ok (.ifCond .lt 15, 3) := by decide +kernel
theorem dX6_air_4 : decode cX6_air 4 = .ok (.iload_n 1, 1) := by decide +kernel
theorem dX6_air_5 : decode cX6_air 5 = .ok (.iconst 1, 1) := by decide +kernel
theorem dX6_air_6 : decode cX6_air 6 = .ok (.if_icmp .gt 10, 3) := by decide +kernel
theorem dX6_air_9 : decode cX6_air 9 = .ok (.iload_n 2, 1) := by decide +kernel
theorem dX6_air_10 : decode cX6_air 10 = .ok (.invokestatic 167, 3) := by decide +kernel
theorem dX6_air_13 : decode cX6_air 13 = .ok (.ifCond .ne 6, 3) := by decide +kernel
theorem dX6_air_16 : decode cX6_air 16 = .ok (.ldc 44, 2) := by decide +kernel
theorem dX6_air_18 : decode cX6_air 18 = .ok (.ireturn, 1) := by decide +kernel
theorem dX6_air_19 : decode cX6_air 19 = .ok (.aload_n 0, 1) := by decide +kernel
theorem dX6_air_20 : decode cX6_air 20 = .ok (.getfield 33, 3) := by decide +kernel
theorem dX6_air_23 : decode cX6_air 23 = .ok (.aload_n 0, 1) := by decide +kernel
theorem dX6_air_24 : decode cX6_air 24 = .ok (.getfield 19, 3) := by decide +kernel
theorem dX6_air_27 : decode cX6_air 27 = .ok (.getfield 72, 3) := by decide +kernel
theorem dX6_air_30 : decode cX6_air 30 = .ok (.invokevirtual 152, 3) := by decide +kernel
theorem dX6_air_33 : decode cX6_air 33 = .ok (.iload_n 1, 1) := by decide +kernel
theorem dX6_air_34 : decode cX6_air 34 = .ok (.ifCond .ne 16, 3) := by decide +kernel
theorem dX6_air_37 : decode cX6_air 37 = .ok (.aload_n 0, 1) := by decide +kernel
theorem dX6_air_38 : decode cX6_air 38 = .ok (.getfield 19, 3) := by decide +kernel
theorem dX6_air_41 : decode cX6_air 41 = .ok (.getfield 72, 3) := by decide +kernel
theorem dX6_air_44 : decode cX6_air 44 = .ok (.getfield 146, 3) := by decide +kernel
theorem dX6_air_47 : decode cX6_air 47 = .ok (.goto 13, 3) := by decide +kernel
theorem dX6_air_50 : decode cX6_air 50 = .ok (.aload_n 0, 1) := by decide +kernel
theorem dX6_air_51 : decode cX6_air 51 = .ok (.getfield 19, 3) := by decide +kernel
theorem dX6_air_54 : decode cX6_air 54 = .ok (.getfield 72, 3) := by decide +kernel
theorem dX6_air_57 : decode cX6_air 57 = .ok (.getfield 143, 3) := by decide +kernel
theorem dX6_air_60 : decode cX6_air 60 = .ok (.istore_n 3, 1) := by decide +kernel
theorem dX6_air_61 : decode cX6_air 61 = .ok (.iload_n 1, 1) := by decide +kernel
theorem dX6_air_62 : decode cX6_air 62 = .ok (.ifCond .ne 17, 3) := by decide +kernel
theorem dX6_air_65 : decode cX6_air 65 = .ok (.aload_n 0, 1) := by decide +kernel
theorem dX6_air_66 : decode cX6_air 66 = .ok (.getfield 19, 3) := by decide +kernel
theorem dX6_air_69 : decode cX6_air 69 = .ok (.getfield 72, 3) := by decide +kernel
theorem dX6_air_72 : decode cX6_air 72 = .ok (.iload_n 2, 1) := by decide +kernel
theorem dX6_air_73 : decode cX6_air 73 = .ok (.putfield 146, 3) := by decide +kernel
theorem dX6_air_76 : decode cX6_air 76 = .ok (.goto 14, 3) := by decide +kernel
theorem dX6_air_79 : decode cX6_air 79 = .ok (.aload_n 0, 1) := by decide +kernel
theorem dX6_air_80 : decode cX6_air 80 = .ok (.getfield 19, 3) := by decide +kernel
theorem dX6_air_83 : decode cX6_air 83 = .ok (.getfield 72, 3) := by decide +kernel
theorem dX6_air_86 : decode cX6_air 86 = .ok (.iload_n 2, 1) := by decide +kernel
theorem dX6_air_87 : decode cX6_air 87 = .ok (.putfield 143, 3) := by decide +kernel
theorem dX6_air_90 : decode cX6_air 90 = .ok (.iload_n 3, 1) := by decide +kernel
theorem dX6_air_91 : decode cX6_air 91 = .ok (.ireturn, 1) := by decide +kernel
theorem dX6_pace_0 : decode cX6_pace 0 = .ok (.iload_n 1, 1) := by decide +kernel
theorem dX6_pace_1 : decode cX6_pace 1 = .ok (.iconst 1, 1) := by decide +kernel
theorem dX6_pace_2 : decode cX6_pace 2 = .ok (.if_icmp .lt 10, 3) := by decide +kernel
theorem dX6_pace_5 : decode cX6_pace 5 = .ok (.iload_n 1, 1) := by decide +kernel
theorem dX6_pace_6 : decode cX6_pace 6 = .ok (.sipush 999, 3) := by decide +kernel
theorem dX6_pace_9 : decode cX6_pace 9 = .ok (.if_icmp .le 6, 3) := by decide +kernel
theorem dX6_pace_12 : decode cX6_pace 12 = .ok (.ldc 44, 2) := by decide +kernel
theorem dX6_pace_14 : decode cX6_pace 14 = .ok (.ireturn, 1) := by decide +kernel
theorem dX6_pace_15 : decode cX6_pace 15 = .ok (.aload_n 0, 1) := by decide +kernel
theorem dX6_pace_16 : decode cX6_pace 16 = .ok (.getfield 33, 3) := by decide +kernel
theorem dX6_pace_19 : decode cX6_pace 19 = .ok (.aload_n 0, 1) := by decide +kernel
theorem dX6_pace_20 : decode cX6_pace 20 = .ok (.getfield 19, 3) := by decide +kernel
theorem dX6_pace_23 : decode cX6_pace 23 = .ok (.getfield 72, 3) := by decide +kernel
theorem dX6_pace_26 : decode cX6_pace 26 = .ok (.invokevirtual 152, 3) := by decide +kernel
theorem dX6_pace_29 : decode cX6_pace 29 = .ok (.aload_n 0, 1) := by decide +kernel
theorem dX6_pace_30 : decode cX6_pace 30 = .ok (.getfield 19, 3) := by decide +kernel
theorem dX6_pace_33 : decode cX6_pace 33 = .ok (.getfield 72, 3) := by decide +kernel
theorem dX6_pace_36 : decode cX6_pace 36 = .ok (.iload_n 1, 1) := by decide +kernel
theorem dX6_pace_37 : decode cX6_pace 37 = .ok (.putfield 170, 3) := by decide +kernel
theorem dX6_pace_40 : decode cX6_pace 40 = .ok (.aload_n 0, 1) := by decide +kernel
theorem dX6_pace_41 : decode cX6_pace 41 = .ok (.getfield 19, 3) := by decide +kernel
theorem dX6_pace_44 : decode cX6_pace 44 = .ok (.invokevirtual 173, 3) := by decide +kernel
theorem dX6_pace_47 : decode cX6_pace 47 = .ok (.ireturn, 1) := by decide +kernel
theorem dX6_undo_0 : decode cX6_undo 0 = .ok (.aload_n 0, 1) := by decide +kernel
theorem dX6_undo_1 : decode cX6_undo 1 = .ok (.getfield 33, 3) := by decide +kernel
theorem dX6_undo_4 : decode cX6_undo 4 = .ok (.getfield 177, 3) := by decide +kernel
theorem dX6_undo_7 : decode cX6_undo 7 = .ok (.ifCond .ne 6, 3) := by decide +kernel
theorem dX6_undo_10 : decode cX6_undo 10 = .ok (.ldc 64, 2) := by decide +kernel
theorem dX6_undo_12 : decode cX6_undo 12 = .ok (.ireturn, 1) := by decide +kernel
theorem dX6_undo_13 : decode cX6_undo 13 = .ok (.aload_n 0, 1) := by decide +kernel
theorem dX6_undo_14 : decode cX6_undo 14 = .ok (.getfield 33, 3) := by decide +kernel
theorem dX6_undo_17 : decode cX6_undo 17 = .ok (.aload_n 0, 1) := by decide +kernel
theorem dX6_undo_18 : decode cX6_undo 18 = .ok (.getfield 19, 3) := by decide +kernel
theorem dX6_undo_21 : decode cX6_undo 21 = .ok (.getfield 72, 3) := by decide +kernel
theorem dX6_undo_24 : decode cX6_undo 24 = .ok (.invokevirtual 180, 3) := by decide +kernel
theorem dX6_undo_27 : decode cX6_undo 27 = .ok (.aload_n 0, 1) := by decide +kernel
theorem dX6_undo_28 : decode cX6_undo 28 = .ok (.getfield 33, 3) := by decide +kernel
theorem dX6_undo_31 : decode cX6_undo 31 = .ok (.getfield 177, 3) := by decide +kernel
theorem dX6_undo_34 : decode cX6_undo 34 = .ok (.ireturn, 1) := by decide +kernel
theorem dX6_keep_0 : decode cX6_keep 0 = .ok (.iload_n 1, 1) := by decide +kernel
theorem dX6_keep_1 : decode cX6_keep 1 = .ok (.ifCond .lt 8, 3) := by decide +kernel
theorem dX6_keep_4 : decode cX6_keep 4 = .ok (.iload_n 1, 1) := by decide +kernel
theorem dX6_keep_5 : decode cX6_keep 5 = .ok (.iconst 2, 1) := by decide +kernel
theorem dX6_keep_6 : decode cX6_keep 6 = .ok (.if_icmp .lt 6, 3) := by decide +kernel
theorem dX6_keep_9 : decode cX6_keep 9 = .ok (.ldc 93, 2) := by decide +kernel
theorem dX6_keep_11 : decode cX6_keep 11 = .ok (.ireturn, 1) := by decide +kernel
theorem dX6_keep_12 : decode cX6_keep 12 = .ok (.aload_n 0, 1) := by decide +kernel
theorem dX6_keep_13 : decode cX6_keep 13 = .ok (.getfield 33, 3) := by decide +kernel
theorem dX6_keep_16 : decode cX6_keep 16 = .ok (.iload_n 1, 1) := by decide +kernel
theorem dX6_keep_17 : decode cX6_keep 17 = .ok (.aload_n 0, 1) := by decide +kernel
theorem dX6_keep_18 : decode cX6_keep 18 = .ok (.getfield 19, 3) := by decide +kernel
theorem dX6_keep_21 : decode cX6_keep 21 = .ok (.getfield 72, 3) := by decide +kernel
theorem dX6_keep_24 : decode cX6_keep 24 = .ok (.invokevirtual 183, 3) := by decide +kernel
theorem dX6_keep_27 : decode cX6_keep 27 = .ok (.aload_n 0, 1) := by decide +kernel
theorem dX6_keep_28 : decode cX6_keep 28 = .ok (.getfield 19, 3) := by decide +kernel
theorem dX6_keep_31 : decode cX6_keep 31 = .ok (.getfield 72, 3) := by decide +kernel
theorem dX6_keep_34 : decode cX6_keep 34 = .ok (.aload_n 0, 1) := by decide +kernel
theorem dX6_keep_35 : decode cX6_keep 35 = .ok (.getfield 19, 3) := by decide +kernel
theorem dX6_keep_38 : decode cX6_keep 38 = .ok (.getfield 149, 3) := by decide +kernel
theorem dX6_keep_41 : decode cX6_keep 41 = .ok (.invokevirtual 187, 3) := by decide +kernel
theorem dX6_keep_44 : decode cX6_keep 44 = .ok (.ireturn, 1) := by decide +kernel
theorem dX6_back_0 : decode cX6_back 0 = .ok (.iload_n 1, 1) := by decide +kernel
theorem dX6_back_1 : decode cX6_back 1 = .ok (.ifCond .lt 8, 3) := by decide +kernel
theorem dX6_back_4 : decode cX6_back 4 = .ok (.iload_n 1, 1) := by decide +kernel
theorem dX6_back_5 : decode cX6_back 5 = .ok (.iconst 2, 1) := by decide +kernel
theorem dX6_back_6 : decode cX6_back 6 = .ok (.if_icmp .lt 6, 3) := by decide +kernel
theorem dX6_back_9 : decode cX6_back 9 = .ok (.ldc 93, 2) := by decide +kernel
theorem dX6_back_11 : decode cX6_back 11 = .ok (.ireturn, 1) := by decide +kernel
theorem dX6_back_12 : decode cX6_back 12 = .ok (.aload_n 0, 1) := by decide +kernel
theorem dX6_back_13 : decode cX6_back 13 = .ok (.getfield 33, 3) := by decide +kernel
theorem dX6_back_16 : decode cX6_back 16 = .ok (.iload_n 1, 1) := by decide +kernel
theorem dX6_back_17 : decode cX6_back 17 = .ok (.invokevirtual 190, 3) := by decide +kernel
theorem dX6_back_20 : decode cX6_back 20 = .ok (.ifCond .ne 6, 3) := by decide +kernel
theorem dX6_back_23 : decode cX6_back 23 = .ok (.ldc 64, 2) := by decide +kernel
theorem dX6_back_25 : decode cX6_back 25 = .ok (.ireturn, 1) := by decide +kernel
theorem dX6_back_26 : decode cX6_back 26 = .ok (.aload_n 0, 1) := by decide +kernel
theorem dX6_back_27 : decode cX6_back 27 = .ok (.getfield 33, 3) := by decide +kernel
theorem dX6_back_30 : decode cX6_back 30 = .ok (.iload_n 1, 1) := by decide +kernel
theorem dX6_back_31 : decode cX6_back 31 = .ok (.aload_n 0, 1) := by decide +kernel
theorem dX6_back_32 : decode cX6_back 32 = .ok (.getfield 19, 3) := by decide +kernel
theorem dX6_back_35 : decode cX6_back 35 = .ok (.getfield 72, 3) := by decide +kernel
theorem dX6_back_38 : decode cX6_back 38 = .ok (.invokevirtual 193, 3) := by decide +kernel
theorem dX6_back_41 : decode cX6_back 41 = .ok (.aload_n 0, 1) := by decide +kernel
theorem dX6_back_42 : decode cX6_back 42 = .ok (.getfield 19, 3) := by decide +kernel
theorem dX6_back_45 : decode cX6_back 45 = .ok (.getfield 72, 3) := by decide +kernel
theorem dX6_back_48 : decode cX6_back 48 = .ok (.aload_n 0, 1) := by decide +kernel
theorem dX6_back_49 : decode cX6_back 49 = .ok (.getfield 19, 3) := by decide +kernel
theorem dX6_back_52 : decode cX6_back 52 = .ok (.getfield 149, 3) := by decide +kernel
theorem dX6_back_55 : decode cX6_back 55 = .ok (.invokevirtual 187, 3) := by decide +kernel
theorem dX6_back_58 : decode cX6_back 58 = .ok (.ireturn, 1) := by decide +kernel
theorem dX6_flow_0 : decode cX6_flow 0 = .ok (.iload_n 1, 1) := by decide +kernel
theorem dX6_flow_1 : decode cX6_flow 1 = .ok (.ifCond .lt 14, 3) := by decide +kernel
theorem dX6_flow_4 : decode cX6_flow 4 = .ok (.iload_n 1, 1) := by decide +kernel
theorem dX6_flow_5 : decode cX6_flow 5 = .ok (.aload_n 0, 1) := by decide +kernel
theorem dX6_flow_6 : decode cX6_flow 6 = .ok (.getfield 19, 3) := by decide +kernel
theorem dX6_flow_9 : decode cX6_flow 9 = .ok (.getfield 149, 3) := by decide +kernel
theorem dX6_flow_12 : decode cX6_flow 12 = .ok (.if_icmp .le 6, 3) := by decide +kernel
theorem dX6_flow_15 : decode cX6_flow 15 = .ok (.ldc 44, 2) := by decide +kernel
theorem dX6_flow_17 : decode cX6_flow 17 = .ok (.ireturn, 1) := by decide +kernel
theorem dX6_flow_18 : decode cX6_flow 18 = .ok (.aload_n 0, 1) := by decide +kernel
theorem dX6_flow_19 : decode cX6_flow 19 = .ok (.getfield 19, 3) := by decide +kernel
theorem dX6_flow_22 : decode cX6_flow 22 = .ok (.getfield 149, 3) := by decide +kernel
theorem dX6_flow_25 : decode cX6_flow 25 = .ok (.ifCond .ne 6, 3) := by decide +kernel
theorem dX6_flow_28 : decode cX6_flow 28 = .ok (.ldc 64, 2) := by decide +kernel
theorem dX6_flow_30 : decode cX6_flow 30 = .ok (.ireturn, 1) := by decide +kernel
theorem dX6_flow_31 : decode cX6_flow 31 = .ok (.aload_n 0, 1) := by decide +kernel
theorem dX6_flow_32 : decode cX6_flow 32 = .ok (.getfield 19, 3) := by decide +kernel
theorem dX6_flow_35 : decode cX6_flow 35 = .ok (.aload_n 0, 1) := by decide +kernel
theorem dX6_flow_36 : decode cX6_flow 36 = .ok (.getfield 19, 3) := by decide +kernel
theorem dX6_flow_39 : decode cX6_flow 39 = .ok (.getfield 72, 3) := by decide +kernel
theorem dX6_flow_42 : decode cX6_flow 42 = .ok (.iload_n 1, 1) := by decide +kernel
theorem dX6_flow_43 : decode cX6_flow 43 = .ok (.invokevirtual 196, 3) := by decide +kernel
theorem dX6_flow_46 : decode cX6_flow 46 = .ok (.ireturn, 1) := by decide +kernel
theorem dX6_until_0 : decode cX6_until 0 = .ok (.aload_n 0, 1) := by decide +kernel
theorem dX6_until_1 : decode cX6_until 1 = .ok (.getfield 19, 3) := by decide +kernel
theorem dX6_until_4 : decode cX6_until 4 = .ok (.iload_n 1, 1) := by decide +kernel
theorem dX6_until_5 : decode cX6_until 5 = .ok (.invokevirtual 112, 3) := by decide +kernel
theorem dX6_until_8 : decode cX6_until 8 = .ok (.ifCond .ne 6, 3) := by decide +kernel
theorem dX6_until_11 : decode cX6_until 11 = .ok (.ldc 93, 2) := by decide +kernel
theorem dX6_until_13 : decode cX6_until 13 = .ok (.ireturn, 1) := by decide +kernel
theorem dX6_until_14 : decode cX6_until 14 = .ok (.iload_n 2, 1) := by decide +kernel
theorem dX6_until_15 : decode cX6_until 15 = .ok (.invokestatic 167, 3) := by decide +kernel
theorem dX6_until_18 : decode cX6_until 18 = .ok (.ifCond .ne 6, 3) := by decide +kernel
theorem dX6_until_21 : decode cX6_until 21 = .ok (.ldc 44, 2) := by decide +kernel
theorem dX6_until_23 : decode cX6_until 23 = .ok (.ireturn, 1) := by decide +kernel
theorem dX6_until_24 : decode cX6_until 24 = .ok (.iload_n 2, 1) := by decide +kernel
theorem dX6_until_25 : decode cX6_until 25 = .ok (.aload_n 0, 1) := by decide +kernel
theorem dX6_until_26 : decode cX6_until 26 = .ok (.getfield 19, 3) := by decide +kernel
theorem dX6_until_29 : decode cX6_until 29 = .ok (.iload_n 1, 1) := by decide +kernel
theorem dX6_until_30 : decode cX6_until 30 = .ok (.invokevirtual 121, 3) := by decide +kernel
theorem dX6_until_33 : decode cX6_until 33 = .ok (.imul, 1) := by decide +kernel
theorem dX6_until_34 : decode cX6_until 34 = .ok (.istore_n 3, 1) := by decide +kernel
theorem dX6_until_35 : decode cX6_until 35 = .ok (.aload_n 0, 1) := by decide +kernel
theorem dX6_until_36 : decode cX6_until 36 = .ok (.getfield 26, 3) := by decide +kernel
theorem dX6_until_39 : decode cX6_until 39 = .ok (.aload_n 0, 1) := by decide +kernel
theorem dX6_until_40 : decode cX6_until 40 = .ok (.getfield 19, 3) := by decide +kernel
theorem dX6_until_43 : decode cX6_until 43 = .ok (.getfield 72, 3) := by decide +kernel
theorem dX6_until_46 : decode cX6_until 46 = .ok (.invokevirtual 200, 3) := by decide +kernel
theorem dX6_until_49 : decode cX6_until 49 = .ok (.iconst 0, 1) := by decide +kernel
theorem dX6_until_50 : decode cX6_until 50 = .ok (.istore 4, 2) := by decide +kernel
theorem dX6_until_52 : decode cX6_until 52 = .ok (.iload 4, 2) := by decide +kernel
theorem dX6_until_54 : decode cX6_until 54 = .ok (.sipush 200, 3) := by decide +kernel
theorem dX6_until_57 : decode cX6_until 57 = .ok (.if_icmp .gt 43, 3) := by decide +kernel
theorem dX6_until_60 : decode cX6_until 60 = .ok (.aload_n 0, 1) := by decide +kernel
theorem dX6_until_61 : decode cX6_until 61 = .ok (.getfield 26, 3) := by decide +kernel
theorem dX6_until_64 : decode cX6_until 64 = .ok (.getfield 115, 3) := by decide +kernel
theorem dX6_until_67 : decode cX6_until 67 = .ok (.iload_n 1, 1) := by decide +kernel
theorem dX6_until_68 : decode cX6_until 68 = .ok (.invokestatic 98, 3) := by decide +kernel
theorem dX6_until_71 : decode cX6_until 71 = .ok (.iload_n 3, 1) := by decide +kernel
theorem dX6_until_72 : decode cX6_until 72 = .ok (.if_icmp .lt 6, 3) := by decide +kernel
theorem dX6_until_75 : decode cX6_until 75 = .ok (.iload 4, 2) := by decide +kernel
theorem dX6_until_77 : decode cX6_until 77 = .ok (.ireturn, 1) := by decide +kernel
theorem dX6_until_78 : decode cX6_until 78 = .ok (.aload_n 0, 1) := by decide +kernel
theorem dX6_until_79 : decode cX6_until 79 = .ok (.getfield 19, 3) := by decide +kernel
theorem dX6_until_82 : decode cX6_until 82 = .ok (.aload_n 0, 1) := by decide +kernel
theorem dX6_until_83 : decode cX6_until 83 = .ok (.getfield 26, 3) := by decide +kernel
theorem dX6_until_86 : decode cX6_until 86 = .ok (.invokevirtual 156, 3) := by decide +kernel
theorem dX6_until_89 : decode cX6_until 89 = .ok (.ifCond .ne 5, 3) := by decide +kernel
theorem dX6_until_92 : decode cX6_until 92 = .ok (.iconst (-1), 1) := by decide +kernel
theorem dX6_until_93 : decode cX6_until 93 = .ok (.ireturn, 1) := by decide +kernel
theorem dX6_until_94 : decode cX6_until 94 = .ok (.iinc 4 1, 3) := by decide +kernel
theorem dX6_until_97 : decode cX6_until 97 = .ok (.goto (-45), 3) := by decide +kernel
theorem dX6_until_100 : decode cX6_until 100 = .ok (.iconst (-1), 1) := by decide +kernel
theorem dX6_until_101 : decode cX6_until 101 = .ok (.ireturn, 1) := by decide +kernel
theorem dX6_resists_0 : decode cX6_resists 0 = .ok (.iload_n 1, 1) := by decide +kernel
theorem dX6_resists_1 : decode cX6_resists 1 = .ok (.invokestatic 130, 3) := by decide +kernel
theorem dX6_resists_4 : decode cX6_resists 4 = .ok (.ifCond .ne 6, 3) := by decide +kernel
theorem dX6_resists_7 : decode cX6_resists 7 = .ok (.ldc 44, 2) := by decide +kernel
theorem dX6_resists_9 : decode cX6_resists 9 = .ok (.ireturn, 1) := by decide +kernel
theorem dX6_resists_10 : decode cX6_resists 10 = .ok (.aload_n 0, 1) := by decide +kernel
theorem dX6_resists_11 : decode cX6_resists 11 = .ok (.getfield 19, 3) := by decide +kernel
theorem dX6_resists_14 : decode cX6_resists 14 = .ok (.getfield 149, 3) := by decide +kernel
theorem dX6_resists_17 : decode cX6_resists 17 = .ok (.ifCond .ne 6, 3) := by decide +kernel
theorem dX6_resists_20 : decode cX6_resists 20 = .ok (.ldc 64, 2) := by decide +kernel
theorem dX6_resists_22 : decode cX6_resists 22 = .ok (.ireturn, 1) := by decide +kernel
theorem dX6_resists_23 : decode cX6_resists 23 = .ok (.aload_n 0, 1) := by decide +kernel
theorem dX6_resists_24 : decode cX6_resists 24 = .ok (.getfield 19, 3) := by decide +kernel
theorem dX6_resists_27 : decode cX6_resists 27 = .ok (.invokevirtual 139, 3) := by decide +kernel
theorem dX6_resists_30 : decode cX6_resists 30 = .ok (.ldc2_w 202, 3) := by decide +kernel
theorem dX6_resists_33 : decode cX6_resists 33 = .ok (.iload_n 1, 1) := by decide +kernel
theorem dX6_resists_34 : decode cX6_resists 34 = .ok (.invokestatic 124, 3) := by decide +kernel
theorem dX6_resists_37 : decode cX6_resists 37 = .ok (.l2i, 1) := by decide +kernel
theorem dX6_resists_38 : decode cX6_resists 38 = .ok (.ireturn, 1) := by decide +kernel
theorem dX6_swapped_0 : decode cX6_swapped 0 = .ok (.aload_n 0, 1) := by decide +kernel
theorem dX6_swapped_1 : decode cX6_swapped 1 = .ok (.getfield 19, 3) := by decide +kernel
theorem dX6_swapped_4 : decode cX6_swapped 4 = .ok (.iload_n 1, 1) := by decide +kernel
theorem dX6_swapped_5 : decode cX6_swapped 5 = .ok (.invokevirtual 112, 3) := by decide +kernel
theorem dX6_swapped_8 : decode cX6_swapped 8 = .ok (.ifCond .eq 14, 3) := by decide +kernel
theorem dX6_swapped_11 : decode cX6_swapped 11 = .ok (.aload_n 0, 1) := by decide +kernel
theorem dX6_swapped_12 : decode cX6_swapped 12 = .ok (.getfield 19, 3) := by decide +kernel
theorem dX6_swapped_15 : decode cX6_swapped 15 = .ok (.iload_n 2, 1) := by decide +kernel
theorem dX6_swapped_16 : decode cX6_swapped 16 = .ok (.invokevirtual 89, 3) := by decide +kernel
theorem dX6_swapped_19 : decode cX6_swapped 19 = .ok (.ifCond .ne 6, 3) := by decide +kernel
theorem dX6_swapped_22 : decode cX6_swapped 22 = .ok (.ldc 93, 2) := by decide +kernel
theorem dX6_swapped_24 : decode cX6_swapped 24 = .ok (.ireturn, 1) := by decide +kernel
theorem dX6_swapped_25 : decode cX6_swapped 25 = .ok (.iload_n 3, 1) := by decide +kernel
theorem dX6_swapped_26 : decode cX6_swapped 26 = .ok (.invokestatic 130, 3) := by decide +kernel
theorem dX6_swapped_29 : decode cX6_swapped 29 = .ok (.ifCond .ne 6, 3) := by decide +kernel
theorem dX6_swapped_32 : decode cX6_swapped 32 = .ok (.ldc 44, 2) := by decide +kernel
theorem dX6_swapped_34 : decode cX6_swapped 34 = .ok (.ireturn, 1) := by decide +kernel
theorem dX6_swapped_35 : decode cX6_swapped 35 = .ok (.ldc2_w 204, 3) := by decide +kernel
theorem dX6_swapped_38 : decode cX6_swapped 38 = .ok (.aload_n 0, 1) := by decide +kernel
theorem dX6_swapped_39 : decode cX6_swapped 39 = .ok (.getfield 19, 3) := by decide +kernel
theorem dX6_swapped_42 : decode cX6_swapped 42 = .ok (.iload_n 1, 1) := by decide +kernel
theorem dX6_swapped_43 : decode cX6_swapped 43 = .ok (.invokevirtual 206, 3) := by decide +kernel
theorem dX6_swapped_46 : decode cX6_swapped 46 = .ok (.invokestatic 209, 3) := by decide +kernel
theorem dX6_swapped_49 : decode cX6_swapped 49 = .ok (.lmul, 1) := by decide +kernel
theorem dX6_swapped_50 : decode cX6_swapped 50 = .ok (.lstore 4, 2) := by decide +kernel
theorem dX6_swapped_52 : decode cX6_swapped 52 = .ok (.ldc2_w 204, 3) := by decide +kernel
theorem dX6_swapped_55 : decode cX6_swapped 55 = .ok (.aload_n 0, 1) := by decide +kernel
theorem dX6_swapped_56 : decode cX6_swapped 56 = .ok (.getfield 19, 3) := by decide +kernel
theorem dX6_swapped_59 : decode cX6_swapped 59 = .ok (.getfield 94, 3) := by decide +kernel
theorem dX6_swapped_62 : decode cX6_swapped 62 = .ok (.iload_n 2, 1) := by decide +kernel
theorem dX6_swapped_63 : decode cX6_swapped 63 = .ok (.invokestatic 98, 3) := by decide +kernel
theorem dX6_swapped_66 : decode cX6_swapped 66 = .ok (.invokestatic 209, 3) := by decide +kernel
theorem dX6_swapped_69 : decode cX6_swapped 69 = .ok (.lmul, 1) := by decide +kernel
theorem dX6_swapped_70 : decode cX6_swapped 70 = .ok (.lstore 6, 2) := by decide +kernel
theorem dX6_swapped_72 : decode cX6_swapped 72 = .ok (.aload_n 0, 1) := by decide +kernel
theorem dX6_swapped_73 : decode cX6_swapped 73 = .ok (.getfield 19, 3) := by decide +kernel
theorem dX6_swapped_76 : decode cX6_swapped 76 = .ok (.invokevirtual 139, 3) := by decide +kernel
theorem dX6_swapped_79 : decode cX6_swapped 79 = .ok (.lload 4, 2) := by decide +kernel
theorem dX6_swapped_81 : decode cX6_swapped 81 = .ok (.lsub, 1) := by decide +kernel
theorem dX6_swapped_82 : decode cX6_swapped 82 = .ok (.lload 6, 2) := by decide +kernel
theorem dX6_swapped_84 : decode cX6_swapped 84 = .ok (.ladd, 1) := by decide +kernel
theorem dX6_swapped_85 : decode cX6_swapped 85 = .ok (.ldc2_w 202, 3) := by decide +kernel
theorem dX6_swapped_88 : decode cX6_swapped 88 = .ok (.iload_n 3, 1) := by decide +kernel
theorem dX6_swapped_89 : decode cX6_swapped 89 = .ok (.invokestatic 124, 3) := by decide +kernel
theorem dX6_swapped_92 : decode cX6_swapped 92 = .ok (.l2i, 1) := by decide +kernel
theorem dX6_swapped_93 : decode cX6_swapped 93 = .ok (.ireturn, 1) := by decide +kernel
theorem dX6_gain_0 : decode cX6_gain 0 = .ok (.aload_n 0, 1) := by decide +kernel
theorem dX6_gain_1 : decode cX6_gain 1 = .ok (.getfield 19, 3) := by decide +kernel
theorem dX6_gain_4 : decode cX6_gain 4 = .ok (.iload_n 1, 1) := by decide +kernel
theorem dX6_gain_5 : decode cX6_gain 5 = .ok (.invokevirtual 112, 3) := by decide +kernel
theorem dX6_gain_8 : decode cX6_gain 8 = .ok (.ifCond .ne 6, 3) := by decide +kernel
theorem dX6_gain_11 : decode cX6_gain 11 = .ok (.ldc 93, 2) := by decide +kernel
theorem dX6_gain_13 : decode cX6_gain 13 = .ok (.ireturn, 1) := by decide +kernel
theorem dX6_gain_14 : decode cX6_gain 14 = .ok (.aload_n 0, 1) := by decide +kernel
theorem dX6_gain_15 : decode cX6_gain 15 = .ok (.getfield 26, 3) := by decide +kernel
theorem dX6_gain_18 : decode cX6_gain 18 = .ok (.aload_n 0, 1) := by decide +kernel
theorem dX6_gain_19 : decode cX6_gain 19 = .ok (.getfield 19, 3) := by decide +kernel
theorem dX6_gain_22 : decode cX6_gain 22 = .ok (.getfield 72, 3) := by decide +kernel
theorem dX6_gain_25 : decode cX6_gain 25 = .ok (.invokevirtual 200, 3) := by decide +kernel
theorem dX6_gain_28 : decode cX6_gain 28 = .ok (.aload_n 0, 1) := by decide +kernel
theorem dX6_gain_29 : decode cX6_gain 29 = .ok (.getfield 19, 3) := by decide +kernel
theorem dX6_gain_32 : decode cX6_gain 32 = .ok (.aload_n 0, 1) := by decide +kernel
theorem dX6_gain_33 : decode cX6_gain 33 = .ok (.getfield 26, 3) := by decide +kernel
theorem dX6_gain_36 : decode cX6_gain 36 = .ok (.invokevirtual 156, 3) := by decide +kernel
theorem dX6_gain_39 : decode cX6_gain 39 = .ok (.ifCond .ne 6, 3) := by decide +kernel
theorem dX6_gain_42 : decode cX6_gain 42 = .ok (.ldc 64, 2) := by decide +kernel
theorem dX6_gain_44 : decode cX6_gain 44 = .ok (.ireturn, 1) := by decide +kernel
theorem dX6_gain_45 : decode cX6_gain 45 = .ok (.aload_n 0, 1) := by decide +kernel
theorem dX6_gain_46 : decode cX6_gain 46 = .ok (.getfield 26, 3) := by decide +kernel
theorem dX6_gain_49 : decode cX6_gain 49 = .ok (.getfield 115, 3) := by decide +kernel
theorem dX6_gain_52 : decode cX6_gain 52 = .ok (.iload_n 1, 1) := by decide +kernel
theorem dX6_gain_53 : decode cX6_gain 53 = .ok (.invokestatic 98, 3) := by decide +kernel
theorem dX6_gain_56 : decode cX6_gain 56 = .ok (.aload_n 0, 1) := by decide +kernel
theorem dX6_gain_57 : decode cX6_gain 57 = .ok (.getfield 19, 3) := by decide +kernel
theorem dX6_gain_60 : decode cX6_gain 60 = .ok (.getfield 72, 3) := by decide +kernel
theorem dX6_gain_63 : decode cX6_gain 63 = .ok (.getfield 115, 3) := by decide +kernel
theorem dX6_gain_66 : decode cX6_gain 66 = .ok (.iload_n 1, 1) := by decide +kernel
theorem dX6_gain_67 : decode cX6_gain 67 = .ok (.invokestatic 98, 3) := by decide +kernel
theorem dX6_gain_70 : decode cX6_gain 70 = .ok (.isub, 1) := by decide +kernel
theorem dX6_gain_71 : decode cX6_gain 71 = .ok (.ireturn, 1) := by decide +kernel
theorem dX6_page_0 : decode cX6_page 0 = .ok (.aload_n 0, 1) := by decide +kernel
theorem dX6_page_1 : decode cX6_page 1 = .ok (.iload_n 1, 1) := by decide +kernel
theorem dX6_page_2 : decode cX6_page 2 = .ok (.invokevirtual 212, 3) := by decide +kernel
theorem dX6_page_5 : decode cX6_page 5 = .ok (.astore_n 2, 1) := by decide +kernel
theorem dX6_page_6 : decode cX6_page 6 = .ok (.aload_n 2, 1) := by decide +kernel
theorem dX6_page_7 : decode cX6_page 7 = .ok (.ifnonnull 6, 3) := by decide +kernel
theorem dX6_page_10 : decode cX6_page 10 = .ok (.ldc 93, 2) := by decide +kernel
theorem dX6_page_12 : decode cX6_page 12 = .ok (.ireturn, 1) := by decide +kernel
theorem dX6_page_13 : decode cX6_page 13 = .ok (.aload_n 2, 1) := by decide +kernel
theorem dX6_page_14 : decode cX6_page 14 = .ok (.iconst 1, 1) := by decide +kernel
theorem dX6_page_15 : decode cX6_page 15 = .ok (.putfield 216, 3) := by decide +kernel
theorem dX6_page_18 : decode cX6_page 18 = .ok (.aload_n 2, 1) := by decide +kernel
theorem dX6_page_19 : decode cX6_page 19 = .ok (.iconst 0, 1) := by decide +kernel
theorem dX6_page_20 : decode cX6_page 20 = .ok (.putfield 220, 3) := by decide +kernel
theorem dX6_page_23 : decode cX6_page 23 = .ok (.iconst 0, 1) := by decide +kernel
theorem dX6_page_24 : decode cX6_page 24 = .ok (.ireturn, 1) := by decide +kernel
theorem dX6_put_0 : decode cX6_put 0 = .ok (.aload_n 0, 1) := by decide +kernel
theorem dX6_put_1 : decode cX6_put 1 = .ok (.iload_n 1, 1) := by decide +kernel
theorem dX6_put_2 : decode cX6_put 2 = .ok (.invokevirtual 212, 3) := by decide +kernel
theorem dX6_put_5 : decode cX6_put 5 = .ok (.astore 5, 2) := by decide +kernel
theorem dX6_put_7 : decode cX6_put 7 = .ok (.aload 5, 2) := by decide +kernel
theorem dX6_put_9 : decode cX6_put 9 = .ok (.ifnonnull 6, 3) := by decide +kernel
theorem dX6_put_12 : decode cX6_put 12 = .ok (.ldc 93, 2) := by decide +kernel
theorem dX6_put_14 : decode cX6_put 14 = .ok (.ireturn, 1) := by decide +kernel
theorem dX6_put_15 : decode cX6_put 15 = .ok (.iload_n 2, 1) := by decide +kernel
theorem dX6_put_16 : decode cX6_put 16 = .ok (.iload_n 3, 1) := by decide +kernel
theorem dX6_put_17 : decode cX6_put 17 = .ok (.invokestatic 223, 3) := by decide +kernel
theorem dX6_put_20 : decode cX6_put 20 = .ok (.ifCond .eq 19, 3) := by decide +kernel
theorem dX6_put_23 : decode cX6_put 23 = .ok (.iload 4, 2) := by decide +kernel
theorem dX6_put_25 : decode cX6_put 25 = .ok (.sipush (-999), 3) := by decide +kernel
theorem dX6_put_28 : decode cX6_put 28 = .ok (.if_icmp .lt 11, 3) := by decide +kernel
theorem dX6_put_31 : decode cX6_put 31 = .ok (.iload 4, 2) := by decide +kernel
theorem dX6_put_33 : decode cX6_put 33 = .ok (.sipush 999, 3) := by decide +kernel
theorem dX6_put_36 : decode cX6_put 36 = .ok (.if_icmp .le 6, 3) := by decide +kernel
theorem dX6_put_39 : decode cX6_put 39 = .ok (.ldc 44, 2) := by decide +kernel
theorem dX6_put_41 : decode cX6_put 41 = .ok (.ireturn, 1) := by decide +kernel
theorem dX6_put_42 : decode cX6_put 42 = .ok (.aload 5, 2) := by decide +kernel
theorem dX6_put_44 : decode cX6_put 44 = .ok (.getfield 216, 3) := by decide +kernel
theorem dX6_put_47 : decode cX6_put 47 = .ok (.ifCond .ne 6, 3) := by decide +kernel
theorem dX6_put_50 : decode cX6_put 50 = .ok (.ldc 227, 2) := by decide +kernel
theorem dX6_put_52 : decode cX6_put 52 = .ok (.ireturn, 1) := by decide +kernel
theorem dX6_put_53 : decode cX6_put 53 = .ok (.aload 5, 2) := by decide +kernel
theorem dX6_put_55 : decode cX6_put 55 = .ok (.iload_n 2, 1) := by decide +kernel
theorem dX6_put_56 : decode cX6_put 56 = .ok (.iload_n 3, 1) := by decide +kernel
theorem dX6_put_57 : decode cX6_put 57 = .ok (.invokevirtual 228, 3) := by decide +kernel
theorem dX6_put_60 : decode cX6_put 60 = .ok (.istore 6, 2) := by decide +kernel
theorem dX6_put_62 : decode cX6_put 62 = .ok (.iload 6, 2) := by decide +kernel
theorem dX6_put_64 : decode cX6_put 64 = .ok (.iconst (-1), 1) := by decide +kernel
theorem dX6_put_65 : decode cX6_put 65 = .ok (.if_icmp .ne 16, 3) := by decide +kernel
theorem dX6_put_68 : decode cX6_put 68 = .ok (.aload 5, 2) := by decide +kernel
theorem dX6_put_70 : decode cX6_put 70 = .ok (.getfield 220, 3) := by decide +kernel
theorem dX6_put_73 : decode cX6_put 73 = .ok (.bipush 8, 2) := by decide +kernel
theorem dX6_put_75 : decode cX6_put 75 = .ok (.if_icmp .lt 6, 3) := by decide +kernel
theorem dX6_put_78 : decode cX6_put 78 = .ok (.ldc 232, 2) := by decide +kernel
theorem dX6_put_80 : decode cX6_put 80 = .ok (.ireturn, 1) := by decide +kernel
theorem dX6_put_81 : decode cX6_put 81 = .ok (.iload 6, 2) := by decide +kernel
theorem dX6_put_83 : decode cX6_put 83 = .ok (.iconst (-1), 1) := by decide +kernel
theorem dX6_put_84 : decode cX6_put 84 = .ok (.if_icmp .ne 13, 3) := by decide +kernel
theorem dX6_put_87 : decode cX6_put 87 = .ok (.aload 5, 2) := by decide +kernel
theorem dX6_put_89 : decode cX6_put 89 = .ok (.iload_n 2, 1) := by decide +kernel
theorem dX6_put_90 : decode cX6_put 90 = .ok (.iload_n 3, 1) := by decide +kernel
theorem dX6_put_91 : decode cX6_put 91 = .ok (.iload 4, 2) := by decide +kernel
theorem dX6_put_93 : decode cX6_put 93 = .ok (.invokevirtual 233, 3) := by decide +kernel
theorem dX6_put_96 : decode cX6_put 96 = .ok (.ireturn, 1) := by decide +kernel
theorem dX6_put_97 : decode cX6_put 97 = .ok (.aload 5, 2) := by decide +kernel
theorem dX6_put_99 : decode cX6_put 99 = .ok (.getfield 237, 3) := by decide +kernel
theorem dX6_put_102 : decode cX6_put 102 = .ok (.iload 6, 2) := by decide +kernel
theorem dX6_put_104 : decode cX6_put 104 = .ok (.invokestatic 98, 3) := by decide +kernel
theorem dX6_put_107 : decode cX6_put 107 = .ok (.istore 7, 2) := by decide +kernel
theorem dX6_put_109 : decode cX6_put 109 = .ok (.aload 5, 2) := by decide +kernel
theorem dX6_put_111 : decode cX6_put 111 = .ok (.getfield 237, 3) := by decide +kernel
theorem dX6_put_114 : decode cX6_put 114 = .ok (.iload 6, 2) := by decide +kernel
theorem dX6_put_116 : decode cX6_put 116 = .ok (.iload 4, 2) := by decide +kernel
theorem dX6_put_118 : decode cX6_put 118 = .ok (.invokestatic 163, 3) := by decide +kernel
theorem dX6_put_121 : decode cX6_put 121 = .ok (.iload 7, 2) := by decide +kernel
theorem dX6_put_123 : decode cX6_put 123 = .ok (.ireturn, 1) := by decide +kernel
theorem dX6_get_0 : decode cX6_get 0 = .ok (.aload_n 0, 1) := by decide +kernel
theorem dX6_get_1 : decode cX6_get 1 = .ok (.iload_n 1, 1) := by decide +kernel
theorem dX6_get_2 : decode cX6_get 2 = .ok (.invokevirtual 212, 3) := by decide +kernel
theorem dX6_get_5 : decode cX6_get 5 = .ok (.astore 4, 2) := by decide +kernel
theorem dX6_get_7 : decode cX6_get 7 = .ok (.aload 4, 2) := by decide +kernel
theorem dX6_get_9 : decode cX6_get 9 = .ok (.ifnonnull 6, 3) := by decide +kernel
theorem dX6_get_12 : decode cX6_get 12 = .ok (.ldc 93, 2) := by decide +kernel
theorem dX6_get_14 : decode cX6_get 14 = .ok (.ireturn, 1) := by decide +kernel
theorem dX6_get_15 : decode cX6_get 15 = .ok (.iload_n 2, 1) := by decide +kernel
theorem dX6_get_16 : decode cX6_get 16 = .ok (.iload_n 3, 1) := by decide +kernel
theorem dX6_get_17 : decode cX6_get 17 = .ok (.invokestatic 223, 3) := by decide +kernel
theorem dX6_get_20 : decode cX6_get 20 = .ok (.ifCond .ne 6, 3) := by decide +kernel
theorem dX6_get_23 : decode cX6_get 23 = .ok (.ldc 44, 2) := by decide +kernel
theorem dX6_get_25 : decode cX6_get 25 = .ok (.ireturn, 1) := by decide +kernel
theorem dX6_get_26 : decode cX6_get 26 = .ok (.aload 4, 2) := by decide +kernel
theorem dX6_get_28 : decode cX6_get 28 = .ok (.getfield 216, 3) := by decide +kernel
theorem dX6_get_31 : decode cX6_get 31 = .ok (.ifCond .ne 6, 3) := by decide +kernel
theorem dX6_get_34 : decode cX6_get 34 = .ok (.ldc 227, 2) := by decide +kernel
theorem dX6_get_36 : decode cX6_get 36 = .ok (.ireturn, 1) := by decide +kernel
theorem dX6_get_37 : decode cX6_get 37 = .ok (.aload 4, 2) := by decide +kernel
theorem dX6_get_39 : decode cX6_get 39 = .ok (.iload_n 2, 1) := by decide +kernel
theorem dX6_get_40 : decode cX6_get 40 = .ok (.iload_n 3, 1) := by decide +kernel
theorem dX6_get_41 : decode cX6_get 41 = .ok (.invokevirtual 228, 3) := by decide +kernel
theorem dX6_get_44 : decode cX6_get 44 = .ok (.istore 5, 2) := by decide +kernel
theorem dX6_get_46 : decode cX6_get 46 = .ok (.iload 5, 2) := by decide +kernel
theorem dX6_get_48 : decode cX6_get 48 = .ok (.iconst (-1), 1) := by decide +kernel
theorem dX6_get_49 : decode cX6_get 49 = .ok (.if_icmp .ne 8, 3) := by decide +kernel
theorem dX6_get_52 : decode cX6_get 52 = .ok (.ldc 240, 2) := by decide +kernel
theorem dX6_get_54 : decode cX6_get 54 = .ok (.goto 13, 3) := by decide +kernel
theorem dX6_get_57 : decode cX6_get 57 = .ok (.aload 4, 2) := by decide +kernel
theorem dX6_get_59 : decode cX6_get 59 = .ok (.getfield 237, 3) := by decide +kernel
theorem dX6_get_62 : decode cX6_get 62 = .ok (.iload 5, 2) := by decide +kernel
theorem dX6_get_64 : decode cX6_get 64 = .ok (.invokestatic 98, 3) := by decide +kernel
theorem dX6_get_67 : decode cX6_get 67 = .ok (.ireturn, 1) := by decide +kernel
theorem dX6_strike_0 : decode cX6_strike 0 = .ok (.aload_n 0, 1) := by decide +kernel
theorem dX6_strike_1 : decode cX6_strike 1 = .ok (.iload_n 1, 1) := by decide +kernel
theorem dX6_strike_2 : decode cX6_strike 2 = .ok (.invokevirtual 212, 3) := by decide +kernel
theorem dX6_strike_5 : decode cX6_strike 5 = .ok (.astore 4, 2) := by decide +kernel
theorem dX6_strike_7 : decode cX6_strike 7 = .ok (.aload 4, 2) := by decide +kernel
theorem dX6_strike_9 : decode cX6_strike 9 = .ok (.ifnonnull 6, 3) := by decide +kernel
theorem dX6_strike_12 : decode cX6_strike 12 = .ok (.ldc 93, 2) := by decide +kernel
theorem dX6_strike_14 : decode cX6_strike 14 = .ok (.ireturn, 1) := by decide +kernel
theorem dX6_strike_15 : decode cX6_strike 15 = .ok (.iload_n 2, 1) := by decide +kernel
theorem dX6_strike_16 : decode cX6_strike 16 = .ok (.iload_n 3, 1) := by decide +kernel
theorem dX6_strike_17 : decode cX6_strike 17 = .ok (.invokestatic 223, 3) := by decide +kernel
theorem dX6_strike_20 : decode cX6_strike 20 = .ok (.ifCond .ne 6, 3) := by decide +kernel
theorem dX6_strike_23 : decode cX6_strike 23 = .ok (.ldc 44, 2) := by decide +kernel
theorem dX6_strike_25 : decode cX6_strike 25 = .ok (.ireturn, 1) := by decide +kernel
theorem dX6_strike_26 : decode cX6_strike 26 = .ok (.aload 4, 2) := by decide +kernel
theorem dX6_strike_28 : decode cX6_strike 28 = .ok (.getfield 216, 3) := by decide +kernel
theorem dX6_strike_31 : decode cX6_strike 31 = .ok (.ifCond .ne 6, 3) := by decide +kernel
theorem dX6_strike_34 : decode cX6_strike 34 = .ok (.ldc 227, 2) := by decide +kernel
theorem dX6_strike_36 : decode cX6_strike 36 = .ok (.ireturn, 1) := by decide +kernel
theorem dX6_strike_37 : decode cX6_strike 37 = .ok (.aload 4, 2) := by decide +kernel
theorem dX6_strike_39 : decode cX6_strike 39 = .ok (.iload_n 2, 1) := by decide +kernel
theorem dX6_strike_40 : decode cX6_strike 40 = .ok (.iload_n 3, 1) := by decide +kernel
theorem dX6_strike_41 : decode cX6_strike 41 = .ok (.invokevirtual 228, 3) := by decide +kernel
theorem dX6_strike_44 : decode cX6_strike 44 = .ok (.istore 5, 2) := by decide +kernel
theorem dX6_strike_46 : decode cX6_strike 46 = .ok (.iload 5, 2) := by decide +kernel
theorem dX6_strike_48 : decode cX6_strike 48 = .ok (.iconst (-1), 1) := by decide +kernel
theorem dX6_strike_49 : decode cX6_strike 49 = .ok (.if_icmp .ne 8, 3) := by decide +kernel
theorem dX6_strike_52 : decode cX6_strike 52 = .ok (.ldc 240, 2) := by decide +kernel
theorem dX6_strike_54 : decode cX6_strike 54 = .ok (.goto 10, 3) := by decide +kernel
theorem dX6_strike_57 : decode cX6_strike 57 = .ok (.aload 4, 2) := by decide +kernel
theorem dX6_strike_59 : decode cX6_strike 59 = .ok (.iload 5, 2) := by decide +kernel
theorem dX6_strike_61 : decode cX6_strike 61 = .ok (.invokevirtual 241, 3) := by decide +kernel
theorem dX6_strike_64 : decode cX6_strike 64 = .ok (.ireturn, 1) := by decide +kernel
theorem dX6_common_0 : decode cX6_common 0 = .ok (.aload_n 0, 1) := by decide +kernel
theorem dX6_common_1 : decode cX6_common 1 = .ok (.iload_n 1, 1) := by decide +kernel
theorem dX6_common_2 : decode cX6_common 2 = .ok (.invokevirtual 212, 3) := by decide +kernel
theorem dX6_common_5 : decode cX6_common 5 = .ok (.astore_n 3, 1) := by decide +kernel
theorem dX6_common_6 : decode cX6_common 6 = .ok (.aload_n 0, 1) := by decide +kernel
theorem dX6_common_7 : decode cX6_common 7 = .ok (.iload_n 2, 1) := by decide +kernel
theorem dX6_common_8 : decode cX6_common 8 = .ok (.invokevirtual 212, 3) := by decide +kernel
theorem dX6_common_11 : decode cX6_common 11 = .ok (.astore 4, 2) := by decide +kernel
theorem dX6_common_13 : decode cX6_common 13 = .ok (.aload_n 3, 1) := by decide +kernel
theorem dX6_common_14 : decode cX6_common 14 = .ok (.ifnull 8, 3) := by decide +kernel
theorem dX6_common_17 : decode cX6_common 17 = .ok (.aload 4, 2) := by decide +kernel
theorem dX6_common_19 : decode cX6_common 19 = .ok (.ifnonnull 6, 3) := by decide +kernel
theorem dX6_common_22 : decode cX6_common 22 = .ok (.ldc 93, 2) := by decide +kernel
theorem dX6_common_24 : decode cX6_common 24 = .ok (.ireturn, 1) := by decide +kernel
theorem dX6_common_25 : decode cX6_common 25 = .ok (.aload_n 3, 1) := by decide +kernel
theorem dX6_common_26 : decode cX6_common 26 = .ok (.getfield 216, 3) := by decide +kernel
theorem dX6_common_29 : decode cX6_common 29 = .ok (.ifCond .eq 11, 3) := by decide +kernel
theorem dX6_common_32 : decode cX6_common 32 = .ok (.aload 4, 2) := by decide +kernel
theorem dX6_common_34 : decode cX6_common 34 = .ok (.getfield 216, 3) := by decide +kernel
theorem dX6_common_37 : decode cX6_common 37 = .ok (.ifCond .ne 6, 3) := by decide +kernel
theorem dX6_common_40 : decode cX6_common 40 = .ok (.ldc 227, 2) := by decide +kernel
theorem dX6_common_42 : decode cX6_common 42 = .ok (.ireturn, 1) := by decide +kernel
theorem dX6_common_43 : decode cX6_common 43 = .ok (.aload_n 3, 1) := by decide +kernel
theorem dX6_common_44 : decode cX6_common 44 = .ok (.aload 4, 2) := by decide +kernel
theorem dX6_common_46 : decode cX6_common 46 = .ok (.invokevirtual 244, 3) := by decide +kernel
theorem dX6_common_49 : decode cX6_common 49 = .ok (.ireturn, 1) := by decide +kernel
theorem dX6_sum_0 : decode cX6_sum 0 = .ok (.aload_n 0, 1) := by decide +kernel
theorem dX6_sum_1 : decode cX6_sum 1 = .ok (.iload_n 1, 1) := by decide +kernel
theorem dX6_sum_2 : decode cX6_sum 2 = .ok (.invokevirtual 212, 3) := by decide +kernel
theorem dX6_sum_5 : decode cX6_sum 5 = .ok (.astore_n 3, 1) := by decide +kernel
theorem dX6_sum_6 : decode cX6_sum 6 = .ok (.aload_n 3, 1) := by decide +kernel
theorem dX6_sum_7 : decode cX6_sum 7 = .ok (.ifnonnull 6, 3) := by decide +kernel
theorem dX6_sum_10 : decode cX6_sum 10 = .ok (.ldc 93, 2) := by decide +kernel
theorem dX6_sum_12 : decode cX6_sum 12 = .ok (.ireturn, 1) := by decide +kernel
theorem dX6_sum_13 : decode cX6_sum 13 = .ok (.iload_n 2, 1) := by decide +kernel
theorem dX6_sum_14 : decode cX6_sum 14 = .ok (.ifCond .lt 8, 3) := by decide +kernel
theorem dX6_sum_17 : decode cX6_sum 17 = .ok (.iload_n 2, 1) := by decide +kernel
theorem dX6_sum_18 : decode cX6_sum 18 = .ok (.iconst 2, 1) := by decide +kernel
theorem dX6_sum_19 : decode cX6_sum 19 = .ok (.if_icmp .le 6, 3) := by decide +kernel
theorem dX6_sum_22 : decode cX6_sum 22 = .ok (.ldc 44, 2) := by decide +kernel
theorem dX6_sum_24 : decode cX6_sum 24 = .ok (.ireturn, 1) := by decide +kernel
theorem dX6_sum_25 : decode cX6_sum 25 = .ok (.aload_n 3, 1) := by decide +kernel
theorem dX6_sum_26 : decode cX6_sum 26 = .ok (.getfield 216, 3) := by decide +kernel
theorem dX6_sum_29 : decode cX6_sum 29 = .ok (.ifCond .ne 6, 3) := by decide +kernel
theorem dX6_sum_32 : decode cX6_sum 32 = .ok (.ldc 227, 2) := by decide +kernel
theorem dX6_sum_34 : decode cX6_sum 34 = .ok (.ireturn, 1) := by decide +kernel
theorem dX6_sum_35 : decode cX6_sum 35 = .ok (.iload_n 2, 1) := by decide +kernel
theorem dX6_sum_36 : decode cX6_sum 36 = .ok (.iconst 1, 1) := by decide +kernel
theorem dX6_sum_37 : decode cX6_sum 37 = .ok (.if_icmp .ne 8, 3) := by decide +kernel
theorem dX6_sum_40 : decode cX6_sum 40 = .ok (.aload_n 3, 1) := by decide +kernel
theorem dX6_sum_41 : decode cX6_sum 41 = .ok (.getfield 220, 3) := by decide +kernel
theorem dX6_sum_44 : decode cX6_sum 44 = .ok (.ireturn, 1) := by decide +kernel
theorem dX6_sum_45 : decode cX6_sum 45 = .ok (.iload_n 2, 1) := by decide +kernel
theorem dX6_sum_46 : decode cX6_sum 46 = .ok (.ifCond .ne 10, 3) := by decide +kernel
theorem dX6_sum_49 : decode cX6_sum 49 = .ok (.aload_n 3, 1) := by decide +kernel
theorem dX6_sum_50 : decode cX6_sum 50 = .ok (.getfield 237, 3) := by decide +kernel
theorem dX6_sum_53 : decode cX6_sum 53 = .ok (.goto 7, 3) := by decide +kernel
theorem dX6_sum_56 : decode cX6_sum 56 = .ok (.aload_n 3, 1) := by decide +kernel
theorem dX6_sum_57 : decode cX6_sum 57 = .ok (.getfield 248, 3) := by decide +kernel
theorem dX6_sum_60 : decode cX6_sum 60 = .ok (.aload_n 3, 1) := by decide +kernel
theorem dX6_sum_61 : decode cX6_sum 61 = .ok (.getfield 220, 3) := by decide +kernel
theorem dX6_sum_64 : decode cX6_sum 64 = .ok (.invokestatic 251, 3) := by decide +kernel
theorem dX6_sum_67 : decode cX6_sum 67 = .ok (.ireturn, 1) := by decide +kernel
theorem dX6_drop_0 : decode cX6_drop 0 = .ok (.aload_n 0, 1) := by decide +kernel
theorem dX6_drop_1 : decode cX6_drop 1 = .ok (.iload_n 1, 1) := by decide +kernel
theorem dX6_drop_2 : decode cX6_drop 2 = .ok (.invokevirtual 212, 3) := by decide +kernel
theorem dX6_drop_5 : decode cX6_drop 5 = .ok (.astore_n 2, 1) := by decide +kernel
theorem dX6_drop_6 : decode cX6_drop 6 = .ok (.aload_n 2, 1) := by decide +kernel
theorem dX6_drop_7 : decode cX6_drop 7 = .ok (.ifnonnull 6, 3) := by decide +kernel
theorem dX6_drop_10 : decode cX6_drop 10 = .ok (.ldc 93, 2) := by decide +kernel
theorem dX6_drop_12 : decode cX6_drop 12 = .ok (.ireturn, 1) := by decide +kernel
theorem dX6_drop_13 : decode cX6_drop 13 = .ok (.aload_n 2, 1) := by decide +kernel
theorem dX6_drop_14 : decode cX6_drop 14 = .ok (.getfield 216, 3) := by decide +kernel
theorem dX6_drop_17 : decode cX6_drop 17 = .ok (.ifCond .ne 6, 3) := by decide +kernel
theorem dX6_drop_20 : decode cX6_drop 20 = .ok (.ldc 227, 2) := by decide +kernel
theorem dX6_drop_22 : decode cX6_drop 22 = .ok (.ireturn, 1) := by decide +kernel
theorem dX6_drop_23 : decode cX6_drop 23 = .ok (.aload_n 2, 1) := by decide +kernel
theorem dX6_drop_24 : decode cX6_drop 24 = .ok (.getfield 220, 3) := by decide +kernel
theorem dX6_drop_27 : decode cX6_drop 27 = .ok (.istore_n 3, 1) := by decide +kernel
theorem dX6_drop_28 : decode cX6_drop 28 = .ok (.aload_n 0, 1) := by decide +kernel
theorem dX6_drop_29 : decode cX6_drop 29 = .ok (.iload_n 1, 1) := by decide +kernel
theorem dX6_drop_30 : decode cX6_drop 30 = .ok (.invokevirtual 79, 3) := by decide +kernel
theorem dX6_drop_33 : decode cX6_drop 33 = .ok (.iload_n 3, 1) := by decide +kernel
theorem dX6_drop_34 : decode cX6_drop 34 = .ok (.ireturn, 1) := by decide +kernel
theorem dX6_count_0 : decode cX6_count 0 = .ok (.iload_n 1, 1) := by decide +kernel
theorem dX6_count_1 : decode cX6_count 1 = .ok (.tableswitch 237 0 15 #[79, 87, 95, 106, 117, 128, 136, 154, 165, 176, 185, 194, 202, 213, 218, 226], 79) := by decide +kernel
theorem dX6_count_80 : decode cX6_count 80 = .ok (.aload_n 0, 1) := by decide +kernel
theorem dX6_count_81 : decode cX6_count 81 = .ok (.getfield 19, 3) := by decide +kernel
theorem dX6_count_84 : decode cX6_count 84 = .ok (.getfield 254, 3) := by decide +kernel
theorem dX6_count_87 : decode cX6_count 87 = .ok (.ireturn, 1) := by decide +kernel
theorem dX6_count_88 : decode cX6_count 88 = .ok (.aload_n 0, 1) := by decide +kernel
theorem dX6_count_89 : decode cX6_count 89 = .ok (.getfield 19, 3) := by decide +kernel
theorem dX6_count_92 : decode cX6_count 92 = .ok (.getfield 149, 3) := by decide +kernel
theorem dX6_count_95 : decode cX6_count 95 = .ok (.ireturn, 1) := by decide +kernel
theorem dX6_count_96 : decode cX6_count 96 = .ok (.aload_n 0, 1) := by decide +kernel
theorem dX6_count_97 : decode cX6_count 97 = .ok (.getfield 19, 3) := by decide +kernel
theorem dX6_count_100 : decode cX6_count 100 = .ok (.getfield 72, 3) := by decide +kernel
theorem dX6_count_103 : decode cX6_count 103 = .ok (.getfield 146, 3) := by decide +kernel
theorem dX6_count_106 : decode cX6_count 106 = .ok (.ireturn, 1) := by decide +kernel
theorem dX6_count_107 : decode cX6_count 107 = .ok (.aload_n 0, 1) := by decide +kernel
theorem dX6_count_108 : decode cX6_count 108 = .ok (.getfield 19, 3) := by decide +kernel
theorem dX6_count_111 : decode cX6_count 111 = .ok (.getfield 72, 3) := by decide +kernel
theorem dX6_count_114 : decode cX6_count 114 = .ok (.getfield 143, 3) := by decide +kernel
theorem dX6_count_117 : decode cX6_count 117 = .ok (.ireturn, 1) := by decide +kernel
theorem dX6_count_118 : decode cX6_count 118 = .ok (.aload_n 0, 1) := by decide +kernel
theorem dX6_count_119 : decode cX6_count 119 = .ok (.getfield 19, 3) := by decide +kernel
theorem dX6_count_122 : decode cX6_count 122 = .ok (.getfield 72, 3) := by decide +kernel
theorem dX6_count_125 : decode cX6_count 125 = .ok (.getfield 170, 3) := by decide +kernel
theorem dX6_count_128 : decode cX6_count 128 = .ok (.ireturn, 1) := by decide +kernel
theorem dX6_count_129 : decode cX6_count 129 = .ok (.aload_n 0, 1) := by decide +kernel
theorem dX6_count_130 : decode cX6_count 130 = .ok (.getfield 19, 3) := by decide +kernel
theorem dX6_count_133 : decode cX6_count 133 = .ok (.invokevirtual 173, 3) := by decide +kernel
theorem dX6_count_136 : decode cX6_count 136 = .ok (.ireturn, 1) := by decide +kernel
theorem dX6_count_137 : decode cX6_count 137 = .ok (.aload_n 0, 1) := by decide +kernel
theorem dX6_count_138 : decode cX6_count 138 = .ok (.getfield 19, 3) := by decide +kernel
theorem dX6_count_141 : decode cX6_count 141 = .ok (.getfield 72, 3) := by decide +kernel
theorem dX6_count_144 : decode cX6_count 144 = .ok (.aload_n 0, 1) := by decide +kernel
theorem dX6_count_145 : decode cX6_count 145 = .ok (.getfield 19, 3) := by decide +kernel
theorem dX6_count_148 : decode cX6_count 148 = .ok (.getfield 149, 3) := by decide +kernel
theorem dX6_count_151 : decode cX6_count 151 = .ok (.invokevirtual 187, 3) := by decide +kernel
theorem dX6_count_154 : decode cX6_count 154 = .ok (.ireturn, 1) := by decide +kernel
theorem dX6_count_155 : decode cX6_count 155 = .ok (.aload_n 0, 1) := by decide +kernel
theorem dX6_count_156 : decode cX6_count 156 = .ok (.getfield 19, 3) := by decide +kernel
theorem dX6_count_159 : decode cX6_count 159 = .ok (.getfield 72, 3) := by decide +kernel
theorem dX6_count_162 : decode cX6_count 162 = .ok (.getfield 257, 3) := by decide +kernel
theorem dX6_count_165 : decode cX6_count 165 = .ok (.ireturn, 1) := by decide +kernel
theorem dX6_count_166 : decode cX6_count 166 = .ok (.aload_n 0, 1) := by decide +kernel
theorem dX6_count_167 : decode cX6_count 167 = .ok (.getfield 19, 3) := by decide +kernel
theorem dX6_count_170 : decode cX6_count 170 = .ok (.getfield 72, 3) := by decide +kernel
theorem dX6_count_173 : decode cX6_count 173 = .ok (.getfield 260, 3) := by decide +kernel
theorem dX6_count_176 : decode cX6_count 176 = .ok (.ireturn, 1) := by decide +kernel
theorem dX6_count_177 : decode cX6_count 177 = .ok (.aload_n 0, 1) := by decide +kernel
theorem dX6_count_178 : decode cX6_count 178 = .ok (.getfield 19, 3) := by decide +kernel
theorem dX6_count_181 : decode cX6_count 181 = .ok (.iconst 1, 1) := by decide +kernel
theorem dX6_count_182 : decode cX6_count 182 = .ok (.invokevirtual 263, 3) := by decide +kernel
theorem dX6_count_185 : decode cX6_count 185 = .ok (.ireturn, 1) := by decide +kernel
theorem dX6_count_186 : decode cX6_count 186 = .ok (.aload_n 0, 1) := by decide +kernel
theorem dX6_count_187 : decode cX6_count 187 = .ok (.getfield 19, 3) := by decide +kernel
theorem dX6_count_190 : decode cX6_count 190 = .ok (.iconst (-1), 1) := by decide +kernel
theorem dX6_count_191 : decode cX6_count 191 = .ok (.invokevirtual 263, 3) := by decide +kernel
theorem dX6_count_194 : decode cX6_count 194 = .ok (.ireturn, 1) := by decide +kernel
theorem dX6_count_195 : decode cX6_count 195 = .ok (.aload_n 0, 1) := by decide +kernel
theorem dX6_count_196 : decode cX6_count 196 = .ok (.getfield 19, 3) := by decide +kernel
theorem dX6_count_199 : decode cX6_count 199 = .ok (.invokevirtual 266, 3) := by decide +kernel
theorem dX6_count_202 : decode cX6_count 202 = .ok (.ireturn, 1) := by decide +kernel
theorem dX6_count_203 : decode cX6_count 203 = .ok (.aload_n 0, 1) := by decide +kernel
theorem dX6_count_204 : decode cX6_count 204 = .ok (.getfield 19, 3) := by decide +kernel
theorem dX6_count_207 : decode cX6_count 207 = .ok (.getfield 72, 3) := by decide +kernel
theorem dX6_count_210 : decode cX6_count 210 = .ok (.getfield 269, 3) := by decide +kernel
theorem dX6_count_213 : decode cX6_count 213 = .ok (.ireturn, 1) := by decide +kernel
theorem dX6_count_214 : decode cX6_count 214 = .ok (.aload_n 0, 1) := by decide +kernel
theorem dX6_count_215 : decode cX6_count 215 = .ok (.invokevirtual 272, 3) := by decide +kernel
theorem dX6_count_218 : decode cX6_count 218 = .ok (.ireturn, 1) := by decide +kernel
theorem dX6_count_219 : decode cX6_count 219 = .ok (.aload_n 0, 1) := by decide +kernel
theorem dX6_count_220 : decode cX6_count 220 = .ok (.getfield 33, 3) := by decide +kernel
theorem dX6_count_223 : decode cX6_count 223 = .ok (.getfield 177, 3) := by decide +kernel
theorem dX6_count_226 : decode cX6_count 226 = .ok (.ireturn, 1) := by decide +kernel
theorem dX6_count_227 : decode cX6_count 227 = .ok (.aload_n 0, 1) := by decide +kernel
theorem dX6_count_228 : decode cX6_count 228 = .ok (.getfield 10, 3) := by decide +kernel
theorem dX6_count_231 : decode cX6_count 231 = .ok (.getfield 45, 3) := by decide +kernel
theorem dX6_count_234 : decode cX6_count 234 = .ok (.getfield 49, 3) := by decide +kernel
theorem dX6_count_237 : decode cX6_count 237 = .ok (.ireturn, 1) := by decide +kernel
theorem dX6_count_238 : decode cX6_count 238 = .ok (.ldc 44, 2) := by decide +kernel
theorem dX6_count_240 : decode cX6_count 240 = .ok (.ireturn, 1) := by decide +kernel
theorem dX6_bookAt_0 : decode cX6_bookAt 0 = .ok (.iload_n 1, 1) := by decide +kernel
theorem dX6_bookAt_1 : decode cX6_bookAt 1 = .ok (.ifCond .lt 21, 3) := by decide +kernel
theorem dX6_bookAt_4 : decode cX6_bookAt 4 = .ok (.iload_n 1, 1) := by decide +kernel
theorem dX6_bookAt_5 : decode cX6_bookAt 5 = .ok (.aload_n 0, 1) := by decide +kernel
theorem dX6_bookAt_6 : decode cX6_bookAt 6 = .ok (.getfield 39, 3) := by decide +kernel
theorem dX6_bookAt_9 : decode cX6_bookAt 9 = .ok (.arraylength, 1) := by decide +kernel
theorem dX6_bookAt_10 : decode cX6_bookAt 10 = .ok (.if_icmp .ge 12, 3) := by decide +kernel
theorem dX6_bookAt_13 : decode cX6_bookAt 13 = .ok (.aload_n 0, 1) := by decide +kernel
theorem dX6_bookAt_14 : decode cX6_bookAt 14 = .ok (.getfield 39, 3) := by decide +kernel
theorem dX6_bookAt_17 : decode cX6_bookAt 17 = .ok (.iload_n 1, 1) := by decide +kernel
theorem dX6_bookAt_18 : decode cX6_bookAt 18 = .ok (.aaload, 1) := by decide +kernel
theorem dX6_bookAt_19 : decode cX6_bookAt 19 = .ok (.goto 4, 3) := by decide +kernel
theorem dX6_bookAt_22 : decode cX6_bookAt 22 = .ok (.aconst_null, 1) := by decide +kernel
theorem dX6_bookAt_23 : decode cX6_bookAt 23 = .ok (.areturn, 1) := by decide +kernel
theorem dX6_missPage_0 : decode cX6_missPage 0 = .ok (.aload_n 0, 1) := by decide +kernel
theorem dX6_missPage_1 : decode cX6_missPage 1 = .ok (.iload_n 1, 1) := by decide +kernel
theorem dX6_missPage_2 : decode cX6_missPage 2 = .ok (.invokevirtual 212, 3) := by decide +kernel
theorem dX6_missPage_5 : decode cX6_missPage 5 = .ok (.astore_n 2, 1) := by decide +kernel
theorem dX6_missPage_6 : decode cX6_missPage 6 = .ok (.aload_n 2, 1) := by decide +kernel
theorem dX6_missPage_7 : decode cX6_missPage 7 = .ok (.ifnonnull 4, 3) := by decide +kernel
theorem dX6_missPage_10 : decode cX6_missPage 10 = .ok (.return_, 1) := by decide +kernel
theorem dX6_missPage_11 : decode cX6_missPage 11 = .ok (.aload_n 2, 1) := by decide +kernel
theorem dX6_missPage_12 : decode cX6_missPage 12 = .ok (.iconst 0, 1) := by decide +kernel
theorem dX6_missPage_13 : decode cX6_missPage 13 = .ok (.putfield 216, 3) := by decide +kernel
theorem dX6_missPage_16 : decode cX6_missPage 16 = .ok (.aload_n 2, 1) := by decide +kernel
theorem dX6_missPage_17 : decode cX6_missPage 17 = .ok (.iconst 0, 1) := by decide +kernel
theorem dX6_missPage_18 : decode cX6_missPage 18 = .ok (.putfield 220, 3) := by decide +kernel
theorem dX6_missPage_21 : decode cX6_missPage 21 = .ok (.return_, 1) := by decide +kernel
theorem dX6_keysOfAllPages_0 : decode cX6_keysOfAllPages 0 = .ok (.iconst 0, 1) := by decide +kernel
theorem dX6_keysOfAllPages_1 : decode cX6_keysOfAllPages 1 = .ok (.istore_n 1, 1) := by decide +kernel
theorem dX6_keysOfAllPages_2 : decode cX6_keysOfAllPages 2 = .ok (.iconst 0, 1) := by decide +kernel
theorem dX6_keysOfAllPages_3 : decode cX6_keysOfAllPages 3 = .ok (.istore_n 2, 1) := by decide +kernel
theorem dX6_keysOfAllPages_4 : decode cX6_keysOfAllPages 4 = .ok (.iload_n 2, 1) := by decide +kernel
theorem dX6_keysOfAllPages_5 : decode cX6_keysOfAllPages 5 = .ok (.iconst 3, 1) := by decide +kernel
theorem dX6_keysOfAllPages_6 : decode cX6_keysOfAllPages 6 = .ok (.if_icmp .ge 26, 3) := by decide +kernel
theorem dX6_keysOfAllPages_9 : decode cX6_keysOfAllPages 9 = .ok (.aload_n 0, 1) := by decide +kernel
theorem dX6_keysOfAllPages_10 : decode cX6_keysOfAllPages 10 = .ok (.iload_n 2, 1) := by decide +kernel
theorem dX6_keysOfAllPages_11 : decode cX6_keysOfAllPages 11 = .ok (.invokevirtual 212, 3) := by decide +kernel
theorem dX6_keysOfAllPages_14 : decode cX6_keysOfAllPages 14 = .ok (.astore_n 3, 1) := by decide +kernel
theorem dX6_keysOfAllPages_15 : decode cX6_keysOfAllPages 15 = .ok (.aload_n 3, 1) := by decide +kernel
theorem dX6_keysOfAllPages_16 : decode cX6_keysOfAllPages 16 = .ok (.ifnull 10, 3) := by decide +kernel
theorem dX6_keysOfAllPages_19 : decode cX6_keysOfAllPages 19 = .ok (.iload_n 1, 1) := by decide +kernel
theorem dX6_keysOfAllPages_20 : decode cX6_keysOfAllPages 20 = .ok (.aload_n 3, 1) := by decide +kernel
theorem dX6_keysOfAllPages_21 : decode cX6_keysOfAllPages 21 = .ok (.getfield 220, 3) := by decide +kernel
theorem dX6_keysOfAllPages_24 : decode cX6_keysOfAllPages 24 = .ok (.iadd, 1) := by decide +kernel
theorem dX6_keysOfAllPages_25 : decode cX6_keysOfAllPages 25 = .ok (.istore_n 1, 1) := by decide +kernel
theorem dX6_keysOfAllPages_26 : decode cX6_keysOfAllPages 26 = .ok (.iinc 2 1, 3) := by decide +kernel
theorem dX6_keysOfAllPages_29 : decode cX6_keysOfAllPages 29 = .ok (.goto (-25), 3) := by decide +kernel
theorem dX6_keysOfAllPages_32 : decode cX6_keysOfAllPages 32 = .ok (.iload_n 1, 1) := by decide +kernel
theorem dX6_keysOfAllPages_33 : decode cX6_keysOfAllPages 33 = .ok (.ireturn, 1) := by decide +kernel
theorem dX6_isPart_0 : decode cX6_isPart 0 = .ok (.iload_n 0, 1) := by decide +kernel
theorem dX6_isPart_1 : decode cX6_isPart 1 = .ok (.ifCond .eq 8, 3) := by decide +kernel
theorem dX6_isPart_4 : decode cX6_isPart 4 = .ok (.iload_n 0, 1) := by decide +kernel
theorem dX6_isPart_5 : decode cX6_isPart 5 = .ok (.iconst 1, 1) := by decide +kernel
theorem dX6_isPart_6 : decode cX6_isPart 6 = .ok (.if_icmp .ne 7, 3) := by decide +kernel
theorem dX6_isPart_9 : decode cX6_isPart 9 = .ok (.iconst 1, 1) := by decide +kernel
theorem dX6_isPart_10 : decode cX6_isPart 10 = .ok (.goto 4, 3) := by decide +kernel
theorem dX6_isPart_13 : decode cX6_isPart 13 = .ok (.iconst 0, 1) := by decide +kernel
theorem dX6_isPart_14 : decode cX6_isPart 14 = .ok (.ireturn, 1) := by decide +kernel
theorem dX6_isHeat_0 : decode cX6_isHeat 0 = .ok (.iload_n 0, 1) := by decide +kernel
theorem dX6_isHeat_1 : decode cX6_isHeat 1 = .ok (.ifCond .lt 14, 3) := by decide +kernel
theorem dX6_isHeat_4 : decode cX6_isHeat 4 = .ok (.iload_n 0, 1) := by decide +kernel
theorem dX6_isHeat_5 : decode cX6_isHeat 5 = .ok (.sipush 20000, 3) := by decide +kernel
theorem dX6_isHeat_8 : decode cX6_isHeat 8 = .ok (.if_icmp .gt 7, 3) := by decide +kernel
theorem dX6_isHeat_11 : decode cX6_isHeat 11 = .ok (.iconst 1, 1) := by decide +kernel
theorem dX6_isHeat_12 : decode cX6_isHeat 12 = .ok (.goto 4, 3) := by decide +kernel
theorem dX6_isHeat_15 : decode cX6_isHeat 15 = .ok (.iconst 0, 1) := by decide +kernel
theorem dX6_isHeat_16 : decode cX6_isHeat 16 = .ok (.ireturn, 1) := by decide +kernel
theorem dX6_isDegrees_0 : decode cX6_isDegrees 0 = .ok (.iload_n 0, 1) := by decide +kernel
theorem dX6_isDegrees_1 : decode cX6_isDegrees 1 = .ok (.ifCond .lt 14, 3) := by decide +kernel
theorem dX6_isDegrees_4 : decode cX6_isDegrees 4 = .ok (.iload_n 0, 1) := by decide +kernel
theorem dX6_isDegrees_5 : decode cX6_isDegrees 5 = .ok (.sipush 999, 3) := by decide +kernel
theorem dX6_isDegrees_8 : decode cX6_isDegrees 8 = .ok (.if_icmp .gt 7, 3) := by decide +kernel
theorem dX6_isDegrees_11 : decode cX6_isDegrees 11 = .ok (.iconst 1, 1) := by decide +kernel
theorem dX6_isDegrees_12 : decode cX6_isDegrees 12 = .ok (.goto 4, 3) := by decide +kernel
theorem dX6_isDegrees_15 : decode cX6_isDegrees 15 = .ok (.iconst 0, 1) := by decide +kernel
theorem dX6_isDegrees_16 : decode cX6_isDegrees 16 = .ok (.ireturn, 1) := by decide +kernel
theorem dX6_isKey_0 : decode cX6_isKey 0 = .ok (.iload_n 0, 1) := by decide +kernel
theorem dX6_isKey_1 : decode cX6_isKey 1 = .ok (.ifCond .lt 25, 3) := by decide +kernel
theorem dX6_isKey_4 : decode cX6_isKey 4 = .ok (.iload_n 0, 1) := by decide +kernel
theorem dX6_isKey_5 : decode cX6_isKey 5 = .ok (.bipush 25, 2) := by decide +kernel
theorem dX6_isKey_7 : decode cX6_isKey 7 = .ok (.if_icmp .gt 19, 3) := by decide +kernel
theorem dX6_isKey_10 : decode cX6_isKey 10 = .ok (.iload_n 1, 1) := by decide +kernel
theorem dX6_isKey_11 : decode cX6_isKey 11 = .ok (.bipush (-99), 2) := by decide +kernel
theorem dX6_isKey_13 : decode cX6_isKey 13 = .ok (.if_icmp .lt 13, 3) := by decide +kernel
theorem dX6_isKey_16 : decode cX6_isKey 16 = .ok (.iload_n 1, 1) := by decide +kernel
theorem dX6_isKey_17 : decode cX6_isKey 17 = .ok (.bipush 99, 2) := by decide +kernel
theorem dX6_isKey_19 : decode cX6_isKey 19 = .ok (.if_icmp .gt 7, 3) := by decide +kernel
theorem dX6_isKey_22 : decode cX6_isKey 22 = .ok (.iconst 1, 1) := by decide +kernel
theorem dX6_isKey_23 : decode cX6_isKey 23 = .ok (.goto 4, 3) := by decide +kernel
theorem dX6_isKey_26 : decode cX6_isKey 26 = .ok (.iconst 0, 1) := by decide +kernel
theorem dX6_isKey_27 : decode cX6_isKey 27 = .ok (.ireturn, 1) := by decide +kernel
theorem dX6_at_0 : decode cX6_at 0 = .ok (.aload_n 0, 1) := by decide +kernel
theorem dX6_at_1 : decode cX6_at 1 = .ok (.ifnull 19, 3) := by decide +kernel
theorem dX6_at_4 : decode cX6_at 4 = .ok (.iload_n 1, 1) := by decide +kernel
theorem dX6_at_5 : decode cX6_at 5 = .ok (.ifCond .lt 15, 3) := by decide +kernel
theorem dX6_at_8 : decode cX6_at 8 = .ok (.iload_n 1, 1) := by decide +kernel
theorem dX6_at_9 : decode cX6_at 9 = .ok (.aload_n 0, 1) := by decide +kernel
theorem dX6_at_10 : decode cX6_at 10 = .ok (.arraylength, 1) := by decide +kernel
theorem dX6_at_11 : decode cX6_at 11 = .ok (.if_icmp .ge 9, 3) := by decide +kernel
theorem dX6_at_14 : decode cX6_at 14 = .ok (.aload_n 0, 1) := by decide +kernel
theorem dX6_at_15 : decode cX6_at 15 = .ok (.iload_n 1, 1) := by decide +kernel
theorem dX6_at_16 : decode cX6_at 16 = .ok (.iaload, 1) := by decide +kernel
theorem dX6_at_17 : decode cX6_at 17 = .ok (.goto 4, 3) := by decide +kernel
theorem dX6_at_20 : decode cX6_at 20 = .ok (.iconst 0, 1) := by decide +kernel
theorem dX6_at_21 : decode cX6_at 21 = .ok (.ireturn, 1) := by decide +kernel
theorem dX6_set_0 : decode cX6_set 0 = .ok (.aload_n 0, 1) := by decide +kernel
theorem dX6_set_1 : decode cX6_set 1 = .ok (.ifnull 17, 3) := by decide +kernel
theorem dX6_set_4 : decode cX6_set 4 = .ok (.iload_n 1, 1) := by decide +kernel
theorem dX6_set_5 : decode cX6_set 5 = .ok (.ifCond .lt 13, 3) := by decide +kernel
theorem dX6_set_8 : decode cX6_set 8 = .ok (.iload_n 1, 1) := by decide +kernel
theorem dX6_set_9 : decode cX6_set 9 = .ok (.aload_n 0, 1) := by decide +kernel
theorem dX6_set_10 : decode cX6_set 10 = .ok (.arraylength, 1) := by decide +kernel
theorem dX6_set_11 : decode cX6_set 11 = .ok (.if_icmp .ge 7, 3) := by decide +kernel
theorem dX6_set_14 : decode cX6_set 14 = .ok (.aload_n 0, 1) := by decide +kernel
theorem dX6_set_15 : decode cX6_set 15 = .ok (.iload_n 1, 1) := by decide +kernel
theorem dX6_set_16 : decode cX6_set 16 = .ok (.iload_n 2, 1) := by decide +kernel
theorem dX6_set_17 : decode cX6_set 17 = .ok (.iastore, 1) := by decide +kernel
theorem dX6_set_18 : decode cX6_set 18 = .ok (.return_, 1) := by decide +kernel
theorem dX6_copyRow_0 : decode cX6_copyRow 0 = .ok (.iconst 0, 1) := by decide +kernel
theorem dX6_copyRow_1 : decode cX6_copyRow 1 = .ok (.istore_n 2, 1) := by decide +kernel
theorem dX6_copyRow_2 : decode cX6_copyRow 2 = .ok (.aload_n 1, 1) := by decide +kernel
theorem dX6_copyRow_3 : decode cX6_copyRow 3 = .ok (.ifnull 23, 3) := by decide +kernel
theorem dX6_copyRow_6 : decode cX6_copyRow 6 = .ok (.iload_n 2, 1) := by decide +kernel
theorem dX6_copyRow_7 : decode cX6_copyRow 7 = .ok (.aload_n 1, 1) := by decide +kernel
theorem dX6_copyRow_8 : decode cX6_copyRow 8 = .ok (.arraylength, 1) := by decide +kernel
theorem dX6_copyRow_9 : decode cX6_copyRow 9 = .ok (.if_icmp .ge 17, 3) := by decide +kernel
theorem dX6_copyRow_12 : decode cX6_copyRow 12 = .ok (.aload_n 1, 1) := by decide +kernel
theorem dX6_copyRow_13 : decode cX6_copyRow 13 = .ok (.iload_n 2, 1) := by decide +kernel
theorem dX6_copyRow_14 : decode cX6_copyRow 14 = .ok (.aload_n 0, 1) := by decide +kernel
theorem dX6_copyRow_15 : decode cX6_copyRow 15 = .ok (.iload_n 2, 1) := by decide +kernel
theorem dX6_copyRow_16 : decode cX6_copyRow 16 = .ok (.invokestatic 98, 3) := by decide +kernel
theorem dX6_copyRow_19 : decode cX6_copyRow 19 = .ok (.iastore, 1) := by decide +kernel
theorem dX6_copyRow_20 : decode cX6_copyRow 20 = .ok (.iinc 2 1, 3) := by decide +kernel
theorem dX6_copyRow_23 : decode cX6_copyRow 23 = .ok (.goto (-21), 3) := by decide +kernel
theorem dX6_copyRow_26 : decode cX6_copyRow 26 = .ok (.return_, 1) := by decide +kernel
theorem dX6_total_0 : decode cX6_total 0 = .ok (.iconst 0, 1) := by decide +kernel
theorem dX6_total_1 : decode cX6_total 1 = .ok (.istore_n 2, 1) := by decide +kernel
theorem dX6_total_2 : decode cX6_total 2 = .ok (.iconst 0, 1) := by decide +kernel
theorem dX6_total_3 : decode cX6_total 3 = .ok (.istore_n 3, 1) := by decide +kernel
theorem dX6_total_4 : decode cX6_total 4 = .ok (.iload_n 3, 1) := by decide +kernel
theorem dX6_total_5 : decode cX6_total 5 = .ok (.iload_n 1, 1) := by decide +kernel
theorem dX6_total_6 : decode cX6_total 6 = .ok (.if_icmp .ge 17, 3) := by decide +kernel
theorem dX6_total_9 : decode cX6_total 9 = .ok (.iload_n 2, 1) := by decide +kernel
theorem dX6_total_10 : decode cX6_total 10 = .ok (.aload_n 0, 1) := by decide +kernel
theorem dX6_total_11 : decode cX6_total 11 = .ok (.iload_n 3, 1) := by decide +kernel
theorem dX6_total_12 : decode cX6_total 12 = .ok (.invokestatic 98, 3) := by decide +kernel
theorem dX6_total_15 : decode cX6_total 15 = .ok (.iadd, 1) := by decide +kernel
theorem dX6_total_16 : decode cX6_total 16 = .ok (.istore_n 2, 1) := by decide +kernel
theorem dX6_total_17 : decode cX6_total 17 = .ok (.iinc 3 1, 3) := by decide +kernel
theorem dX6_total_20 : decode cX6_total 20 = .ok (.goto (-16), 3) := by decide +kernel
theorem dX6_total_23 : decode cX6_total 23 = .ok (.iload_n 2, 1) := by decide +kernel
theorem dX6_total_24 : decode cX6_total 24 = .ok (.ireturn, 1) := by decide +kernel
theorem dX6_cut_0 : decode cX6_cut 0 = .ok (.lload_n 2, 1) := by decide +kernel
theorem dX6_cut_1 : decode cX6_cut 1 = .ok (.lconst 0, 1) := by decide +kernel
theorem dX6_cut_2 : decode cX6_cut 2 = .ok (.lcmp, 1) := by decide +kernel
theorem dX6_cut_3 : decode cX6_cut 3 = .ok (.ifCond .ne 7, 3) := by decide +kernel
theorem dX6_cut_6 : decode cX6_cut 6 = .ok (.lconst 0, 1) := by decide +kernel
theorem dX6_cut_7 : decode cX6_cut 7 = .ok (.goto 6, 3) := by decide +kernel
theorem dX6_cut_10 : decode cX6_cut 10 = .ok (.lload_n 0, 1) := by decide +kernel
theorem dX6_cut_11 : decode cX6_cut 11 = .ok (.lload_n 2, 1) := by decide +kernel
theorem dX6_cut_12 : decode cX6_cut 12 = .ok (.ldiv, 1) := by decide +kernel
theorem dX6_cut_13 : decode cX6_cut 13 = .ok (.lreturn, 1) := by decide +kernel
theorem dX6_lowest_0 : decode cX6_lowest 0 = .ok (.iload 4, 2) := by decide +kernel
theorem dX6_lowest_2 : decode cX6_lowest 2 = .ok (.ifCond .ne 7, 3) := by decide +kernel
theorem dX6_lowest_5 : decode cX6_lowest 5 = .ok (.lload_n 0, 1) := by decide +kernel
theorem dX6_lowest_6 : decode cX6_lowest 6 = .ok (.goto 4, 3) := by decide +kernel
theorem dX6_lowest_9 : decode cX6_lowest 9 = .ok (.lload_n 2, 1) := by decide +kernel
theorem dX6_lowest_10 : decode cX6_lowest 10 = .ok (.lload_n 0, 1) := by decide +kernel
theorem dX6_lowest_11 : decode cX6_lowest 11 = .ok (.invokestatic 275, 3) := by decide +kernel
theorem dX6_lowest_14 : decode cX6_lowest 14 = .ok (.lload_n 2, 1) := by decide +kernel
theorem dX6_lowest_15 : decode cX6_lowest 15 = .ok (.invokestatic 281, 3) := by decide +kernel
theorem dX6_lowest_18 : decode cX6_lowest 18 = .ok (.invokestatic 285, 3) := by decide +kernel
theorem dX6_lowest_21 : decode cX6_lowest 21 = .ok (.lreturn, 1) := by decide +kernel
theorem dX6_commonDivisor_0 : decode cX6_commonDivisor 0 = .ok (.lload_n 0, 1) := by decide +kernel
theorem dX6_commonDivisor_1 : decode cX6_commonDivisor 1 = .ok (.lstore 4, 2) := by decide +kernel
theorem dX6_commonDivisor_3 : decode cX6_commonDivisor 3 = .ok (.lload_n 2, 1) := by decide +kernel
theorem dX6_commonDivisor_4 : decode cX6_commonDivisor 4 = .ok (.lstore 6, 2) := by decide +kernel
theorem dX6_commonDivisor_6 : decode cX6_commonDivisor 6 = .ok (.iconst 0, 1) := by decide +kernel
theorem dX6_commonDivisor_7 : decode cX6_commonDivisor 7 = .ok (.istore 8, 2) := by decide +kernel
theorem dX6_commonDivisor_9 : decode cX6_commonDivisor 9 = .ok (.iload 8, 2) := by decide +kernel
theorem dX6_commonDivisor_11 : decode cX6_commonDivisor 11 = .ok (.sipush 200, 3) := by decide +kernel
theorem dX6_commonDivisor_14 : decode cX6_commonDivisor 14 = .ok (.if_icmp .ge 31, 3) := by decide +kernel
theorem dX6_commonDivisor_17 : decode cX6_commonDivisor 17 = .ok (.lload 6, 2) := by decide +kernel
theorem dX6_commonDivisor_19 : decode cX6_commonDivisor 19 = .ok (.lconst 0, 1) := by decide +kernel
theorem dX6_commonDivisor_20 : decode cX6_commonDivisor 20 = .ok (.lcmp, 1) := by decide +kernel
theorem dX6_commonDivisor_21 : decode cX6_commonDivisor 21 = .ok (.ifCond .eq 24, 3) := by decide +kernel
theorem dX6_commonDivisor_24 : decode cX6_commonDivisor 24 = .ok (.lload 4, 2) := by decide +kernel
theorem dX6_commonDivisor_26 : decode cX6_commonDivisor 26 = .ok (.lload 6, 2) := by decide +kernel
theorem dX6_commonDivisor_28 : decode cX6_commonDivisor 28 = .ok (.lrem, 1) := by decide +kernel
theorem dX6_commonDivisor_29 : decode cX6_commonDivisor 29 = .ok (.lstore 9, 2) := by decide +kernel
theorem dX6_commonDivisor_31 : decode cX6_commonDivisor 31 = .ok (.lload 6, 2) := by decide +kernel
theorem dX6_commonDivisor_33 : decode cX6_commonDivisor 33 = .ok (.lstore 4, 2) := by decide +kernel
theorem dX6_commonDivisor_35 : decode cX6_commonDivisor 35 = .ok (.lload 9, 2) := by decide +kernel
theorem dX6_commonDivisor_37 : decode cX6_commonDivisor 37 = .ok (.lstore 6, 2) := by decide +kernel
theorem dX6_commonDivisor_39 : decode cX6_commonDivisor 39 = .ok (.iinc 8 1, 3) := by decide +kernel
theorem dX6_commonDivisor_42 : decode cX6_commonDivisor 42 = .ok (.goto (-33), 3) := by decide +kernel
theorem dX6_commonDivisor_45 : decode cX6_commonDivisor 45 = .ok (.lload 4, 2) := by decide +kernel
theorem dX6_commonDivisor_47 : decode cX6_commonDivisor 47 = .ok (.lreturn, 1) := by decide +kernel
theorem dX6_halfResists_0 : decode cX6_halfResists 0 = .ok (.ldc2_w 288, 3) := by decide +kernel
theorem dX6_halfResists_3 : decode cX6_halfResists 3 = .ok (.iload_n 0, 1) := by decide +kernel
theorem dX6_halfResists_4 : decode cX6_halfResists 4 = .ok (.i2l, 1) := by decide +kernel
theorem dX6_halfResists_5 : decode cX6_halfResists 5 = .ok (.invokestatic 285, 3) := by decide +kernel
theorem dX6_halfResists_8 : decode cX6_halfResists 8 = .ok (.lreturn, 1) := by decide +kernel
abbrev vwCl : List vw_C := [(RX0, TX0, 5), (RX1, TX1, 5), (RX2, TX2, 3), (RX3, TX3, 5), (RX4, TX4, 9), (RX5, TX5, 7), (RX6, TX6, 5), (RX7, TX7, 27)]
end
section
/-! THE LIGHT LOGIC. A frame of a method, the whole world of both objects in one list of 79 cells (ids 0 .. 78, addresses by a map), the numbers in them as ea_M: id, place, value. -/
abbrev ea_M : Type := Nat → Nat → Int32
abbrev ea_G : Type := va_G × (Nat → ClassId) × (Nat → Nat) × (Nat → Nat)
def ea_tr (g : ea_G) : Value → Value := fun v => match v with
  | .ref a => .ref (g.2.2.1 a)
  | v => v
/-- what a cell is: 0 .. 7 the class's number, 1000 + n a row of n ints, 2000 + n of booleans, 3000 + n of books, 4000 + n of warmths -/
def ea_kL : List Nat := [6, 2, 3, 1200,
  4, 1042, 1006, 1006, 1006, 1010, 1011, 5, 1010,
  4, 1042, 1006, 1006, 1006, 1010, 1011, 5, 1010,
  5, 1010,
  1, 4008, 4002, 1002, 5, 1010, 5, 1010, 5, 1010, 5, 1010, 5, 1010, 5, 1010, 5, 1010, 5, 1010, 5, 1010, 5, 1010,
  3003, 0, 1008, 1008, 1008, 0, 1008, 1008, 1008, 0, 1008, 1008, 1008,
  7, 1192, 1006, 1006, 1042, 1006, 1010, 2002, 1200, 1003, 1024, 1024, 1024, 1042, 1006, 1003, 1025, 1011]
def ea_kd (x : Nat) : Nat := ea_kL.getD x 9999
def ea_fl (ci x : Nat) (r : Nat → Int32) : List Value := match ci with
  | 0 => [.int (r 0), .int (r 1), .ref (x + 1), .ref (x + 2), .ref (x + 3)]
  | 1 => [.ref (x + 1), .ref (x + 2), .ref (x + 3), .int (r 3), .int (r 4)]
  | 2 => [.ref (x + 1), .ref (x + 3), .int (r 2)]
  | 3 => [.ref (x + 1), .int (r 1), .int (r 2), .int (r 3), .int (r 4)]
  | 4 => [.int (r 0), .ref (x + 1), .ref (x + 2), .ref (x + 3), .ref (x + 4), .int (r 5), .ref (x + 5), .ref (x + 7), .ref (x + 6)]
  | 5 => [.ref (x + 1), .int (r 1), .int (r 2), .int (r 3), .int (r 4), .int (r 5), .int (r 6)]
  | 6 => [.ref (x + 1), .ref (x + 13), .ref (x + 22), .ref (x + 24), .ref (x + 48)]
  | _ => [.ref (x + 1), .int (r 1), .ref (x + 2), .ref (x + 3), .ref (x + 4), .ref (x + 5), .int (r 6), .ref (x + 6), .int (r 8), .ref (x + 7), .ref (x + 8), .int (r 11), .ref (x + 9), .ref (x + 10), .ref (x + 11), .ref (x + 12), .int (r 16), .int (r 17), .int (r 18), .int (r 19), .ref (x + 13), .ref (x + 14), .int (r 22), .int (r 23), .ref (x + 15), .ref (x + 16), .ref (x + 17)]
/-- what a row of references holds -/
def ea_ra (x : Nat) : Nat → Option Nat := fun i => if x = 25 then some (28 + 2 * i) else if x = 26 then some (44 + 2 * i) else some (49 + 4 * i)
def ea_ce (g : ea_G) (x : Nat) (r : Nat → Int32) : va_E :=
  if ea_kd x < 1000 then .inr (ea_kd x, (ea_fl (ea_kd x) x r).map (ea_tr g))
  else if ea_kd x < 2000 then .inl (g.2.1 0, ea_kd x - 1000, .inl r)
  else if ea_kd x < 3000 then .inl (g.2.1 1, ea_kd x - 2000, .inl r)
  else if ea_kd x < 4000 then .inl (g.2.1 2, ea_kd x - 3000, .inr (.inr (.inr (.inr (fun i => (ea_ra x i).map g.2.2.1)))))
  else .inl (g.2.1 3, ea_kd x - 4000, .inr (.inr (.inr (.inr (fun i => (ea_ra x i).map g.2.2.1)))))
def ea_Wd (g : ea_G) (M : ea_M) : va_W := (List.range 79).map (fun x => (g.2.2.1 x, ea_ce g x (M x)))
def ea_up (M : ea_M) (x k : Nat) (v : Int32) : ea_M := fun a => if a = x then upd (M x) k v else M a
theorem ea_Wd_at (g : ea_G) (M : ea_M) {x : Nat} (h : x < 79) : (ea_Wd g M)[x]? = some (g.2.2.1 x, ea_ce g x (M x)) := by
  simp [ea_Wd, List.getElem?_map, List.getElem?_range h]
theorem ea_Wd_set (g : ea_G) (M : ea_M) {x : Nat} (h : x < 79) (k : Nat) (v : Int32) : (ea_Wd g M).set x (g.2.2.1 x, ea_ce g x (upd (M x) k v)) = ea_Wd g (ea_up M x k v) := by
  apply List.ext_getElem?
  intro j
  rw [List.getElem?_set]
  by_cases hj : j < 79
  · rw [ea_Wd_at g _ hj, ea_Wd_at g _ hj]
    by_cases e : x = j
    · subst e
      simp [ea_Wd, h, ea_up]
    · have e2 : j ≠ x := fun q => e q.symm
      simp [e, ea_up, e2]
  · have e : ¬ x = j := fun q => hj (q ▸ h)
    simp [e, ea_Wd, hj]
theorem ea_D_any {g : ea_G} {A : Nat → Prop} {M M' : ea_M} (h : va_D A (ea_Wd g M)) : va_D A (ea_Wd g M') := by
  have key : ∀ (N : ea_M) (i : Nat) (p : Nat × va_E), (ea_Wd g N)[i]? = some p → i < 79 ∧ p.1 = g.2.2.1 i := by
    intro N i p hp
    by_cases hi : i < 79
    · rw [ea_Wd_at g N hi] at hp
      cases hp
      exact ⟨hi, rfl⟩
    · simp [ea_Wd, hi] at hp
  refine ⟨fun i j p q hi hj e => ?_, fun i p hi => ?_⟩
  · obtain ⟨a1, a2⟩ := key _ _ _ hi
    obtain ⟨b1, b2⟩ := key _ _ _ hj
    exact h.1 i j _ _ (ea_Wd_at g M a1) (ea_Wd_at g M b1) (by rw [← a2, ← b2]; exact e)
  · obtain ⟨a1, a2⟩ := key _ _ _ hi
    rw [a2]
    exact h.2 i _ (ea_Wd_at g M a1)
theorem ea_A_any (g : ea_G) (M M' : ea_M) (sz : Nat) : va_A (ea_Wd g M) sz = va_A (ea_Wd g M') sz := by
  have key : ∀ (N N' : ea_M) (q : Nat), va_A (ea_Wd g N) sz q → va_A (ea_Wd g N') sz q := by
    intro N N' q h
    rcases h with ⟨k, e, h⟩ | h
    · by_cases hk : k < 79
      · rw [ea_Wd_at g N hk] at h
        cases h
        exact Or.inl ⟨k, _, ea_Wd_at g N' hk⟩
      · simp [ea_Wd, hk] at h
    · exact Or.inr h
  funext q
  exact propext ⟨key M M' q, key M' M q⟩
def ea_ty (g : ea_G) : List (ClassId × FieldType) := [(g.2.1 0, .int), (g.2.1 1, .boolean), (g.2.1 2, .object RX0), (g.2.1 3, .object RX5)]
/-- the words on private members of a nest mate (constructors apart) -/
def ea_NS : List (String × Nat × MethodName) := [(RX0, 25, yX6_at), (RX0, 29, yX6_set), (RX1, 29, yX6_set), (RX1, 50, yX6_at), (RX2, 135, yX6_set), (RX3, 19, yX6_set), (RX3, 26, yX6_at), (RX4, 122, yX6_cut), (RX4, 143, yX6_halfResists), (RX4, 41, yX6_copyRow), (RX4, 61, yX6_at), (RX4, 71, yX6_set), (RX4, 95, yX6_isHeat), (RX5, 19, yX6_copyRow), (RX5, 38, yX6_total)]
def ea_lenS : List Nat := [4, 5, 5, 3, 4]
def ea_bytS : List (List Int32) := [[119, 97, 108, 108], [115, 116, 117, 102, 102], [108, 97, 121, 101, 114], [97, 105, 114], [104, 101, 97, 116]]
def ea_cpS : List (Nat × String) := [(53, "wall"), (65, "stuff"), (70, "layer"), (75, "air"), (80, "heat")]
/-- what stands of the tables, of the JDK's statics and of the texts, as long as only the world is written -/
def ea_En (g : ea_G) (A : Nat → Prop) (U : State) (H : Heap) : Prop :=
  va_K g.1 vwCl (ea_ty g) U ∧ (∀ w ∈ ea_NS, va_Nw (.methodLinkNest w.1 w.2.1 w.2.2 "WallHeat") U) ∧ vk_S 5 ea_lenS ea_bytS (fun i => g.2.2.1 (200 + i)) g.2.2.2 A U H ∧ va_Z "java/lang/String" "COMPACT_STRINGS" "Z" (.int 1) A U H ∧
  ∀ (i : Nat) (q : Nat × String), ea_cpS[i]? = some q → vk_R RX2 q.1 q.2 (g.2.2.1 (200 + i)) U
def ea_Pr (g : ea_G) (sz : Nat) (M : ea_M) (U : State) : Prop := U.heap.size = sz ∧ va_P g.1 vwCl (ea_Wd g M) U.heap ∧ va_D (fun _ => True) (ea_Wd g M) ∧ ea_En g (va_A (ea_Wd g M) sz) U U.heap
def ea_Q (g : ea_G) (o : Option Value) (M : ea_M) (A : Nat → Prop) : Array Value → State → Outcome → State → Prop := fun _ st oc t => (oc = .returned o ∧ va_P g.1 vwCl (ea_Wd g M) t.heap) ∧ va_F A st t
def ea_rm (d : Nat) : Room := { frames := d, cells := 0, slots := 0, locals := 40 * d }
/-- a method's contract: from a world M with these arguments (ids for references) it returns o, and the world is M' -/
def ea_Sp (d : Nat) (y : MethodName) (cc : ByteArray) (nL : Nat) (ret : Option FieldType) (as : List Value) (M : ea_M) (o : Option Value) (M' : ea_M) : Prop :=
  ∀ (l : Launch) (g : ea_G) (sz : Nat), Met l y (.code y cc nL ret :: wsL_law) (ea_rm d) (va_Pc (as.map (ea_tr g)) (ea_Pr g sz M)) (ea_Q g (o.map (ea_tr g)) M' (va_A (ea_Wd g M) sz)) 0 0 (va_A (ea_Wd g M) sz)
abbrev ea_K : Type := Program × Launch × Env × Room × State × MethodId × Array Value × List Frame × Method × Code × (State → Prop) × (Nat → Prop) × Nat × Nat × Nat × ea_G
def ea_E (k : ea_K) (pc : Nat) (lv : List (Nat × Value)) (st : List Value) (M : ea_M) : Prop := match k with
  | (p, l, e, R, s, m, args, below, meth, c, Q, A, cells, slots, nL, g) => ∀ (H : Heap) (locs : List Loc) (ls : Array Slot), va_P g.1 vwCl (ea_Wd g M) H → va_S A s.heap H locs → lv_has ls nL (lv.map (fun q => (q.1, ea_tr g q.2))) → W p l e R s m args below meth c H locs cells slots Q (F0 m pc ls (st.map (ea_tr g)))
def ea_C (k : ea_K) (own : String) (cc : ByteArray) (nL' d : Nat) : Prop := match k with
  | (p, l, e, R, s, m, args, below, meth, c, Q, A, cells, slots, nL, g) => p.tables.exec = Jvm.exec ∧ c.code = cc ∧ c.maxLocals = nL ∧ s.vm.findClass own = some m.cls ∧ (∀ w ∈ wsL_law, w.before args s = true) ∧ meth.locks = false ∧ va_D A (ea_Wd g (fun _ _ => 0)) ∧ (∀ q, s.heap.size ≤ q → A q) ∧ ea_En g A s s.heap ∧ (d ≤ R.frames ∧ 40 * d ≤ R.locals ∧ cells ≤ R.cells ∧ slots ≤ R.slots) ∧ nL = nL'
def ea_X (k : ea_K) (ret : Option FieldType) (o : Option Value) (M' : ea_M) : Prop := match k with
  | (p, l, e, R, s, m, args, below, meth, c, Q, A, cells, slots, nL, g) => meth.sig.returnType = ret ∧ Q = MQ below (ea_Q g (o.map (ea_tr g)) M' A) args s cells slots A
theorem ea_En.moved {g : ea_G} {A : Nat → Prop} {u U : State} {H : Heap} (hW : u.WarmedH U.vm) (h : ea_En g A u H) : ea_En g A U H :=
  ⟨h.1.moved hW.alike, fun w hw => (h.2.1 w hw).warmM hW, h.2.2.1.moved hW.alike, h.2.2.2.1.moved hW.alike, fun i q hq => (h.2.2.2.2 i q hq).warm hW⟩
theorem ea_En.same {g : ea_G} {A : Nat → Prop} {u U : State} {H : Heap} (hv : u.vm = U.vm) (h : ea_En g A u H) : ea_En g A U H := by
  have ha : u.vm.Alike U.vm := by rw [hv]; exact Vm.Alike.refl _
  exact ⟨h.1.moved ha, fun w hw => (h.2.1 w hw).same rfl hv, h.2.2.1.moved ha, h.2.2.2.1.moved ha, fun i q hq => (h.2.2.2.2 i q hq).same hv.symm⟩
theorem ea_En.kept {g : ea_G} {A : Nat → Prop} {U : State} {H H1 : Heap} (h : ea_En g A U H) (hq : ∀ a : Nat, a < H.size → ¬ A a → H1[a]? = H[a]?) : ea_En g A U H1 :=
  ⟨h.1, h.2.1, h.2.2.1.kept hq, h.2.2.2.1.kept hq, h.2.2.2.2⟩
theorem ea_En.narrow {g : ea_G} {A B : Nat → Prop} {U : State} {H : Heap} (h : ea_En g A U H) (hAB : ∀ q, B q → A q) : ea_En g B U H :=
  ⟨h.1, h.2.1, h.2.2.1.narrow hAB, h.2.2.2.1.narrow hAB, h.2.2.2.2⟩
theorem ea_blind (g : ea_G) (as : List Value) (sz : Nat) (M : ea_M) : FrameBlind (va_Pc as (ea_Pr g sz M)) := by
  intro a U f mk q
  obtain ⟨q0, q1, q2, q3, q4⟩ := q
  exact ⟨q0, q1, q2, q3, q4.same (U := U.calling f mk a) rfl⟩
theorem ea_args (g : ea_G) : ∀ (as : List Value) (j : Nat), lv_args j (as.map (ea_tr g)) = (lv_args j as).map (fun q => (q.1, ea_tr g q.2)) := by
  intro as
  induction as with
  | nil => intro j; rfl
  | cons v as ih =>
    intro j
    have hc : (ea_tr g v).category = v.category := by cases v <;> rfl
    show (j, ea_tr g v) :: lv_args (if (ea_tr g v).category = 2 then j + 2 else j + 1) (as.map (ea_tr g)) = _
    rw [hc, ih]
    rfl
theorem ea_good : ∀ w ∈ wsL_law, (w.onTables && w.keeps) = true ∨ ∃ ty, w = .arrayClass ty := by
  have h : wsL_law.all goodWord = true := by decide +kernel
  intro w hw
  exact good_of_word (List.all_eq_true.mp h w hw)
theorem ea_goodIn {w : Cond} (h : w ∈ wsL_law) : GoodIn wsL_law (w :: wsL_law) := by
  intro v hv
  rcases List.mem_cons.mp hv with rfl | hv
  · exact ⟨h, ea_good _ h⟩
  · exact ⟨hv, ea_good _ hv⟩
set_option maxHeartbeats 1000000 in
/-- a contract out of the walk of its body -/
theorem ea_intro {d : Nat} {y : MethodName} {cc : ByteArray} {nL : Nat} {ret : Option FieldType} {as : List Value} {M : ea_M} {o : Option Value} {M' : ea_M} {own : String} (hy : plainName y.cls = true) (hown : y.cls = own) (hsl : ∀ g : ea_G, (lg_sl (as.map (ea_tr g))).length ≤ nL)
    (body : ∀ k : ea_K, ea_C k own cc nL d → ea_X k ret o M' → ea_E k 0 (lv_args 0 as) [] M) : ea_Sp d y cc nL ret as M o M' := by
  subst hown
  intro l g sz
  refine Met.ofW (cc := cc) (maxL := nL) (ret := ret) hy rfl ?_
  intro p e s m args below meth c s₁ B hml hv
  obtain ⟨rfl, hsz, hP, hD0, hE⟩ := hv
  have hts : ∀ w ∈ wsL_law, w.before (as.map (ea_tr g)).toArray s = true := fun w hw => atoms_spec B.pre w (List.mem_cons_of_mem _ hw)
  subst hsz
  rw [lg_entry_eq]
  have hl := lv_entry (as.map (ea_tr g)) (n := nL) (hsl g)
  rw [ea_args] at hl
  exact body (p, l, e, ea_rm d, s, m, (as.map (ea_tr g)).toArray, below, meth, c, _, va_A (ea_Wd g M) s.heap.size, 0, 0, nL, g) ⟨B.exec, B.bytes, hml, findClass_of_methodNamed B.named, hts, B.notSynchronized, ea_D_any hD0.self, fun q h => Or.inr h, hE, ⟨Nat.le_refl _, Nat.le_refl _, Nat.le_refl _, Nat.le_refl _⟩, rfl⟩ ⟨B.returns, rfl⟩ s.heap [] _ hP va_S.rf hl
end
section
theorem ea_cat (g : ea_G) (v : Value) : (ea_tr g v).category = v.category := by cases v <;> rfl
theorem ea_fil1 (g : ea_G) {i : Nat} {v : Value} {lv : List (Nat × Value)} : (i, ea_tr g v) :: (lv.map (fun q => (q.1, ea_tr g q.2))).filter (fun q => !(q.1 == i) && !(q.1 + 1 == i && q.2.category == 2)) = (((i, v) :: lv.filter (fun q => !(q.1 == i) && !(q.1 + 1 == i && q.2.category == 2))).map (fun q => (q.1, ea_tr g q.2))) := by
  simp only [List.map_cons, List.filter_map, Function.comp_def, ea_cat]
theorem ea_fil2 (g : ea_G) {i : Nat} {v : Value} {lv : List (Nat × Value)} : (i, ea_tr g v) :: (lv.map (fun q => (q.1, ea_tr g q.2))).filter (fun q => !(q.1 == i) && (!(q.1 == i + 1) && !(q.1 + 1 == i && q.2.category == 2))) = (((i, v) :: lv.filter (fun q => !(q.1 == i) && (!(q.1 == i + 1) && !(q.1 + 1 == i && q.2.category == 2)))).map (fun q => (q.1, ea_tr g q.2))) := by
  simp only [List.map_cons, List.filter_map, Function.comp_def, ea_cat]
theorem e_iconst {k : ea_K} {own : String} {cc : ByteArray} {nL d : Nat} (C : ea_C k own cc nL d) {pc : Nat} {lv : List (Nat × Value)} {st : List Value} {M : ea_M} {n : Int} {v : Int32} (hd : decode cc pc = .ok (.iconst n, 1)) (hv : Int32.ofInt n = v) (h : ea_E k (pc + 1) lv (.int v :: st) M) : ea_E k (pc) lv (st) M := by
  obtain ⟨p, l, e, R, s, m, args, below, meth, c, Q, A, cells, slots, nL0, g⟩ := k
  obtain ⟨hx, hb, hml, hown, hts, hlk, hD, hA, hE, hroom, rfl⟩ := C
  intro H locs ls hP hS hl
  exact lv_iconst hx hb hd hv (h H locs ls hP hS hl)

theorem e_bipush {k : ea_K} {own : String} {cc : ByteArray} {nL d : Nat} (C : ea_C k own cc nL d) {pc : Nat} {lv : List (Nat × Value)} {st : List Value} {M : ea_M} {n : Int} {v : Int32} (hd : decode cc pc = .ok (.bipush n, 2)) (hv : (Int8.ofInt n).toInt32 = v) (h : ea_E k (pc + 2) lv (.int v :: st) M) : ea_E k (pc) lv (st) M := by
  obtain ⟨p, l, e, R, s, m, args, below, meth, c, Q, A, cells, slots, nL0, g⟩ := k
  obtain ⟨hx, hb, hml, hown, hts, hlk, hD, hA, hE, hroom, rfl⟩ := C
  intro H locs ls hP hS hl
  exact lv_bipush hx hb hd hv (h H locs ls hP hS hl)

theorem e_sipush {k : ea_K} {own : String} {cc : ByteArray} {nL d : Nat} (C : ea_C k own cc nL d) {pc : Nat} {lv : List (Nat × Value)} {st : List Value} {M : ea_M} {n : Int} {v : Int32} (hd : decode cc pc = .ok (.sipush n, 3)) (hv : (Int16.ofInt n).toInt32 = v) (h : ea_E k (pc + 3) lv (.int v :: st) M) : ea_E k (pc) lv (st) M := by
  obtain ⟨p, l, e, R, s, m, args, below, meth, c, Q, A, cells, slots, nL0, g⟩ := k
  obtain ⟨hx, hb, hml, hown, hts, hlk, hD, hA, hE, hroom, rfl⟩ := C
  intro H locs ls hP hS hl
  exact lv_sipush hx hb hd hv (h H locs ls hP hS hl)

theorem e_lconst {k : ea_K} {own : String} {cc : ByteArray} {nL d : Nat} (C : ea_C k own cc nL d) {pc : Nat} {lv : List (Nat × Value)} {st : List Value} {M : ea_M} {n : Fin 2} {v : Int64} (hd : decode cc pc = .ok (.lconst n, 1)) (hv : Int64.ofNat (n : Nat) = v) (h : ea_E k (pc + 1) lv (.long v :: st) M) : ea_E k (pc) lv (st) M := by
  obtain ⟨p, l, e, R, s, m, args, below, meth, c, Q, A, cells, slots, nL0, g⟩ := k
  obtain ⟨hx, hb, hml, hown, hts, hlk, hD, hA, hE, hroom, rfl⟩ := C
  intro H locs ls hP hS hl
  exact lv_lconst hx hb hd hv (h H locs ls hP hS hl)

theorem e_null {k : ea_K} {own : String} {cc : ByteArray} {nL d : Nat} (C : ea_C k own cc nL d) {pc : Nat} {lv : List (Nat × Value)} {st : List Value} {M : ea_M} (hd : decode cc pc = .ok (.aconst_null, 1)) (h : ea_E k (pc + 1) lv (.null :: st) M) : ea_E k (pc) lv (st) M := by
  obtain ⟨p, l, e, R, s, m, args, below, meth, c, Q, A, cells, slots, nL0, g⟩ := k
  obtain ⟨hx, hb, hml, hown, hts, hlk, hD, hA, hE, hroom, rfl⟩ := C
  intro H locs ls hP hS hl
  exact lv_null hx hb hd (h H locs ls hP hS hl)

theorem e_iload_n {k : ea_K} {own : String} {cc : ByteArray} {nL d : Nat} (C : ea_C k own cc nL d) {pc : Nat} {lv : List (Nat × Value)} {st : List Value} {M : ea_M} {f : Fin 4} {i n : Nat} {x : Int32} (hd : decode cc pc = .ok (.iload_n f, 1)) (hi : (f : Nat) = i) (hk : lv[n]? = some (i, .int x)) (h : ea_E k (pc + 1) lv (.int x :: st) M) : ea_E k (pc) lv (st) M := by
  obtain ⟨p, l, e, R, s, m, args, below, meth, c, Q, A, cells, slots, nL0, g⟩ := k
  obtain ⟨hx, hb, hml, hown, hts, hlk, hD, hA, hE, hroom, rfl⟩ := C
  intro H locs ls hP hS hl
  exact lv_iload_n hx hb hd hi (lv_at hl n (by rw [List.getElem?_map, hk]; rfl)) (h H locs ls hP hS hl)

theorem e_iload {k : ea_K} {own : String} {cc : ByteArray} {nL d : Nat} (C : ea_C k own cc nL d) {pc : Nat} {lv : List (Nat × Value)} {st : List Value} {M : ea_M} {i n : Nat} {x : Int32} (hd : decode cc pc = .ok (.iload i, 2)) (hk : lv[n]? = some (i, .int x)) (h : ea_E k (pc + 2) lv (.int x :: st) M) : ea_E k (pc) lv (st) M := by
  obtain ⟨p, l, e, R, s, m, args, below, meth, c, Q, A, cells, slots, nL0, g⟩ := k
  obtain ⟨hx, hb, hml, hown, hts, hlk, hD, hA, hE, hroom, rfl⟩ := C
  intro H locs ls hP hS hl
  exact lv_iload hx hb hd (lv_at hl n (by rw [List.getElem?_map, hk]; rfl)) (h H locs ls hP hS hl)

theorem e_lload_n {k : ea_K} {own : String} {cc : ByteArray} {nL d : Nat} (C : ea_C k own cc nL d) {pc : Nat} {lv : List (Nat × Value)} {st : List Value} {M : ea_M} {f : Fin 4} {i n : Nat} {x : Int64} (hd : decode cc pc = .ok (.lload_n f, 1)) (hi : (f : Nat) = i) (hk : lv[n]? = some (i, .long x)) (h : ea_E k (pc + 1) lv (.long x :: st) M) : ea_E k (pc) lv (st) M := by
  obtain ⟨p, l, e, R, s, m, args, below, meth, c, Q, A, cells, slots, nL0, g⟩ := k
  obtain ⟨hx, hb, hml, hown, hts, hlk, hD, hA, hE, hroom, rfl⟩ := C
  intro H locs ls hP hS hl
  exact lv_lload_n hx hb hd hi (lv_at hl n (by rw [List.getElem?_map, hk]; rfl)) (h H locs ls hP hS hl)

theorem e_lload {k : ea_K} {own : String} {cc : ByteArray} {nL d : Nat} (C : ea_C k own cc nL d) {pc : Nat} {lv : List (Nat × Value)} {st : List Value} {M : ea_M} {i n : Nat} {x : Int64} (hd : decode cc pc = .ok (.lload i, 2)) (hk : lv[n]? = some (i, .long x)) (h : ea_E k (pc + 2) lv (.long x :: st) M) : ea_E k (pc) lv (st) M := by
  obtain ⟨p, l, e, R, s, m, args, below, meth, c, Q, A, cells, slots, nL0, g⟩ := k
  obtain ⟨hx, hb, hml, hown, hts, hlk, hD, hA, hE, hroom, rfl⟩ := C
  intro H locs ls hP hS hl
  exact lv_lload hx hb hd (lv_at hl n (by rw [List.getElem?_map, hk]; rfl)) (h H locs ls hP hS hl)

theorem e_aload_n {k : ea_K} {own : String} {cc : ByteArray} {nL d : Nat} (C : ea_C k own cc nL d) {pc : Nat} {lv : List (Nat × Value)} {st : List Value} {M : ea_M} {f : Fin 4} {i n : Nat} {x : Nat} (hd : decode cc pc = .ok (.aload_n f, 1)) (hi : (f : Nat) = i) (hk : lv[n]? = some (i, .ref x)) (h : ea_E k (pc + 1) lv (.ref x :: st) M) : ea_E k (pc) lv (st) M := by
  obtain ⟨p, l, e, R, s, m, args, below, meth, c, Q, A, cells, slots, nL0, g⟩ := k
  obtain ⟨hx, hb, hml, hown, hts, hlk, hD, hA, hE, hroom, rfl⟩ := C
  intro H locs ls hP hS hl
  exact lv_aload_n hx hb hd hi (lv_at hl n (by rw [List.getElem?_map, hk]; rfl)) (h H locs ls hP hS hl)

theorem e_aload {k : ea_K} {own : String} {cc : ByteArray} {nL d : Nat} (C : ea_C k own cc nL d) {pc : Nat} {lv : List (Nat × Value)} {st : List Value} {M : ea_M} {i n : Nat} {x : Nat} (hd : decode cc pc = .ok (.aload i, 2)) (hk : lv[n]? = some (i, .ref x)) (h : ea_E k (pc + 2) lv (.ref x :: st) M) : ea_E k (pc) lv (st) M := by
  obtain ⟨p, l, e, R, s, m, args, below, meth, c, Q, A, cells, slots, nL0, g⟩ := k
  obtain ⟨hx, hb, hml, hown, hts, hlk, hD, hA, hE, hroom, rfl⟩ := C
  intro H locs ls hP hS hl
  exact lv_aload hx hb hd (lv_at hl n (by rw [List.getElem?_map, hk]; rfl)) (h H locs ls hP hS hl)

theorem e_aloadN_n {k : ea_K} {own : String} {cc : ByteArray} {nL d : Nat} (C : ea_C k own cc nL d) {pc : Nat} {lv : List (Nat × Value)} {st : List Value} {M : ea_M} {f : Fin 4} {i n : Nat} (hd : decode cc pc = .ok (.aload_n f, 1)) (hi : (f : Nat) = i) (hk : lv[n]? = some (i, .null)) (h : ea_E k (pc + 1) lv (.null :: st) M) : ea_E k (pc) lv (st) M := by
  obtain ⟨p, l, e, R, s, m, args, below, meth, c, Q, A, cells, slots, nL0, g⟩ := k
  obtain ⟨hx, hb, hml, hown, hts, hlk, hD, hA, hE, hroom, rfl⟩ := C
  intro H locs ls hP hS hl
  exact lv_aload_nN hx hb hd hi (lv_at hl n (by rw [List.getElem?_map, hk]; rfl)) (h H locs ls hP hS hl)

theorem e_aloadN {k : ea_K} {own : String} {cc : ByteArray} {nL d : Nat} (C : ea_C k own cc nL d) {pc : Nat} {lv : List (Nat × Value)} {st : List Value} {M : ea_M} {i n : Nat} (hd : decode cc pc = .ok (.aload i, 2)) (hk : lv[n]? = some (i, .null)) (h : ea_E k (pc + 2) lv (.null :: st) M) : ea_E k (pc) lv (st) M := by
  obtain ⟨p, l, e, R, s, m, args, below, meth, c, Q, A, cells, slots, nL0, g⟩ := k
  obtain ⟨hx, hb, hml, hown, hts, hlk, hD, hA, hE, hroom, rfl⟩ := C
  intro H locs ls hP hS hl
  exact lv_aloadN hx hb hd (lv_at hl n (by rw [List.getElem?_map, hk]; rfl)) (h H locs ls hP hS hl)

theorem e_istore_n {k : ea_K} {own : String} {cc : ByteArray} {nL d : Nat} (C : ea_C k own cc nL d) {pc : Nat} {lv : List (Nat × Value)} {st : List Value} {M : ea_M} {f : Fin 4} {i : Nat} {lv' : List (Nat × Value)} {x : Int32} (hd : decode cc pc = .ok (.istore_n f, 1)) (hi : (f : Nat) = i) (hn : i < nL) (hl' : (i, Value.int x) :: lv.filter (fun q => !(q.1 == i) && !(q.1 + 1 == i && q.2.category == 2)) = lv') (h : ea_E k (pc + 1) lv' (st) M) : ea_E k (pc) lv (.int x :: st) M := by
  obtain ⟨p, l, e, R, s, m, args, below, meth, c, Q, A, cells, slots, nL0, g⟩ := k
  obtain ⟨hx, hb, hml, hown, hts, hlk, hD, hA, hE, hroom, rfl⟩ := C
  intro H locs ls hP hS hl
  refine lv_istore_n hx hb hd hi hl hn rfl (fun ls' hl2 => h H locs ls' hP hS ?_)
  subst hl'
  rw [← ea_fil1 g]
  exact hl2

theorem e_istore {k : ea_K} {own : String} {cc : ByteArray} {nL d : Nat} (C : ea_C k own cc nL d) {pc : Nat} {lv : List (Nat × Value)} {st : List Value} {M : ea_M} {i : Nat} {lv' : List (Nat × Value)} {x : Int32} (hd : decode cc pc = .ok (.istore i, 2)) (hn : i < nL) (hl' : (i, Value.int x) :: lv.filter (fun q => !(q.1 == i) && !(q.1 + 1 == i && q.2.category == 2)) = lv') (h : ea_E k (pc + 2) lv' (st) M) : ea_E k (pc) lv (.int x :: st) M := by
  obtain ⟨p, l, e, R, s, m, args, below, meth, c, Q, A, cells, slots, nL0, g⟩ := k
  obtain ⟨hx, hb, hml, hown, hts, hlk, hD, hA, hE, hroom, rfl⟩ := C
  intro H locs ls hP hS hl
  refine lv_istore hx hb hd hl hn rfl (fun ls' hl2 => h H locs ls' hP hS ?_)
  subst hl'
  rw [← ea_fil1 g]
  exact hl2

theorem e_lstore_n {k : ea_K} {own : String} {cc : ByteArray} {nL d : Nat} (C : ea_C k own cc nL d) {pc : Nat} {lv : List (Nat × Value)} {st : List Value} {M : ea_M} {f : Fin 4} {i : Nat} {lv' : List (Nat × Value)} {x : Int64} (hd : decode cc pc = .ok (.lstore_n f, 1)) (hi : (f : Nat) = i) (hn : i + 1 < nL) (hl' : (i, Value.long x) :: lv.filter (fun q => !(q.1 == i) && (!(q.1 == i + 1) && !(q.1 + 1 == i && q.2.category == 2))) = lv') (h : ea_E k (pc + 1) lv' (st) M) : ea_E k (pc) lv (.long x :: st) M := by
  obtain ⟨p, l, e, R, s, m, args, below, meth, c, Q, A, cells, slots, nL0, g⟩ := k
  obtain ⟨hx, hb, hml, hown, hts, hlk, hD, hA, hE, hroom, rfl⟩ := C
  intro H locs ls hP hS hl
  refine lv_lstore_n hx hb hd hi hl hn rfl (fun ls' hl2 => h H locs ls' hP hS ?_)
  subst hl'
  rw [← ea_fil2 g]
  exact hl2

theorem e_lstore {k : ea_K} {own : String} {cc : ByteArray} {nL d : Nat} (C : ea_C k own cc nL d) {pc : Nat} {lv : List (Nat × Value)} {st : List Value} {M : ea_M} {i : Nat} {lv' : List (Nat × Value)} {x : Int64} (hd : decode cc pc = .ok (.lstore i, 2)) (hn : i + 1 < nL) (hl' : (i, Value.long x) :: lv.filter (fun q => !(q.1 == i) && (!(q.1 == i + 1) && !(q.1 + 1 == i && q.2.category == 2))) = lv') (h : ea_E k (pc + 2) lv' (st) M) : ea_E k (pc) lv (.long x :: st) M := by
  obtain ⟨p, l, e, R, s, m, args, below, meth, c, Q, A, cells, slots, nL0, g⟩ := k
  obtain ⟨hx, hb, hml, hown, hts, hlk, hD, hA, hE, hroom, rfl⟩ := C
  intro H locs ls hP hS hl
  refine lv_lstore hx hb hd hl hn rfl (fun ls' hl2 => h H locs ls' hP hS ?_)
  subst hl'
  rw [← ea_fil2 g]
  exact hl2

theorem e_astore_n {k : ea_K} {own : String} {cc : ByteArray} {nL d : Nat} (C : ea_C k own cc nL d) {pc : Nat} {lv : List (Nat × Value)} {st : List Value} {M : ea_M} {f : Fin 4} {i : Nat} {lv' : List (Nat × Value)} {x : Nat} (hd : decode cc pc = .ok (.astore_n f, 1)) (hi : (f : Nat) = i) (hn : i < nL) (hl' : (i, Value.ref x) :: lv.filter (fun q => !(q.1 == i) && !(q.1 + 1 == i && q.2.category == 2)) = lv') (h : ea_E k (pc + 1) lv' (st) M) : ea_E k (pc) lv (.ref x :: st) M := by
  obtain ⟨p, l, e, R, s, m, args, below, meth, c, Q, A, cells, slots, nL0, g⟩ := k
  obtain ⟨hx, hb, hml, hown, hts, hlk, hD, hA, hE, hroom, rfl⟩ := C
  intro H locs ls hP hS hl
  refine lv_astore_n hx hb hd hi hl hn rfl (fun ls' hl2 => h H locs ls' hP hS ?_)
  subst hl'
  rw [← ea_fil1 g]
  exact hl2

theorem e_astore {k : ea_K} {own : String} {cc : ByteArray} {nL d : Nat} (C : ea_C k own cc nL d) {pc : Nat} {lv : List (Nat × Value)} {st : List Value} {M : ea_M} {i : Nat} {lv' : List (Nat × Value)} {x : Nat} (hd : decode cc pc = .ok (.astore i, 2)) (hn : i < nL) (hl' : (i, Value.ref x) :: lv.filter (fun q => !(q.1 == i) && !(q.1 + 1 == i && q.2.category == 2)) = lv') (h : ea_E k (pc + 2) lv' (st) M) : ea_E k (pc) lv (.ref x :: st) M := by
  obtain ⟨p, l, e, R, s, m, args, below, meth, c, Q, A, cells, slots, nL0, g⟩ := k
  obtain ⟨hx, hb, hml, hown, hts, hlk, hD, hA, hE, hroom, rfl⟩ := C
  intro H locs ls hP hS hl
  refine lv_astore hx hb hd hl hn rfl (fun ls' hl2 => h H locs ls' hP hS ?_)
  subst hl'
  rw [← ea_fil1 g]
  exact hl2

theorem e_astoreN_n {k : ea_K} {own : String} {cc : ByteArray} {nL d : Nat} (C : ea_C k own cc nL d) {pc : Nat} {lv : List (Nat × Value)} {st : List Value} {M : ea_M} {f : Fin 4} {i : Nat} {lv' : List (Nat × Value)}  (hd : decode cc pc = .ok (.astore_n f, 1)) (hi : (f : Nat) = i) (hn : i < nL) (hl' : (i, Value.null) :: lv.filter (fun q => !(q.1 == i) && !(q.1 + 1 == i && q.2.category == 2)) = lv') (h : ea_E k (pc + 1) lv' (st) M) : ea_E k (pc) lv (.null :: st) M := by
  obtain ⟨p, l, e, R, s, m, args, below, meth, c, Q, A, cells, slots, nL0, g⟩ := k
  obtain ⟨hx, hb, hml, hown, hts, hlk, hD, hA, hE, hroom, rfl⟩ := C
  intro H locs ls hP hS hl
  refine lv_astore_nN hx hb hd hi hl hn rfl (fun ls' hl2 => h H locs ls' hP hS ?_)
  subst hl'
  rw [← ea_fil1 g]
  exact hl2

theorem e_astoreN {k : ea_K} {own : String} {cc : ByteArray} {nL d : Nat} (C : ea_C k own cc nL d) {pc : Nat} {lv : List (Nat × Value)} {st : List Value} {M : ea_M} {i : Nat} {lv' : List (Nat × Value)}  (hd : decode cc pc = .ok (.astore i, 2)) (hn : i < nL) (hl' : (i, Value.null) :: lv.filter (fun q => !(q.1 == i) && !(q.1 + 1 == i && q.2.category == 2)) = lv') (h : ea_E k (pc + 2) lv' (st) M) : ea_E k (pc) lv (.null :: st) M := by
  obtain ⟨p, l, e, R, s, m, args, below, meth, c, Q, A, cells, slots, nL0, g⟩ := k
  obtain ⟨hx, hb, hml, hown, hts, hlk, hD, hA, hE, hroom, rfl⟩ := C
  intro H locs ls hP hS hl
  refine lv_astoreN hx hb hd hl hn rfl (fun ls' hl2 => h H locs ls' hP hS ?_)
  subst hl'
  rw [← ea_fil1 g]
  exact hl2

theorem e_iinc {k : ea_K} {own : String} {cc : ByteArray} {nL d : Nat} (C : ea_C k own cc nL d) {pc : Nat} {lv : List (Nat × Value)} {st : List Value} {M : ea_M} {i n : Nat} {z : Int} {x v : Int32} {lv' : List (Nat × Value)} (hd : decode cc pc = .ok (.iinc i z, 3)) (hk : lv[n]? = some (i, .int x)) (hv : x + Int32.ofInt z = v) (hn : i < nL) (hl' : (i, Value.int v) :: lv.filter (fun q => !(q.1 == i) && !(q.1 + 1 == i && q.2.category == 2)) = lv') (h : ea_E k (pc + 3) lv' (st) M) : ea_E k (pc) lv (st) M := by
  obtain ⟨p, l, e, R, s, m, args, below, meth, c, Q, A, cells, slots, nL0, g⟩ := k
  obtain ⟨hx, hb, hml, hown, hts, hlk, hD, hA, hE, hroom, rfl⟩ := C
  intro H locs ls hP hS hl
  refine lv_iinc (k := n) hx hb hd hl (by rw [List.getElem?_map, hk]; rfl) hv hn rfl (fun ls' hl2 => h H locs ls' hP hS ?_)
  subst hl'
  rw [← ea_fil1 g]
  exact hl2

theorem e_iadd {k : ea_K} {own : String} {cc : ByteArray} {nL d : Nat} (C : ea_C k own cc nL d) {pc : Nat} {lv : List (Nat × Value)} {st : List Value} {M : ea_M} {x y : Int32} (hd : decode cc pc = .ok (.iadd, 1)) (h : ea_E k (pc + 1) lv (.int (x + y) :: st) M) : ea_E k (pc) lv (.int y :: .int x :: st) M := by
  obtain ⟨p, l, e, R, s, m, args, below, meth, c, Q, A, cells, slots, nL0, g⟩ := k
  obtain ⟨hx, hb, hml, hown, hts, hlk, hD, hA, hE, hroom, rfl⟩ := C
  intro H locs ls hP hS hl
  exact lv_iadd hx hb hd (h H locs ls hP hS hl)

theorem e_isub {k : ea_K} {own : String} {cc : ByteArray} {nL d : Nat} (C : ea_C k own cc nL d) {pc : Nat} {lv : List (Nat × Value)} {st : List Value} {M : ea_M} {x y : Int32} (hd : decode cc pc = .ok (.isub, 1)) (h : ea_E k (pc + 1) lv (.int (x - y) :: st) M) : ea_E k (pc) lv (.int y :: .int x :: st) M := by
  obtain ⟨p, l, e, R, s, m, args, below, meth, c, Q, A, cells, slots, nL0, g⟩ := k
  obtain ⟨hx, hb, hml, hown, hts, hlk, hD, hA, hE, hroom, rfl⟩ := C
  intro H locs ls hP hS hl
  exact lv_isub hx hb hd (h H locs ls hP hS hl)

theorem e_imul {k : ea_K} {own : String} {cc : ByteArray} {nL d : Nat} (C : ea_C k own cc nL d) {pc : Nat} {lv : List (Nat × Value)} {st : List Value} {M : ea_M} {x y : Int32} (hd : decode cc pc = .ok (.imul, 1)) (h : ea_E k (pc + 1) lv (.int (x * y) :: st) M) : ea_E k (pc) lv (.int y :: .int x :: st) M := by
  obtain ⟨p, l, e, R, s, m, args, below, meth, c, Q, A, cells, slots, nL0, g⟩ := k
  obtain ⟨hx, hb, hml, hown, hts, hlk, hD, hA, hE, hroom, rfl⟩ := C
  intro H locs ls hP hS hl
  exact lv_imul hx hb hd (h H locs ls hP hS hl)

theorem e_iand {k : ea_K} {own : String} {cc : ByteArray} {nL d : Nat} (C : ea_C k own cc nL d) {pc : Nat} {lv : List (Nat × Value)} {st : List Value} {M : ea_M} {x y : Int32} (hd : decode cc pc = .ok (.iand, 1)) (h : ea_E k (pc + 1) lv (.int (x &&& y) :: st) M) : ea_E k (pc) lv (.int y :: .int x :: st) M := by
  obtain ⟨p, l, e, R, s, m, args, below, meth, c, Q, A, cells, slots, nL0, g⟩ := k
  obtain ⟨hx, hb, hml, hown, hts, hlk, hD, hA, hE, hroom, rfl⟩ := C
  intro H locs ls hP hS hl
  exact lv_iand hx hb hd (h H locs ls hP hS hl)

theorem e_ior {k : ea_K} {own : String} {cc : ByteArray} {nL d : Nat} (C : ea_C k own cc nL d) {pc : Nat} {lv : List (Nat × Value)} {st : List Value} {M : ea_M} {x y : Int32} (hd : decode cc pc = .ok (.ior, 1)) (h : ea_E k (pc + 1) lv (.int (x ||| y) :: st) M) : ea_E k (pc) lv (.int y :: .int x :: st) M := by
  obtain ⟨p, l, e, R, s, m, args, below, meth, c, Q, A, cells, slots, nL0, g⟩ := k
  obtain ⟨hx, hb, hml, hown, hts, hlk, hD, hA, hE, hroom, rfl⟩ := C
  intro H locs ls hP hS hl
  exact lv_ior hx hb hd (h H locs ls hP hS hl)

theorem e_ishl {k : ea_K} {own : String} {cc : ByteArray} {nL d : Nat} (C : ea_C k own cc nL d) {pc : Nat} {lv : List (Nat × Value)} {st : List Value} {M : ea_M} {x y : Int32} (hd : decode cc pc = .ok (.ishl, 1)) (h : ea_E k (pc + 1) lv (.int (x <<< (y &&& 31)) :: st) M) : ea_E k (pc) lv (.int y :: .int x :: st) M := by
  obtain ⟨p, l, e, R, s, m, args, below, meth, c, Q, A, cells, slots, nL0, g⟩ := k
  obtain ⟨hx, hb, hml, hown, hts, hlk, hD, hA, hE, hroom, rfl⟩ := C
  intro H locs ls hP hS hl
  exact lv_ishl hx hb hd (h H locs ls hP hS hl)

theorem e_idiv {k : ea_K} {own : String} {cc : ByteArray} {nL d : Nat} (C : ea_C k own cc nL d) {pc : Nat} {lv : List (Nat × Value)} {st : List Value} {M : ea_M} {x y : Int32} (hd : decode cc pc = .ok (.idiv, 1)) (hne : ¬ y = 0) (h : ea_E k (pc + 1) lv (.int (x / y) :: st) M) : ea_E k (pc) lv (.int y :: .int x :: st) M := by
  obtain ⟨p, l, e, R, s, m, args, below, meth, c, Q, A, cells, slots, nL0, g⟩ := k
  obtain ⟨hx, hb, hml, hown, hts, hlk, hD, hA, hE, hroom, rfl⟩ := C
  intro H locs ls hP hS hl
  exact lv_idiv hx hb hd hne (h H locs ls hP hS hl)

theorem e_irem {k : ea_K} {own : String} {cc : ByteArray} {nL d : Nat} (C : ea_C k own cc nL d) {pc : Nat} {lv : List (Nat × Value)} {st : List Value} {M : ea_M} {x y : Int32} (hd : decode cc pc = .ok (.irem, 1)) (hne : ¬ y = 0) (h : ea_E k (pc + 1) lv (.int (x - x / y * y) :: st) M) : ea_E k (pc) lv (.int y :: .int x :: st) M := by
  obtain ⟨p, l, e, R, s, m, args, below, meth, c, Q, A, cells, slots, nL0, g⟩ := k
  obtain ⟨hx, hb, hml, hown, hts, hlk, hD, hA, hE, hroom, rfl⟩ := C
  intro H locs ls hP hS hl
  exact lv_irem hx hb hd hne (h H locs ls hP hS hl)

theorem e_ladd {k : ea_K} {own : String} {cc : ByteArray} {nL d : Nat} (C : ea_C k own cc nL d) {pc : Nat} {lv : List (Nat × Value)} {st : List Value} {M : ea_M} {x y : Int64} (hd : decode cc pc = .ok (.ladd, 1)) (h : ea_E k (pc + 1) lv (.long (x + y) :: st) M) : ea_E k (pc) lv (.long y :: .long x :: st) M := by
  obtain ⟨p, l, e, R, s, m, args, below, meth, c, Q, A, cells, slots, nL0, g⟩ := k
  obtain ⟨hx, hb, hml, hown, hts, hlk, hD, hA, hE, hroom, rfl⟩ := C
  intro H locs ls hP hS hl
  exact lv_ladd hx hb hd (h H locs ls hP hS hl)

theorem e_lsub {k : ea_K} {own : String} {cc : ByteArray} {nL d : Nat} (C : ea_C k own cc nL d) {pc : Nat} {lv : List (Nat × Value)} {st : List Value} {M : ea_M} {x y : Int64} (hd : decode cc pc = .ok (.lsub, 1)) (h : ea_E k (pc + 1) lv (.long (x - y) :: st) M) : ea_E k (pc) lv (.long y :: .long x :: st) M := by
  obtain ⟨p, l, e, R, s, m, args, below, meth, c, Q, A, cells, slots, nL0, g⟩ := k
  obtain ⟨hx, hb, hml, hown, hts, hlk, hD, hA, hE, hroom, rfl⟩ := C
  intro H locs ls hP hS hl
  exact lv_lsub hx hb hd (h H locs ls hP hS hl)

theorem e_lmul {k : ea_K} {own : String} {cc : ByteArray} {nL d : Nat} (C : ea_C k own cc nL d) {pc : Nat} {lv : List (Nat × Value)} {st : List Value} {M : ea_M} {x y : Int64} (hd : decode cc pc = .ok (.lmul, 1)) (h : ea_E k (pc + 1) lv (.long (x * y) :: st) M) : ea_E k (pc) lv (.long y :: .long x :: st) M := by
  obtain ⟨p, l, e, R, s, m, args, below, meth, c, Q, A, cells, slots, nL0, g⟩ := k
  obtain ⟨hx, hb, hml, hown, hts, hlk, hD, hA, hE, hroom, rfl⟩ := C
  intro H locs ls hP hS hl
  exact lv_lmul hx hb hd (h H locs ls hP hS hl)

theorem e_ldiv {k : ea_K} {own : String} {cc : ByteArray} {nL d : Nat} (C : ea_C k own cc nL d) {pc : Nat} {lv : List (Nat × Value)} {st : List Value} {M : ea_M} {x y : Int64} (hd : decode cc pc = .ok (.ldiv, 1)) (hne : ¬ y = 0) (h : ea_E k (pc + 1) lv (.long (x / y) :: st) M) : ea_E k (pc) lv (.long y :: .long x :: st) M := by
  obtain ⟨p, l, e, R, s, m, args, below, meth, c, Q, A, cells, slots, nL0, g⟩ := k
  obtain ⟨hx, hb, hml, hown, hts, hlk, hD, hA, hE, hroom, rfl⟩ := C
  intro H locs ls hP hS hl
  exact lv_ldiv hx hb hd hne (h H locs ls hP hS hl)

theorem e_lrem {k : ea_K} {own : String} {cc : ByteArray} {nL d : Nat} (C : ea_C k own cc nL d) {pc : Nat} {lv : List (Nat × Value)} {st : List Value} {M : ea_M} {x y : Int64} (hd : decode cc pc = .ok (.lrem, 1)) (hne : ¬ y = 0) (h : ea_E k (pc + 1) lv (.long (x - x / y * y) :: st) M) : ea_E k (pc) lv (.long y :: .long x :: st) M := by
  obtain ⟨p, l, e, R, s, m, args, below, meth, c, Q, A, cells, slots, nL0, g⟩ := k
  obtain ⟨hx, hb, hml, hown, hts, hlk, hD, hA, hE, hroom, rfl⟩ := C
  intro H locs ls hP hS hl
  exact lv_lrem hx hb hd hne (h H locs ls hP hS hl)

theorem e_lneg {k : ea_K} {own : String} {cc : ByteArray} {nL d : Nat} (C : ea_C k own cc nL d) {pc : Nat} {lv : List (Nat × Value)} {st : List Value} {M : ea_M} {x : Int64} (hd : decode cc pc = .ok (.lneg, 1)) (h : ea_E k (pc + 1) lv (.long (-x) :: st) M) : ea_E k (pc) lv (.long x :: st) M := by
  obtain ⟨p, l, e, R, s, m, args, below, meth, c, Q, A, cells, slots, nL0, g⟩ := k
  obtain ⟨hx, hb, hml, hown, hts, hlk, hD, hA, hE, hroom, rfl⟩ := C
  intro H locs ls hP hS hl
  exact lv_lneg hx hb hd (h H locs ls hP hS hl)

theorem e_i2l {k : ea_K} {own : String} {cc : ByteArray} {nL d : Nat} (C : ea_C k own cc nL d) {pc : Nat} {lv : List (Nat × Value)} {st : List Value} {M : ea_M} {x : Int32} (hd : decode cc pc = .ok (.i2l, 1)) (h : ea_E k (pc + 1) lv (.long x.toInt64 :: st) M) : ea_E k (pc) lv (.int x :: st) M := by
  obtain ⟨p, l, e, R, s, m, args, below, meth, c, Q, A, cells, slots, nL0, g⟩ := k
  obtain ⟨hx, hb, hml, hown, hts, hlk, hD, hA, hE, hroom, rfl⟩ := C
  intro H locs ls hP hS hl
  exact lv_i2l hx hb hd rfl (h H locs ls hP hS hl)

theorem e_l2i {k : ea_K} {own : String} {cc : ByteArray} {nL d : Nat} (C : ea_C k own cc nL d) {pc : Nat} {lv : List (Nat × Value)} {st : List Value} {M : ea_M} {x : Int64} (hd : decode cc pc = .ok (.l2i, 1)) (h : ea_E k (pc + 1) lv (.int x.toInt32 :: st) M) : ea_E k (pc) lv (.long x :: st) M := by
  obtain ⟨p, l, e, R, s, m, args, below, meth, c, Q, A, cells, slots, nL0, g⟩ := k
  obtain ⟨hx, hb, hml, hown, hts, hlk, hD, hA, hE, hroom, rfl⟩ := C
  intro H locs ls hP hS hl
  exact lv_l2i hx hb hd rfl (h H locs ls hP hS hl)

theorem e_dup {k : ea_K} {own : String} {cc : ByteArray} {nL d : Nat} (C : ea_C k own cc nL d) {pc : Nat} {lv : List (Nat × Value)} {st : List Value} {M : ea_M} {v : Value} (hd : decode cc pc = .ok (.dup, 1)) (hc : v.category = 1) (h : ea_E k (pc + 1) lv (v :: v :: st) M) : ea_E k (pc) lv (v :: st) M := by
  obtain ⟨p, l, e, R, s, m, args, below, meth, c, Q, A, cells, slots, nL0, g⟩ := k
  obtain ⟨hx, hb, hml, hown, hts, hlk, hD, hA, hE, hroom, rfl⟩ := C
  intro H locs ls hP hS hl
  exact lv_dup hx hb hd (by rw [ea_cat]; exact hc) (h H locs ls hP hS hl)

theorem e_pop {k : ea_K} {own : String} {cc : ByteArray} {nL d : Nat} (C : ea_C k own cc nL d) {pc : Nat} {lv : List (Nat × Value)} {st : List Value} {M : ea_M} {v : Value} (hd : decode cc pc = .ok (.pop, 1)) (hc : v.category = 1) (h : ea_E k (pc + 1) lv (st) M) : ea_E k (pc) lv (v :: st) M := by
  obtain ⟨p, l, e, R, s, m, args, below, meth, c, Q, A, cells, slots, nL0, g⟩ := k
  obtain ⟨hx, hb, hml, hown, hts, hlk, hD, hA, hE, hroom, rfl⟩ := C
  intro H locs ls hP hS hl
  exact lv_pop hx hb hd (by rw [ea_cat]; exact hc) (h H locs ls hP hS hl)

theorem e_dup2 {k : ea_K} {own : String} {cc : ByteArray} {nL d : Nat} (C : ea_C k own cc nL d) {pc : Nat} {lv : List (Nat × Value)} {st : List Value} {M : ea_M} {v w : Value} (hd : decode cc pc = .ok (.dup2, 1)) (hc : v.category = 1) (hc2 : w.category = 1) (h : ea_E k (pc + 1) lv (v :: w :: v :: w :: st) M) : ea_E k (pc) lv (v :: w :: st) M := by
  obtain ⟨p, l, e, R, s, m, args, below, meth, c, Q, A, cells, slots, nL0, g⟩ := k
  obtain ⟨hx, hb, hml, hown, hts, hlk, hD, hA, hE, hroom, rfl⟩ := C
  intro H locs ls hP hS hl
  exact lv_dup2_11 hx hb hd (by rw [ea_cat]; exact hc) (by rw [ea_cat]; exact hc2) (h H locs ls hP hS hl)

-- BRANCHES
theorem e_goto {k : ea_K} {own : String} {cc : ByteArray} {nL d : Nat} (C : ea_C k own cc nL d) {pc : Nat} {lv : List (Nat × Value)} {st : List Value} {M : ea_M} {off : Int} {tgt : Nat} (hd : decode cc pc = .ok (.goto off, 3)) (ht : (pc : Int) + off = (tgt : Int)) (h : ea_E k (tgt) lv (st) M) : ea_E k (pc) lv (st) M := by
  obtain ⟨p, l, e, R, s, m, args, below, meth, c, Q, A, cells, slots, nL0, g⟩ := k
  obtain ⟨hx, hb, hml, hown, hts, hlk, hD, hA, hE, hroom, rfl⟩ := C
  intro H locs ls hP hS hl
  exact lv_goto hx hb hd ht (h H locs ls hP hS hl)

theorem e_ifnonnull {k : ea_K} {own : String} {cc : ByteArray} {nL d : Nat} (C : ea_C k own cc nL d) {pc : Nat} {lv : List (Nat × Value)} {st : List Value} {M : ea_M} {x : Nat} {off : Int} {tgt : Nat} (hd : decode cc pc = .ok (.ifnonnull off, 3)) (ht : (pc : Int) + off = (tgt : Int)) (h : ea_E k (tgt) lv (st) M) : ea_E k (pc) lv (.ref x :: st) M := by
  obtain ⟨p, l, e, R, s, m, args, below, meth, c, Q, A, cells, slots, nL0, g⟩ := k
  obtain ⟨hx, hb, hml, hown, hts, hlk, hD, hA, hE, hroom, rfl⟩ := C
  intro H locs ls hP hS hl
  exact lv_ifnonnull hx hb hd ht (h H locs ls hP hS hl)

theorem e_ifnull {k : ea_K} {own : String} {cc : ByteArray} {nL d : Nat} (C : ea_C k own cc nL d) {pc : Nat} {lv : List (Nat × Value)} {st : List Value} {M : ea_M} {x : Nat} {off : Int} (hd : decode cc pc = .ok (.ifnull off, 3)) (h : ea_E k (pc + 3) lv (st) M) : ea_E k (pc) lv (.ref x :: st) M := by
  obtain ⟨p, l, e, R, s, m, args, below, meth, c, Q, A, cells, slots, nL0, g⟩ := k
  obtain ⟨hx, hb, hml, hown, hts, hlk, hD, hA, hE, hroom, rfl⟩ := C
  intro H locs ls hP hS hl
  exact lv_ifnull hx hb hd (h H locs ls hP hS hl)

theorem e_ifnonnullN {k : ea_K} {own : String} {cc : ByteArray} {nL d : Nat} (C : ea_C k own cc nL d) {pc : Nat} {lv : List (Nat × Value)} {st : List Value} {M : ea_M} {off : Int} (hd : decode cc pc = .ok (.ifnonnull off, 3)) (h : ea_E k (pc + 3) lv (st) M) : ea_E k (pc) lv (.null :: st) M := by
  obtain ⟨p, l, e, R, s, m, args, below, meth, c, Q, A, cells, slots, nL0, g⟩ := k
  obtain ⟨hx, hb, hml, hown, hts, hlk, hD, hA, hE, hroom, rfl⟩ := C
  intro H locs ls hP hS hl
  exact lv_ifnonnullN hx hb hd (h H locs ls hP hS hl)

theorem e_ifnullN {k : ea_K} {own : String} {cc : ByteArray} {nL d : Nat} (C : ea_C k own cc nL d) {pc : Nat} {lv : List (Nat × Value)} {st : List Value} {M : ea_M} {off : Int} {tgt : Nat} (hd : decode cc pc = .ok (.ifnull off, 3)) (ht : (pc : Int) + off = (tgt : Int)) (h : ea_E k (tgt) lv (st) M) : ea_E k (pc) lv (.null :: st) M := by
  obtain ⟨p, l, e, R, s, m, args, below, meth, c, Q, A, cells, slots, nL0, g⟩ := k
  obtain ⟨hx, hb, hml, hown, hts, hlk, hD, hA, hE, hroom, rfl⟩ := C
  intro H locs ls hP hS hl
  exact lv_ifnullN hx hb hd ht (h H locs ls hP hS hl)

theorem e_tabOut {k : ea_K} {own : String} {cc : ByteArray} {nL d : Nat} (C : ea_C k own cc nL d) {pc : Nat} {lv : List (Nat × Value)} {st : List Value} {M : ea_M} {dflt lo hi : Int} {offs : Array Int} {len : Nat} {x : Int32} {tgt : Nat} (hd : decode cc pc = .ok (.tableswitch dflt lo hi offs, len)) (hx2 : x.toInt < lo ∨ hi < x.toInt) (ht : (pc : Int) + dflt = (tgt : Int)) (h : ea_E k (tgt) lv (st) M) : ea_E k (pc) lv (.int x :: st) M := by
  obtain ⟨p, l, e, R, s, m, args, below, meth, c, Q, A, cells, slots, nL0, g⟩ := k
  obtain ⟨hx, hb, hml, hown, hts, hlk, hD, hA, hE, hroom, rfl⟩ := C
  intro H locs ls hP hS hl
  exact lv_tableOut hx hb hd hx2 ht (h H locs ls hP hS hl)

theorem e_tabIn {k : ea_K} {own : String} {cc : ByteArray} {nL d : Nat} (C : ea_C k own cc nL d) {pc : Nat} {lv : List (Nat × Value)} {st : List Value} {M : ea_M} {dflt lo hi : Int} {offs : Array Int} {len : Nat} {x : Int32} {off : Int} {tgt : Nat} (hd : decode cc pc = .ok (.tableswitch dflt lo hi offs, len)) (h1 : ¬ x.toInt < lo) (h2 : ¬ hi < x.toInt) (ho : offs[(x.toInt - lo).toNat]? = some off) (ht : (pc : Int) + off = (tgt : Int)) (h : ea_E k (tgt) lv (st) M) : ea_E k (pc) lv (.int x :: st) M := by
  obtain ⟨p, l, e, R, s, m, args, below, meth, c, Q, A, cells, slots, nL0, g⟩ := k
  obtain ⟨hx, hb, hml, hown, hts, hlk, hD, hA, hE, hroom, rfl⟩ := C
  intro H locs ls hP hS hl
  exact lv_tableIn hx hb hd h1 h2 ho ht (h H locs ls hP hS hl)

theorem e_perm {k : ea_K} {own : String} {cc : ByteArray} {nL d : Nat} (C : ea_C k own cc nL d) {pc : Nat} {lv : List (Nat × Value)} {st : List Value} {M : ea_M} (ks : List Nat) {lv' : List (Nat × Value)} (hp : lv_pick lv ks = lv') (h : ea_E k (pc) lv' (st) M) : ea_E k (pc) lv (st) M := by
  obtain ⟨p, l, e, R, s, m, args, below, meth, c, Q, A, cells, slots, nL0, g⟩ := k
  obtain ⟨hx, hb, hml, hown, hts, hlk, hD, hA, hE, hroom, rfl⟩ := C
  intro H locs ls hP hS hl
  refine h H locs ls hP hS (lv_sub hl ks ?_)
  subst hp
  simp only [lv_pick, List.map_filterMap, List.getElem?_map]

theorem e_ldc {k : ea_K} {own : String} {cc : ByteArray} {nL d : Nat} (C : ea_C k own cc nL d) {pc : Nat} {lv : List (Nat × Value)} {st : List Value} {M : ea_M} {index : Nat} {v : Int32} (hc : Cond.constant own index v ∈ wsL_law) (hd : decode cc pc = .ok (.ldc index, 2)) (h : ea_E k (pc + 2) lv (.int v :: st) M) : ea_E k (pc) lv (st) M := by
  obtain ⟨p, l, e, R, s, m, args, below, meth, c, Q, A, cells, slots, nL0, g⟩ := k
  obtain ⟨hx, hb, hml, hown, hts, hlk, hD, hA, hE, hroom, rfl⟩ := C
  intro H locs ls hP hS hl
  exact lv_ldc hx hb hown (hts _ hc) hd (h H locs ls hP hS hl)

theorem e_ldc2 {k : ea_K} {own : String} {cc : ByteArray} {nL d : Nat} (C : ea_C k own cc nL d) {pc : Nat} {lv : List (Nat × Value)} {st : List Value} {M : ea_M} {index : Nat} {v : Int64} (hc : Cond.constantLong own index v ∈ wsL_law) (hd : decode cc pc = .ok (.ldc2_w index, 3)) (h : ea_E k (pc + 3) lv (.long v :: st) M) : ea_E k (pc) lv (st) M := by
  obtain ⟨p, l, e, R, s, m, args, below, meth, c, Q, A, cells, slots, nL0, g⟩ := k
  obtain ⟨hx, hb, hml, hown, hts, hlk, hD, hA, hE, hroom, rfl⟩ := C
  intro H locs ls hP hS hl
  exact lv_ldc2 hx hb hown (hts _ hc) hd (h H locs ls hP hS hl)

theorem e_if_eq {k : ea_K} {own : String} {cc : ByteArray} {nL d : Nat} (C : ea_C k own cc nL d) {pc : Nat} {lv : List (Nat × Value)} {st : List Value} {M : ea_M} {x : Int32} {off : Int} {tgt : Nat} (hd : decode cc pc = .ok (.ifCond .eq off, 3)) (ht : (pc : Int) + off = (tgt : Int)) (kt : x = 0 → ea_E k (tgt) lv (st) M) (kf : ¬ x = 0 → ea_E k (pc + 3) lv (st) M) : ea_E k (pc) lv (.int x :: st) M := by
  obtain ⟨p, l, e, R, s, m, args, below, meth, c, Q, A, cells, slots, nL0, g⟩ := k
  obtain ⟨hx, hb, hml, hown, hts, hlk, hD, hA, hE, hroom, rfl⟩ := C
  intro H locs ls hP hS hl
  exact lv_if_eq hx hb hd ht (fun q => kt q H locs ls hP hS hl) (fun q => kf q H locs ls hP hS hl)

theorem e_if_ne {k : ea_K} {own : String} {cc : ByteArray} {nL d : Nat} (C : ea_C k own cc nL d) {pc : Nat} {lv : List (Nat × Value)} {st : List Value} {M : ea_M} {x : Int32} {off : Int} {tgt : Nat} (hd : decode cc pc = .ok (.ifCond .ne off, 3)) (ht : (pc : Int) + off = (tgt : Int)) (kt : ¬ x = 0 → ea_E k (tgt) lv (st) M) (kf : x = 0 → ea_E k (pc + 3) lv (st) M) : ea_E k (pc) lv (.int x :: st) M := by
  obtain ⟨p, l, e, R, s, m, args, below, meth, c, Q, A, cells, slots, nL0, g⟩ := k
  obtain ⟨hx, hb, hml, hown, hts, hlk, hD, hA, hE, hroom, rfl⟩ := C
  intro H locs ls hP hS hl
  exact lv_if_ne hx hb hd ht (fun q => kt q H locs ls hP hS hl) (fun q => kf q H locs ls hP hS hl)

theorem e_if_lt {k : ea_K} {own : String} {cc : ByteArray} {nL d : Nat} (C : ea_C k own cc nL d) {pc : Nat} {lv : List (Nat × Value)} {st : List Value} {M : ea_M} {x : Int32} {off : Int} {tgt : Nat} (hd : decode cc pc = .ok (.ifCond .lt off, 3)) (ht : (pc : Int) + off = (tgt : Int)) (kt : x < 0 → ea_E k (tgt) lv (st) M) (kf : ¬ x < 0 → ea_E k (pc + 3) lv (st) M) : ea_E k (pc) lv (.int x :: st) M := by
  obtain ⟨p, l, e, R, s, m, args, below, meth, c, Q, A, cells, slots, nL0, g⟩ := k
  obtain ⟨hx, hb, hml, hown, hts, hlk, hD, hA, hE, hroom, rfl⟩ := C
  intro H locs ls hP hS hl
  exact lv_if_lt hx hb hd ht (fun q => kt q H locs ls hP hS hl) (fun q => kf q H locs ls hP hS hl)

theorem e_if_ge {k : ea_K} {own : String} {cc : ByteArray} {nL d : Nat} (C : ea_C k own cc nL d) {pc : Nat} {lv : List (Nat × Value)} {st : List Value} {M : ea_M} {x : Int32} {off : Int} {tgt : Nat} (hd : decode cc pc = .ok (.ifCond .ge off, 3)) (ht : (pc : Int) + off = (tgt : Int)) (kt : 0 ≤ x → ea_E k (tgt) lv (st) M) (kf : ¬ 0 ≤ x → ea_E k (pc + 3) lv (st) M) : ea_E k (pc) lv (.int x :: st) M := by
  obtain ⟨p, l, e, R, s, m, args, below, meth, c, Q, A, cells, slots, nL0, g⟩ := k
  obtain ⟨hx, hb, hml, hown, hts, hlk, hD, hA, hE, hroom, rfl⟩ := C
  intro H locs ls hP hS hl
  exact lv_if_ge hx hb hd ht (fun q => kt q H locs ls hP hS hl) (fun q => kf q H locs ls hP hS hl)

theorem e_if_gt {k : ea_K} {own : String} {cc : ByteArray} {nL d : Nat} (C : ea_C k own cc nL d) {pc : Nat} {lv : List (Nat × Value)} {st : List Value} {M : ea_M} {x : Int32} {off : Int} {tgt : Nat} (hd : decode cc pc = .ok (.ifCond .gt off, 3)) (ht : (pc : Int) + off = (tgt : Int)) (kt : 0 < x → ea_E k (tgt) lv (st) M) (kf : ¬ 0 < x → ea_E k (pc + 3) lv (st) M) : ea_E k (pc) lv (.int x :: st) M := by
  obtain ⟨p, l, e, R, s, m, args, below, meth, c, Q, A, cells, slots, nL0, g⟩ := k
  obtain ⟨hx, hb, hml, hown, hts, hlk, hD, hA, hE, hroom, rfl⟩ := C
  intro H locs ls hP hS hl
  exact lv_if_gt hx hb hd ht (fun q => kt q H locs ls hP hS hl) (fun q => kf q H locs ls hP hS hl)

theorem e_if_le {k : ea_K} {own : String} {cc : ByteArray} {nL d : Nat} (C : ea_C k own cc nL d) {pc : Nat} {lv : List (Nat × Value)} {st : List Value} {M : ea_M} {x : Int32} {off : Int} {tgt : Nat} (hd : decode cc pc = .ok (.ifCond .le off, 3)) (ht : (pc : Int) + off = (tgt : Int)) (kt : x ≤ 0 → ea_E k (tgt) lv (st) M) (kf : ¬ x ≤ 0 → ea_E k (pc + 3) lv (st) M) : ea_E k (pc) lv (.int x :: st) M := by
  obtain ⟨p, l, e, R, s, m, args, below, meth, c, Q, A, cells, slots, nL0, g⟩ := k
  obtain ⟨hx, hb, hml, hown, hts, hlk, hD, hA, hE, hroom, rfl⟩ := C
  intro H locs ls hP hS hl
  exact lv_if_le hx hb hd ht (fun q => kt q H locs ls hP hS hl) (fun q => kf q H locs ls hP hS hl)

theorem e_icmp_eq {k : ea_K} {own : String} {cc : ByteArray} {nL d : Nat} (C : ea_C k own cc nL d) {pc : Nat} {lv : List (Nat × Value)} {st : List Value} {M : ea_M} {x y : Int32} {off : Int} {tgt : Nat} (hd : decode cc pc = .ok (.if_icmp .eq off, 3)) (ht : (pc : Int) + off = (tgt : Int)) (kt : x = y → ea_E k (tgt) lv (st) M) (kf : ¬ x = y → ea_E k (pc + 3) lv (st) M) : ea_E k (pc) lv (.int y :: .int x :: st) M := by
  obtain ⟨p, l, e, R, s, m, args, below, meth, c, Q, A, cells, slots, nL0, g⟩ := k
  obtain ⟨hx, hb, hml, hown, hts, hlk, hD, hA, hE, hroom, rfl⟩ := C
  intro H locs ls hP hS hl
  exact lv_icmp_eq hx hb hd ht (fun q => kt q H locs ls hP hS hl) (fun q => kf q H locs ls hP hS hl)

theorem e_icmp_ne {k : ea_K} {own : String} {cc : ByteArray} {nL d : Nat} (C : ea_C k own cc nL d) {pc : Nat} {lv : List (Nat × Value)} {st : List Value} {M : ea_M} {x y : Int32} {off : Int} {tgt : Nat} (hd : decode cc pc = .ok (.if_icmp .ne off, 3)) (ht : (pc : Int) + off = (tgt : Int)) (kt : ¬ x = y → ea_E k (tgt) lv (st) M) (kf : x = y → ea_E k (pc + 3) lv (st) M) : ea_E k (pc) lv (.int y :: .int x :: st) M := by
  obtain ⟨p, l, e, R, s, m, args, below, meth, c, Q, A, cells, slots, nL0, g⟩ := k
  obtain ⟨hx, hb, hml, hown, hts, hlk, hD, hA, hE, hroom, rfl⟩ := C
  intro H locs ls hP hS hl
  exact lv_icmp_ne hx hb hd ht (fun q => kt q H locs ls hP hS hl) (fun q => kf q H locs ls hP hS hl)

theorem e_icmp_lt {k : ea_K} {own : String} {cc : ByteArray} {nL d : Nat} (C : ea_C k own cc nL d) {pc : Nat} {lv : List (Nat × Value)} {st : List Value} {M : ea_M} {x y : Int32} {off : Int} {tgt : Nat} (hd : decode cc pc = .ok (.if_icmp .lt off, 3)) (ht : (pc : Int) + off = (tgt : Int)) (kt : x < y → ea_E k (tgt) lv (st) M) (kf : ¬ x < y → ea_E k (pc + 3) lv (st) M) : ea_E k (pc) lv (.int y :: .int x :: st) M := by
  obtain ⟨p, l, e, R, s, m, args, below, meth, c, Q, A, cells, slots, nL0, g⟩ := k
  obtain ⟨hx, hb, hml, hown, hts, hlk, hD, hA, hE, hroom, rfl⟩ := C
  intro H locs ls hP hS hl
  exact lv_icmp_lt hx hb hd ht (fun q => kt q H locs ls hP hS hl) (fun q => kf q H locs ls hP hS hl)

theorem e_icmp_ge {k : ea_K} {own : String} {cc : ByteArray} {nL d : Nat} (C : ea_C k own cc nL d) {pc : Nat} {lv : List (Nat × Value)} {st : List Value} {M : ea_M} {x y : Int32} {off : Int} {tgt : Nat} (hd : decode cc pc = .ok (.if_icmp .ge off, 3)) (ht : (pc : Int) + off = (tgt : Int)) (kt : y ≤ x → ea_E k (tgt) lv (st) M) (kf : ¬ y ≤ x → ea_E k (pc + 3) lv (st) M) : ea_E k (pc) lv (.int y :: .int x :: st) M := by
  obtain ⟨p, l, e, R, s, m, args, below, meth, c, Q, A, cells, slots, nL0, g⟩ := k
  obtain ⟨hx, hb, hml, hown, hts, hlk, hD, hA, hE, hroom, rfl⟩ := C
  intro H locs ls hP hS hl
  exact lv_icmp_ge hx hb hd ht (fun q => kt q H locs ls hP hS hl) (fun q => kf q H locs ls hP hS hl)

theorem e_icmp_gt {k : ea_K} {own : String} {cc : ByteArray} {nL d : Nat} (C : ea_C k own cc nL d) {pc : Nat} {lv : List (Nat × Value)} {st : List Value} {M : ea_M} {x y : Int32} {off : Int} {tgt : Nat} (hd : decode cc pc = .ok (.if_icmp .gt off, 3)) (ht : (pc : Int) + off = (tgt : Int)) (kt : y < x → ea_E k (tgt) lv (st) M) (kf : ¬ y < x → ea_E k (pc + 3) lv (st) M) : ea_E k (pc) lv (.int y :: .int x :: st) M := by
  obtain ⟨p, l, e, R, s, m, args, below, meth, c, Q, A, cells, slots, nL0, g⟩ := k
  obtain ⟨hx, hb, hml, hown, hts, hlk, hD, hA, hE, hroom, rfl⟩ := C
  intro H locs ls hP hS hl
  exact lv_icmp_gt hx hb hd ht (fun q => kt q H locs ls hP hS hl) (fun q => kf q H locs ls hP hS hl)

theorem e_icmp_le {k : ea_K} {own : String} {cc : ByteArray} {nL d : Nat} (C : ea_C k own cc nL d) {pc : Nat} {lv : List (Nat × Value)} {st : List Value} {M : ea_M} {x y : Int32} {off : Int} {tgt : Nat} (hd : decode cc pc = .ok (.if_icmp .le off, 3)) (ht : (pc : Int) + off = (tgt : Int)) (kt : x ≤ y → ea_E k (tgt) lv (st) M) (kf : ¬ x ≤ y → ea_E k (pc + 3) lv (st) M) : ea_E k (pc) lv (.int y :: .int x :: st) M := by
  obtain ⟨p, l, e, R, s, m, args, below, meth, c, Q, A, cells, slots, nL0, g⟩ := k
  obtain ⟨hx, hb, hml, hown, hts, hlk, hD, hA, hE, hroom, rfl⟩ := C
  intro H locs ls hP hS hl
  exact lv_icmp_le hx hb hd ht (fun q => kt q H locs ls hP hS hl) (fun q => kf q H locs ls hP hS hl)

theorem e_lcmp {k : ea_K} {own : String} {cc : ByteArray} {nL d : Nat} (C : ea_C k own cc nL d) {pc : Nat} {lv : List (Nat × Value)} {st : List Value} {M : ea_M} {x y : Int64} (hd : decode cc pc = .ok (.lcmp, 1)) (h : ea_E k (pc + 1) lv (.int (lg_cmp x y) :: st) M) : ea_E k (pc) lv (.long y :: .long x :: st) M := by
  obtain ⟨p, l, e, R, s, m, args, below, meth, c, Q, A, cells, slots, nL0, g⟩ := k
  obtain ⟨hx, hb, hml, hown, hts, hlk, hD, hA, hE, hroom, rfl⟩ := C
  intro H locs ls hP hS hl
  exact W.lcmp hx hb hd (h H locs ls hP hS hl)

-- FIELDS, ROWS, CALLS
def ea_cT (ci : Nat) : u_T := match ci with
  | 0 => TX0 | 1 => TX1 | 2 => TX2 | 3 => TX3 | 4 => TX4 | 5 => TX5 | 6 => TX6 | _ => TX7
def ea_cR (ci : Nat) : String := match ci with
  | 0 => RX0 | 1 => RX1 | 2 => RX2 | 3 => RX3 | 4 => RX4 | 5 => RX5 | 6 => RX6 | _ => RX7
def ea_cN (ci : Nat) : Nat := match ci with
  | 0 => 5 | 1 => 5 | 2 => 3 | 3 => 5 | 4 => 9 | 5 => 7 | 6 => 5 | _ => 27
def ea_cY (ci : Nat) : Nat → FieldType := match ci with
  | 0 => tyX0 | 1 => tyX1 | 2 => tyX2 | 3 => tyX3 | 4 => tyX4 | 5 => tyX5 | 6 => tyX6 | _ => tyX7
theorem ea_c8 {P : Nat → Prop} (h0 : P 0) (h1 : P 1) (h2 : P 2) (h3 : P 3) (h4 : P 4) (h5 : P 5) (h6 : P 6) (h7 : P 7) {ci : Nat} (h : ci < 8) : P ci := by
  rcases (show ci = 0 ∨ ci = 1 ∨ ci = 2 ∨ ci = 3 ∨ ci = 4 ∨ ci = 5 ∨ ci = 6 ∨ ci = 7 by omega) with rfl | rfl | rfl | rfl | rfl | rfl | rfl | rfl <;> assumption
theorem ea_cCl {ci : Nat} (h : ci < 8) : vwCl[ci]? = some (ea_cR ci, ea_cT ci, ea_cN ci) := ea_c8 (P := fun ci => vwCl[ci]? = some (ea_cR ci, ea_cT ci, ea_cN ci)) rfl rfl rfl rfl rfl rfl rfl rfl h
theorem ea_cIn {ci : Nat} (h : ci < 8) : ∀ w ∈ u_ws (ea_cR ci) (ea_cT ci) (ea_cN ci), w ∈ wsL_law := ea_c8 (P := fun ci => ∀ w ∈ u_ws (ea_cR ci) (ea_cT ci) (ea_cN ci), w ∈ wsL_law) inlX0 inlX1 inlX2 inlX3 inlX4 inlX5 inlX6 inlX7 h
theorem ea_cTy {ci : Nat} (h : ci < 8) : ∀ k, k < ea_cN ci → parseFieldDescriptor (ea_cT ci k).2.2.1 = some (ea_cY ci k) := ea_c8 (P := fun ci => ∀ k, k < ea_cN ci → parseFieldDescriptor (ea_cT ci k).2.2.1 = some (ea_cY ci k)) tyX0_ok tyX1_ok tyX2_ok tyX3_ok tyX4_ok tyX5_ok tyX6_ok tyX7_ok h
theorem ea_cNm {ci : Nat} (h : ci < 8) : ∀ a, a < ea_cN ci → ∀ b, b < ea_cN ci → a ≠ b → (ea_cT ci a).2.1 ≠ (ea_cT ci b).2.1 := ea_c8 (P := fun ci => ∀ a, a < ea_cN ci → ∀ b, b < ea_cN ci → a ≠ b → (ea_cT ci a).2.1 ≠ (ea_cT ci b).2.1) nmX0 nmX1 nmX2 nmX3 nmX4 nmX5 nmX6 nmX7 h
theorem ea_cOw {ci : Nat} (h : ci < 8) : ∀ k, k < ea_cN ci → (ea_cT ci k).1 = ea_cR ci := ea_c8 (P := fun ci => ∀ k, k < ea_cN ci → (ea_cT ci k).1 = ea_cR ci) (by decide +kernel) (by decide +kernel) (by decide +kernel) (by decide +kernel) (by decide +kernel) (by decide +kernel) (by decide +kernel) (by decide +kernel) h
theorem ea_cLen {ci : Nat} (h : ci < 8) (x : Nat) (r : Nat → Int32) : (ea_fl ci x r).length = ea_cN ci := ea_c8 (P := fun ci => (ea_fl ci x r).length = ea_cN ci) rfl rfl rfl rfl rfl rfl rfl rfl h
theorem ea_ceO {g : ea_G} {x ci : Nat} (h : ci < 8) (hk : ea_kd x = ci) (r : Nat → Int32) : ea_ce g x r = .inr (ci, (ea_fl ci x r).map (ea_tr g)) := by
  subst hk
  simp [ea_ce, show ea_kd x < 1000 by omega]
theorem ea_ceI {g : ea_G} {x n : Nat} (h : n < 1000) (hk : ea_kd x = 1000 + n) (r : Nat → Int32) : ea_ce g x r = .inl (g.2.1 0, n, .inl r) := by
  simp only [ea_ce, hk]
  rw [if_neg (by omega), if_pos (by omega), Nat.add_sub_cancel_left]
theorem ea_ceZ {g : ea_G} {x n : Nat} (h : n < 1000) (hk : ea_kd x = 2000 + n) (r : Nat → Int32) : ea_ce g x r = .inl (g.2.1 1, n, .inl r) := by
  simp only [ea_ce, hk]
  rw [if_neg (by omega), if_neg (by omega), if_pos (by omega), Nat.add_sub_cancel_left]
theorem ea_ceB {g : ea_G} {x n : Nat} (h : n < 1000) (hk : ea_kd x = 3000 + n) (r : Nat → Int32) : ea_ce g x r = .inl (g.2.1 2, n, .inr (.inr (.inr (.inr (fun i => (ea_ra x i).map g.2.2.1))))) := by
  simp only [ea_ce, hk]
  rw [if_neg (by omega), if_neg (by omega), if_neg (by omega), if_pos (by omega), Nat.add_sub_cancel_left]
theorem ea_ceW {g : ea_G} {x n : Nat} (hk : ea_kd x = 4000 + n) (r : Nat → Int32) : ea_ce g x r = .inl (g.2.1 3, n, .inr (.inr (.inr (.inr (fun i => (ea_ra x i).map g.2.2.1))))) := by
  simp only [ea_ce, hk]
  rw [if_neg (by omega), if_neg (by omega), if_neg (by omega), if_neg (by omega), Nat.add_sub_cancel_left]
/-- field k of class ci, as the class 'own' names it at place idx of its pool -/
def ea_Fd (own : String) (idx ci k : Nat) : Prop := ci < 8 ∧ k < ea_cN ci ∧ Cond.fieldLink own idx (ea_cR ci) (ea_cT ci k).2.1 (ea_cT ci k).2.2.1 ∈ wsL_law
theorem e_get {k : ea_K} {own : String} {cc : ByteArray} {nL d : Nat} (C : ea_C k own cc nL d) {pc : Nat} {lv : List (Nat × Value)} {st : List Value} {M : ea_M} {x ci f idx : Nat} {v : Value} (F : ea_Fd own idx ci f) (hx7 : x < 79) (hkd : ea_kd x = ci) (hv : (ea_fl ci x (M x))[f]? = some v) (hd : decode cc pc = .ok (.getfield idx, 3)) (h : ea_E k (pc + 3) lv (v :: st) M) : ea_E k pc lv (.ref x :: st) M := by
  obtain ⟨p, l, e, R, s, m, args, below, meth, c, Q, A, cells, slots, nL0, g⟩ := k
  obtain ⟨hx, hb, hml, hown, hts, hlk, hD, hA, hE, hroom, rfl⟩ := C
  intro H locs ls hP hS hl
  obtain ⟨F1, F2, F3⟩ := F
  have hw := ea_Wd_at g M hx7
  rw [ea_ceO F1 hkd] at hw
  exact va_get (D := g.1) (ci := ci) (v := ea_tr g v) (C := ea_cR ci) (T := ea_cT ci) (N := ea_cN ci) hx hb hts (ea_cIn F1) hown hE.1 hP x hw (ea_cCl F1) f F2 (hts _ F3) (by rw [ea_cOw F1 f F2]; exact fun _ h9 => h9) (by rw [List.getElem?_map, hv]; rfl) hd (h H locs ls hP hS hl)
theorem e_put {k : ea_K} {own : String} {cc : ByteArray} {nL d : Nat} (C : ea_C k own cc nL d) {pc : Nat} {lv : List (Nat × Value)} {st : List Value} {M : ea_M} {x ci f idx : Nat} {ty : FieldType} {v : Int32} (F : ea_Fd own idx ci f) (hx7 : x < 79) (hkd : ea_kd x = ci) (hfin : (ea_cT ci f).2.2.2 = false) (hty : parseFieldDescriptor (ea_cT ci f).2.2.1 = some ty) (hn : narrow ty (.int v) = .int v) (hfit : fits ty (.int v) = true) (hv : ea_fl ci x (upd (M x) f v) = (ea_fl ci x (M x)).set f (.int v)) (hd : decode cc pc = .ok (.putfield idx, 3)) (h : ea_E k (pc + 3) lv st (ea_up M x f v)) : ea_E k pc lv (.int v :: .ref x :: st) M := by
  obtain ⟨p, l, e, R, s, m, args, below, meth, c, Q, A, cells, slots, nL0, g⟩ := k
  obtain ⟨hx, hb, hml, hown, hts, hlk, hD, hA, hE, hroom, rfl⟩ := C
  intro H locs ls hP hS hl
  obtain ⟨F1, F2, F3⟩ := F
  have hw := ea_Wd_at g M hx7
  rw [ea_ceO F1 hkd] at hw
  refine va_put (D := g.1) (ci := ci) (v := .int v) (ty := ty) (C := ea_cR ci) (T := ea_cT ci) (N := ea_cN ci) hx hb hts (ea_cIn F1) (ea_cY ci) (ea_cTy F1) (ea_cNm F1) hown hE.1 hP (ea_D_any hD) hS x hw (ea_cCl F1) f F2 (hts _ F3) (by rw [ea_cOw F1 f F2]; exact fun _ h9 => h9) hfin hty hn hfit (by rw [List.length_map, ea_cLen F1]; exact F2) hd (fun H1 locs1 hP1 hD1 hS1 => h H1 locs1 ls ?_ hS1 hl)
  have e2 : ((ea_fl ci x (M x)).map (ea_tr g)).set f (.int v) = (ea_fl ci x (upd (M x) f v)).map (ea_tr g) := by
    rw [hv, List.map_set]
    rfl
  rw [e2, ← ea_ceO F1 hkd, ea_Wd_set g M hx7] at hP1
  exact hP1
theorem e_iald {k : ea_K} {own : String} {cc : ByteArray} {nL d : Nat} (C : ea_C k own cc nL d) {pc : Nat} {lv : List (Nat × Value)} {st : List Value} {M : ea_M} {x n : Nat} {i : Int32} (hx7 : x < 79) (hkd : ea_kd x = 1000 + n) (hn : n < 1000) (hin : vp_in i n) (hd : decode cc pc = .ok (.iaload, 1)) (h : ea_E k (pc + 1) lv (.int (M x i.toNatClampNeg) :: st) M) : ea_E k pc lv (.int i :: .ref x :: st) M := by
  obtain ⟨p, l, e, R, s, m, args, below, meth, c, Q, A, cells, slots, nL0, g⟩ := k
  obtain ⟨hx, hb, hml, hown, hts, hlk, hD, hA, hE, hroom, rfl⟩ := C
  intro H locs ls hP hS hl
  have hw := ea_Wd_at g M hx7
  rw [ea_ceI hn hkd] at hw
  exact va_iald hx hb hE.1 hP x 0 hw rfl hin hd (h H locs ls hP hS hl)
theorem e_zald {k : ea_K} {own : String} {cc : ByteArray} {nL d : Nat} (C : ea_C k own cc nL d) {pc : Nat} {lv : List (Nat × Value)} {st : List Value} {M : ea_M} {x n : Nat} {i : Int32} (hx7 : x < 79) (hkd : ea_kd x = 2000 + n) (hn : n < 1000) (hin : vp_in i n) (hd : decode cc pc = .ok (.baload, 1)) (h : ea_E k (pc + 1) lv (.int (M x i.toNatClampNeg) :: st) M) : ea_E k pc lv (.int i :: .ref x :: st) M := by
  obtain ⟨p, l, e, R, s, m, args, below, meth, c, Q, A, cells, slots, nL0, g⟩ := k
  obtain ⟨hx, hb, hml, hown, hts, hlk, hD, hA, hE, hroom, rfl⟩ := C
  intro H locs ls hP hS hl
  have hw := ea_Wd_at g M hx7
  rw [ea_ceZ hn hkd] at hw
  exact va_zald hx hb hE.1 hP x 1 hw rfl hin hd (h H locs ls hP hS hl)
theorem e_iast {k : ea_K} {own : String} {cc : ByteArray} {nL d : Nat} (C : ea_C k own cc nL d) {pc : Nat} {lv : List (Nat × Value)} {st : List Value} {M : ea_M} {x n : Nat} {i v : Int32} (hx7 : x < 79) (hkd : ea_kd x = 1000 + n) (hn : n < 1000) (hin : vp_in i n) (hd : decode cc pc = .ok (.iastore, 1)) (h : ea_E k (pc + 1) lv st (ea_up M x i.toNatClampNeg v)) : ea_E k pc lv (.int v :: .int i :: .ref x :: st) M := by
  obtain ⟨p, l, e, R, s, m, args, below, meth, c, Q, A, cells, slots, nL0, g⟩ := k
  obtain ⟨hx, hb, hml, hown, hts, hlk, hD, hA, hE, hroom, rfl⟩ := C
  intro H locs ls hP hS hl
  have hw := ea_Wd_at g M hx7
  rw [ea_ceI hn hkd] at hw
  refine va_iast hx hb hE.1 hP (ea_D_any hD) hS x 0 hw rfl hin hd (fun H1 locs1 hP1 hD1 hS1 => h H1 locs1 ls ?_ hS1 hl)
  rw [← ea_ceI (g := g) hn hkd, ea_Wd_set g M hx7] at hP1
  exact hP1
theorem e_zast {k : ea_K} {own : String} {cc : ByteArray} {nL d : Nat} (C : ea_C k own cc nL d) {pc : Nat} {lv : List (Nat × Value)} {st : List Value} {M : ea_M} {x n : Nat} {i v : Int32} (hx7 : x < 79) (hkd : ea_kd x = 2000 + n) (hn : n < 1000) (hin : vp_in i n) (hv : vp_nar .boolean v = v) (hd : decode cc pc = .ok (.bastore, 1)) (h : ea_E k (pc + 1) lv st (ea_up M x i.toNatClampNeg v)) : ea_E k pc lv (.int v :: .int i :: .ref x :: st) M := by
  obtain ⟨p, l, e, R, s, m, args, below, meth, c, Q, A, cells, slots, nL0, g⟩ := k
  obtain ⟨hx, hb, hml, hown, hts, hlk, hD, hA, hE, hroom, rfl⟩ := C
  intro H locs ls hP hS hl
  have hw := ea_Wd_at g M hx7
  rw [ea_ceZ hn hkd] at hw
  refine va_zast hx hb hE.1 hP (ea_D_any hD) hS x 1 hw rfl hin hd (fun H1 locs1 hP1 hD1 hS1 => h H1 locs1 ls ?_ hS1 hl)
  rw [hv, ← ea_ceZ (g := g) hn hkd, ea_Wd_set g M hx7] at hP1
  exact hP1
theorem e_aaldB {k : ea_K} {own : String} {cc : ByteArray} {nL d : Nat} (C : ea_C k own cc nL d) {pc : Nat} {lv : List (Nat × Value)} {st : List Value} {M : ea_M} {x n z : Nat} {i : Int32} (hx7 : x < 79) (hkd : ea_kd x = 3000 + n) (hn : n < 1000) (hin : vp_in i n) (hz : ea_ra x i.toNatClampNeg = some z) (hd : decode cc pc = .ok (.aaload, 1)) (h : ea_E k (pc + 1) lv (.ref z :: st) M) : ea_E k pc lv (.int i :: .ref x :: st) M := by
  obtain ⟨p, l, e, R, s, m, args, below, meth, c, Q, A, cells, slots, nL0, g⟩ := k
  obtain ⟨hx, hb, hml, hown, hts, hlk, hD, hA, hE, hroom, rfl⟩ := C
  intro H locs ls hP hS hl
  have hw := ea_Wd_at g M hx7
  rw [ea_ceB hn hkd] at hw
  refine va_aldq hx hb hE.1 hP x 2 hw rfl hin hd ?_
  simp only [hz]
  exact h H locs ls hP hS hl
theorem e_aaldW {k : ea_K} {own : String} {cc : ByteArray} {nL d : Nat} (C : ea_C k own cc nL d) {pc : Nat} {lv : List (Nat × Value)} {st : List Value} {M : ea_M} {x n z : Nat} {i : Int32} (hx7 : x < 79) (hkd : ea_kd x = 4000 + n) (hin : vp_in i n) (hz : ea_ra x i.toNatClampNeg = some z) (hd : decode cc pc = .ok (.aaload, 1)) (h : ea_E k (pc + 1) lv (.ref z :: st) M) : ea_E k pc lv (.int i :: .ref x :: st) M := by
  obtain ⟨p, l, e, R, s, m, args, below, meth, c, Q, A, cells, slots, nL0, g⟩ := k
  obtain ⟨hx, hb, hml, hown, hts, hlk, hD, hA, hE, hroom, rfl⟩ := C
  intro H locs ls hP hS hl
  have hw := ea_Wd_at g M hx7
  rw [ea_ceW hkd] at hw
  refine va_aldq hx hb hE.1 hP x 3 hw rfl hin hd ?_
  simp only [hz]
  exact h H locs ls hP hS hl
theorem e_alenI {k : ea_K} {own : String} {cc : ByteArray} {nL d : Nat} (C : ea_C k own cc nL d) {pc : Nat} {lv : List (Nat × Value)} {st : List Value} {M : ea_M} {x n : Nat} {v : Int32} (hx7 : x < 79) (hkd : ea_kd x = 1000 + n) (hn : n < 1000) (hv : Int32.ofNat n = v) (hd : decode cc pc = .ok (.arraylength, 1)) (h : ea_E k (pc + 1) lv (.int v :: st) M) : ea_E k pc lv (.ref x :: st) M := by
  obtain ⟨p, l, e, R, s, m, args, below, meth, c, Q, A, cells, slots, nL0, g⟩ := k
  obtain ⟨hx, hb, hml, hown, hts, hlk, hD, hA, hE, hroom, rfl⟩ := C
  intro H locs ls hP hS hl
  have hw := ea_Wd_at g M hx7
  rw [ea_ceI hn hkd] at hw
  exact va_alen hx hb hE.1 hP x 0 hw rfl hv hd (h H locs ls hP hS hl)
theorem e_alenB {k : ea_K} {own : String} {cc : ByteArray} {nL d : Nat} (C : ea_C k own cc nL d) {pc : Nat} {lv : List (Nat × Value)} {st : List Value} {M : ea_M} {x n : Nat} {v : Int32} (hx7 : x < 79) (hkd : ea_kd x = 3000 + n) (hn : n < 1000) (hv : Int32.ofNat n = v) (hd : decode cc pc = .ok (.arraylength, 1)) (h : ea_E k (pc + 1) lv (.int v :: st) M) : ea_E k pc lv (.ref x :: st) M := by
  obtain ⟨p, l, e, R, s, m, args, below, meth, c, Q, A, cells, slots, nL0, g⟩ := k
  obtain ⟨hx, hb, hml, hown, hts, hlk, hD, hA, hE, hroom, rfl⟩ := C
  intro H locs ls hP hS hl
  have hw := ea_Wd_at g M hx7
  rw [ea_ceB hn hkd] at hw
  exact va_alen hx hb hE.1 hP x 2 hw rfl hv hd (h H locs ls hP hS hl)
theorem e_alenW {k : ea_K} {own : String} {cc : ByteArray} {nL d : Nat} (C : ea_C k own cc nL d) {pc : Nat} {lv : List (Nat × Value)} {st : List Value} {M : ea_M} {x n : Nat} {v : Int32} (hx7 : x < 79) (hkd : ea_kd x = 4000 + n) (hv : Int32.ofNat n = v) (hd : decode cc pc = .ok (.arraylength, 1)) (h : ea_E k (pc + 1) lv (.int v :: st) M) : ea_E k pc lv (.ref x :: st) M := by
  obtain ⟨p, l, e, R, s, m, args, below, meth, c, Q, A, cells, slots, nL0, g⟩ := k
  obtain ⟨hx, hb, hml, hown, hts, hlk, hD, hA, hE, hroom, rfl⟩ := C
  intro H locs ls hP hS hl
  have hw := ea_Wd_at g M hx7
  rw [ea_ceW hkd] at hw
  exact va_alen hx hb hE.1 hP x 3 hw rfl hv hd (h H locs ls hP hS hl)
-- RETURNS
theorem e_iret {k : ea_K} {own : String} {cc : ByteArray} {nL d : Nat} (C : ea_C k own cc nL d) {pc : Nat} {lv : List (Nat × Value)} {st : List Value} {M : ea_M} {ret : Option FieldType} {ty : FieldType} {o : Option Value} {M' : ea_M} {v : Int32} (X : ea_X k ret o M') (hr : ret = some ty) (hn : narrow ty (.int v) = .int v) (hd : decode cc pc = .ok (.ireturn, 1)) (h : o = some (.int v) ∧ M' = M) : ea_E k pc lv [.int v] M := by
  obtain ⟨p, l, e, R, s, m, args, below, meth, c, Q, A, cells, slots, nL0, g⟩ := k
  obtain ⟨hx, hb, hml, hown, hts, hlk, hD, hA, hE, hroom, rfl⟩ := C
  intro H locs ls hP hS hl
  obtain ⟨rfl, rfl⟩ := h
  obtain ⟨X1, rfl⟩ := X
  exact W.zret hx hb (X1.trans hr) hn (fun t ht hW => ⟨⟨rfl, by rw [ht]; exact hP⟩, hS.F ht⟩) hS.2.2 hd hlk
theorem e_lret {k : ea_K} {own : String} {cc : ByteArray} {nL d : Nat} (C : ea_C k own cc nL d) {pc : Nat} {lv : List (Nat × Value)} {st : List Value} {M : ea_M} {o : Option Value} {M' : ea_M} {v : Int64} (X : ea_X k (some .long) o M') (hd : decode cc pc = .ok (.lreturn, 1)) (h : o = some (.long v) ∧ M' = M) : ea_E k pc lv [.long v] M := by
  obtain ⟨p, l, e, R, s, m, args, below, meth, c, Q, A, cells, slots, nL0, g⟩ := k
  obtain ⟨hx, hb, hml, hown, hts, hlk, hD, hA, hE, hroom, rfl⟩ := C
  intro H locs ls hP hS hl
  obtain ⟨rfl, rfl⟩ := h
  obtain ⟨X1, rfl⟩ := X
  exact W.lret hx hb X1 (fun t ht hW => ⟨⟨rfl, by rw [ht]; exact hP⟩, hS.F ht⟩) hS.2.2 hd hlk
theorem e_vret {k : ea_K} {own : String} {cc : ByteArray} {nL d : Nat} (C : ea_C k own cc nL d) {pc : Nat} {lv : List (Nat × Value)} {st : List Value} {M : ea_M} {o : Option Value} {M' : ea_M} (X : ea_X k none o M') (hd : decode cc pc = .ok (.return_, 1)) (h : o = none ∧ M' = M) : ea_E k pc lv [] M := by
  obtain ⟨p, l, e, R, s, m, args, below, meth, c, Q, A, cells, slots, nL0, g⟩ := k
  obtain ⟨hx, hb, hml, hown, hts, hlk, hD, hA, hE, hroom, rfl⟩ := C
  intro H locs ls hP hS hl
  obtain ⟨rfl, rfl⟩ := h
  obtain ⟨X1, rfl⟩ := X
  exact W.vret hx hb X1 (fun t ht hW => ⟨⟨rfl, by rw [ht]; exact hP⟩, hS.F ht⟩) hS.2.2 hd hlk
theorem e_aret {k : ea_K} {own : String} {cc : ByteArray} {nL d : Nat} (C : ea_C k own cc nL d) {pc : Nat} {lv : List (Nat × Value)} {st : List Value} {M : ea_M} {C2 : String} {o : Option Value} {M' : ea_M} {v : Value} (X : ea_X k (some (.object C2)) o M') (hv : v = .null ∨ ∃ a, v = .ref a) (hd : decode cc pc = .ok (.areturn, 1)) (h : o = some v ∧ M' = M) : ea_E k pc lv [v] M := by
  obtain ⟨p, l, e, R, s, m, args, below, meth, c, Q, A, cells, slots, nL0, g⟩ := k
  obtain ⟨hx, hb, hml, hown, hts, hlk, hD, hA, hE, hroom, rfl⟩ := C
  intro H locs ls hP hS hl
  obtain ⟨rfl, rfl⟩ := h
  obtain ⟨X1, rfl⟩ := X
  refine W.aret hx hb X1 (Or.inl ⟨_, rfl⟩) ?_ (fun t ht hW => ⟨⟨rfl, by rw [ht]; exact hP⟩, hS.F ht⟩) hS.2.2 hd hlk
  rcases hv with rfl | ⟨a, rfl⟩
  · exact Or.inl rfl
  · exact Or.inr ⟨_, rfl⟩
-- CALLS
theorem ea_back {p : Program} {l : Launch} {e : Env} {R : Room} {s : State} {m : MethodId} {args : Array Value} {below : List Frame} {meth : Method} {c : Code} {H : Heap} {locs : List Loc} {cells slots pc : Nat} {Q : State → Prop} {ls : Array Slot} {rest st0 : List Value} {a : Array Value} {A0 A1 free : Nat → Prop} {H0 : Heap} {g : ea_G} {o : Option Value} {M' : ea_M}
    (hr : va_Run p l e R s m args below meth c H locs cells slots 0 0 (F0 m pc ls st0) rest (ea_Q g o M' A1 a) free) (hS : va_S A0 H0 H locs) (hA : ∀ q, q < H.size → A1 q → A0 q) (hf : ∀ q, free q → A0 q)
    (kk : ∀ (H1 : Heap) (locs1 : List Loc), va_P g.1 vwCl (ea_Wd g M') H1 → va_S A0 H0 H1 locs1 → W p l e R s m args below meth c H1 locs1 cells slots Q (F0 m (pc + 3) ls (o.toList ++ rest))) : W p l e R s m args below meth c H locs cells slots Q (F0 m pc ls st0) := by
  intro T hT X
  obtain ⟨v, st₀, t, T', L, h0, X', hL, e1, e2, ⟨⟨hv, hP1⟩, hz, hk⟩, st⟩ := hr T hT X
  cases hv
  rw [h0] at hz hk
  obtain ⟨t2, a1, b1⟩ := kk T'.heap (locs ++ L) (by rw [e1]; exact hP1)
    ⟨Nat.le_trans hS.1 (by rw [e1]; exact hz), fun q h1 h2 => by rw [e1, hk q (Nat.lt_of_lt_of_le h1 hS.1) (fun z => h2 (hA q (Nat.lt_of_lt_of_le h1 hS.1) z))]; exact hS.2.1 q h1 h2, fun q hq => by
      rcases List.mem_append.mp hq with h | h
      · exact hS.2.2 q h
      · exact hf _ (hL q h)⟩ T' rfl X'
  exact ⟨t2, st t2 a1, b1⟩
/-- what a callee wants of the state, out of what the caller holds -/
theorem ea_pre {g : ea_G} {A : Nat → Prop} {s : State} {H : Heap} {locs : List Loc} {M : ea_M} (hP : va_P g.1 vwCl (ea_Wd g M) H) (hD : va_D A (ea_Wd g M)) (hS : va_S A s.heap H locs) (hA : ∀ q, s.heap.size ≤ q → A q) (hE : ea_En g A s s.heap) : (∀ q, va_A (ea_Wd g M) H.size q → A q) ∧ ∀ U : State, U.heap = H → s.WarmedH U.vm → ea_Pr g H.size M U := by
  have hf : ∀ q, va_A (ea_Wd g M) H.size q → A q := by
    intro q h
    rcases h with ⟨i, e, h⟩ | h
    · exact hD.2 i _ h
    · exact hA q (Nat.le_trans hS.1 h)
  refine ⟨hf, fun U hU hW => ⟨by rw [hU], by rw [hU]; exact hP, hD.weaken (fun _ _ _ _ => trivial), ?_⟩⟩
  rw [hU]
  exact ((hE.kept hS.2.1).narrow hf).moved hW
/-- a method as a call names it: its code is among the words, its class is known, so many arguments -/
def ea_Lk (own : String) (idx : Nat) (y : MethodName) (cc : ByteArray) (nL : Nat) (ret : Option FieldType) (n : Nat) : Prop :=
  Cond.methodLink own idx y ∈ wsL_law ∧ Cond.code y cc nL ret ∈ wsL_law ∧ Cond.initialized y.cls ∈ wsL_law ∧ (y.cls ≠ "java/lang/invoke/MethodHandle" ∧ y.cls ≠ "java/lang/invoke/VarHandle" ∧ (parseMethodDescriptor y.desc).map (fun d => d.parameters.length) = some n) ∧ nL ≤ 21
def ea_LkV (own : String) (idx : Nat) (y : MethodName) (cc : ByteArray) (nL : Nat) (ret : Option FieldType) (n : Nat) : Prop :=
  ea_Lk own idx y cc nL ret n ∧ Cond.instanceMethod y ∈ wsL_law ∧ Cond.selects y.cls y y ∈ wsL_law
def ea_LkS (own : String) (idx : Nat) (y : MethodName) (cc : ByteArray) (nL : Nat) (ret : Option FieldType) (n : Nat) : Prop :=
  ea_Lk own idx y cc nL ret n ∧ Cond.static y ∈ wsL_law
def ea_LkN (own : String) (idx : Nat) (y : MethodName) (cc : ByteArray) (nL : Nat) (ret : Option FieldType) (n : Nat) : Prop :=
  (own, idx, y) ∈ ea_NS ∧ Cond.code y cc nL ret ∈ wsL_law ∧ Cond.initialized y.cls ∈ wsL_law ∧ (y.cls ≠ "java/lang/invoke/MethodHandle" ∧ y.cls ≠ "java/lang/invoke/VarHandle" ∧ (parseMethodDescriptor y.desc).map (fun d => d.parameters.length) = some n) ∧ nL ≤ 21 ∧ Cond.static y ∈ wsL_law
theorem ea_mapS (g : ea_G) {as rest st : List Value} (h : st = as.reverse ++ rest) : st.map (ea_tr g) = (as.map (ea_tr g)).reverse ++ rest.map (ea_tr g) := by
  subst h
  simp
theorem ea_toL (g : ea_G) (o : Option Value) (rest : List Value) : (o.map (ea_tr g)).toList ++ rest.map (ea_tr g) = (o.toList ++ rest).map (ea_tr g) := by
  cases o <;> rfl
theorem ea_mapC (g : ea_G) (rest : List Value) : ((rest.map (ea_tr g)).map fun v => v.category).sum = (rest.map fun v => v.category).sum := by
  rw [List.map_map]
  congr 1
  exact List.map_congr_left (fun v _ => ea_cat g v)
theorem e_callS {k : ea_K} {own : String} {cc : ByteArray} {nL d : Nat} (C : ea_C k own cc nL d) {pc : Nat} {lv : List (Nat × Value)} {st : List Value} {M : ea_M} {idx d' nL' n : Nat} {y : MethodName} {cc' : ByteArray} {ret : Option FieldType} {as rest : List Value} {o : Option Value} {M' : ea_M} (L : ea_LkS own idx y cc' nL' ret n) (hM : ea_Sp d' y cc' nL' ret as M o M') (hd' : d' < d) (hn : as.length = n) (hst : st = as.reverse ++ rest) (hcat : (rest.map fun v => v.category).sum ≤ 8) (hd : decode cc pc = .ok (.invokestatic idx, 3)) (h : ea_E k (pc + 3) lv (o.toList ++ rest) M') : ea_E k pc lv st M := by
  obtain ⟨p, l, e, R, s, m, args, below, meth, c, Q, A, cells, slots, nL0, g⟩ := k
  obtain ⟨hx, hb, hml, hown, hts, hlk, hD, hA, hE, hroom, rfl⟩ := C
  intro H locs ls hP hS hl
  obtain ⟨⟨L1, L2, L3, L4, L5⟩, L6⟩ := L
  obtain ⟨r1, r2, r3, r4⟩ := hroom
  obtain ⟨hf, hpre⟩ := ea_pre hP (ea_D_any hD) hS hA hE
  refine ea_back (rest := rest.map (ea_tr g)) (g := g) (o := o.map (ea_tr g)) (M' := M') (va_runS (As := as.map (ea_tr g)) (n := n) ⟨hx, hb, hml, hown, hts⟩ (hM l g H.size) ⟨callB_of n hts (ea_goodIn L2) rfl rfl rfl (hts _ L3) (hts _ L1) L4 ⟨Nat.le_trans hd' r1, by show 8 + (nL' + 11) + 40 * d' ≤ R.locals; omega⟩, hts _ L6⟩ ⟨ea_blind g _ _ _, fun U hU hW => ⟨rfl, hpre U hU hW⟩⟩ rfl (by rw [List.length_map]; exact hn) hl.1 (ea_mapS g hst) ?_ hd ⟨r3, r4⟩) hS (fun q _ z => hf q z) hf (fun H1 locs1 hP1 hS1 => ?_)
  · show 2 * (F0 m pc ls []).monitorRoom + _ ≤ 8
    have := lv_room (m := m) (pc := pc) (ls := ls) (rest := st.map (ea_tr g)) (st := rest.map (ea_tr g)) (by rw [ea_mapC]; exact hcat)
    exact this
  · rw [ea_toL]
    exact h H1 locs1 ls hP1 hS1 hl
theorem e_callN {k : ea_K} {own : String} {cc : ByteArray} {nL d : Nat} (C : ea_C k own cc nL d) {pc : Nat} {lv : List (Nat × Value)} {st : List Value} {M : ea_M} {idx d' nL' n : Nat} {y : MethodName} {cc' : ByteArray} {ret : Option FieldType} {as rest : List Value} {o : Option Value} {M' : ea_M} (L : ea_LkN own idx y cc' nL' ret n) (hM : ea_Sp d' y cc' nL' ret as M o M') (hd' : d' < d) (hn : as.length = n) (hst : st = as.reverse ++ rest) (hcat : (rest.map fun v => v.category).sum ≤ 8) (hd : decode cc pc = .ok (.invokestatic idx, 3)) (h : ea_E k (pc + 3) lv (o.toList ++ rest) M') : ea_E k pc lv st M := by
  obtain ⟨p, l, e, R, s, m, args, below, meth, c, Q, A, cells, slots, nL0, g⟩ := k
  obtain ⟨hx, hb, hml, hown, hts, hlk, hD, hA, hE, hroom, rfl⟩ := C
  intro H locs ls hP hS hl
  obtain ⟨L1, L2, L3, L4, L5, L6⟩ := L
  obtain ⟨r1, r2, r3, r4⟩ := hroom
  obtain ⟨hf, hpre⟩ := ea_pre hP (ea_D_any hD) hS hA hE
  refine ea_back (rest := rest.map (ea_tr g)) (g := g) (o := o.map (ea_tr g)) (M' := M') (va_runSN (As := as.map (ea_tr g)) (n := n) ⟨hx, hb, hml, hown, hts⟩ (hM l g H.size) ⟨va_cnB n hts (ea_goodIn L2) rfl rfl rfl (hE.2.1 _ L1) (hts _ L3) L4 ⟨Nat.le_trans hd' r1, by show 8 + (nL' + 11) + 40 * d' ≤ R.locals; omega⟩, hts _ L6, trivial⟩ ⟨ea_blind g _ _ _, fun U hU hW => ⟨rfl, hpre U hU hW⟩⟩ rfl (by rw [List.length_map]; exact hn) hl.1 (ea_mapS g hst) ?_ hd ⟨r3, r4⟩) hS (fun q _ z => hf q z) hf (fun H1 locs1 hP1 hS1 => ?_)
  · have := lv_room (m := m) (pc := pc) (ls := ls) (rest := st.map (ea_tr g)) (st := rest.map (ea_tr g)) (by rw [ea_mapC]; exact hcat)
    exact this
  · rw [ea_toL]
    exact h H1 locs1 ls hP1 hS1 hl
theorem e_callV {k : ea_K} {own : String} {cc : ByteArray} {nL d : Nat} (C : ea_C k own cc nL d) {pc : Nat} {lv : List (Nat × Value)} {st : List Value} {M : ea_M} {idx d' nL' n x ci : Nat} {y : MethodName} {cc' : ByteArray} {ret : Option FieldType} {as rest : List Value} {o : Option Value} {M' : ea_M} (L : ea_LkV own idx y cc' nL' ret n) (hM : ea_Sp d' y cc' nL' ret (.ref x :: as) M o M') (hd' : d' < d) (hn : as.length = n) (hx7 : x < 79) (hkd : ea_kd x = ci) (hci : ci < 8) (hcls : y.cls = ea_cR ci) (hst : st = as.reverse ++ .ref x :: rest) (hcat : (rest.map fun v => v.category).sum ≤ 8) (hd : decode cc pc = .ok (.invokevirtual idx, 3)) (h : ea_E k (pc + 3) lv (o.toList ++ rest) M') : ea_E k pc lv st M := by
  obtain ⟨p, l, e, R, s, m, args, below, meth, c, Q, A, cells, slots, nL0, g⟩ := k
  obtain ⟨hx, hb, hml, hown, hts, hlk, hD, hA, hE, hroom, rfl⟩ := C
  intro H locs ls hP hS hl
  obtain ⟨⟨L1, L2, L3, L4, L5⟩, L6, L7⟩ := L
  obtain ⟨r1, r2, r3, r4⟩ := hroom
  obtain ⟨hf, hpre⟩ := ea_pre hP (ea_D_any hD) hS hA hE
  have hw := ea_Wd_at g M hx7
  rw [ea_ceO hci hkd] at hw
  have hrec := va_recv hE.1 hP (ea_cCl hci) hw
  rw [← hcls] at hrec
  have hst2 : st.map (ea_tr g) = (as.map (ea_tr g)).reverse ++ .ref (g.2.2.1 x) :: rest.map (ea_tr g) := by
    subst hst
    simp [ea_tr]
  refine ea_back (rest := rest.map (ea_tr g)) (g := g) (o := o.map (ea_tr g)) (M' := M') (va_runV (As := as.map (ea_tr g)) (n := n) (C := y.cls) (b := g.2.2.1 x) ⟨hx, hb, hml, hown, hts⟩ (hM l g H.size) ⟨callB_of n hts (ea_goodIn L2) rfl rfl rfl (hts _ L3) (hts _ L1) L4 ⟨Nat.le_trans hd' r1, by show 8 + (nL' + 11) + 40 * d' ≤ R.locals; omega⟩, hts _ L6, hts _ L7⟩ ⟨ea_blind g _ _ _, hrec, fun U hU hW => ⟨rfl, hpre U hU hW⟩⟩ rfl (by rw [List.length_map]; exact hn) hl.1 hst2 ?_ hd ⟨r3, r4⟩) hS (fun q _ z => hf q z) hf (fun H1 locs1 hP1 hS1 => ?_)
  · have := lv_room (m := m) (pc := pc) (ls := ls) (rest := st.map (ea_tr g)) (st := rest.map (ea_tr g)) (by rw [ea_mapC]; exact hcat)
    exact this
  · rw [ea_toL]
    exact h H1 locs1 ls hP1 hS1 hl
-- MATH
theorem e_mmin {k : ea_K} {own : String} {cc : ByteArray} {nL d : Nat} (C : ea_C k own cc nL d) {pc : Nat} {lv : List (Nat × Value)} {st : List Value} {M : ea_M} {idx : Nat} {x y : Int32} (hw : Cond.methodLink own idx Lib.Math.min.name ∈ wsL_law) (hw2 : Cond.static Lib.Math.min.name ∈ wsL_law) (hw3 : Cond.initialized "java/lang/Math" ∈ wsL_law) (hw4 : Cond.code Lib.Math.min.name Lib.Math.min.code 2 (some .int) ∈ wsL_law) (hd1 : 1 ≤ d) (hcat : (st.map fun v => v.category).sum ≤ 8) (hd : decode cc pc = .ok (.invokestatic idx, 3)) (h : ea_E k (pc + 3) lv (.int (if y < x then y else x) :: st) M) : ea_E k pc lv (.int y :: .int x :: st) M := by
  obtain ⟨p, l, e, R, s, m, args, below, meth, c, Q, A, cells, slots, nL0, g⟩ := k
  obtain ⟨hx, hb, hml, hown, hts, hlk, hD, hA, hE, hroom, rfl⟩ := C
  intro H locs ls hP hS hl
  obtain ⟨r1, r2, r3, r4⟩ := hroom
  exact va_mmin hx hb (hml.trans hl.1.symm) hown (hts _ hw) (hts _ hw2) (hts _ hw3) (hts _ hw4) (Nat.le_trans hd1 r1) (by rw [ea_mapC]; omega) r3 r4 hd (h H locs ls hP hS hl)
theorem e_mmaxL {k : ea_K} {own : String} {cc : ByteArray} {nL d : Nat} (C : ea_C k own cc nL d) {pc : Nat} {lv : List (Nat × Value)} {st : List Value} {M : ea_M} {idx : Nat} {x y : Int64} (hw : Cond.methodLink own idx Lib.MathLoose.max_long.x ∈ wsL_law) (hw2 : Cond.static Lib.MathLoose.max_long.x ∈ wsL_law) (hw3 : Cond.initialized "java/lang/Math" ∈ wsL_law) (hw4 : Cond.code Lib.MathLoose.max_long.x Lib.MathLoose.max_long.code 4 (some .long) ∈ wsL_law) (hd1 : 1 ≤ d) (hcat : (st.map fun v => v.category).sum ≤ 8) (hd : decode cc pc = .ok (.invokestatic idx, 3)) (h : ea_E k (pc + 3) lv (.long (if y < x then x else y) :: st) M) : ea_E k pc lv (.long y :: .long x :: st) M := by
  obtain ⟨p, l, e, R, s, m, args, below, meth, c, Q, A, cells, slots, nL0, g⟩ := k
  obtain ⟨hx, hb, hml, hown, hts, hlk, hD, hA, hE, hroom, rfl⟩ := C
  intro H locs ls hP hS hl
  obtain ⟨r1, r2, r3, r4⟩ := hroom
  exact va_mmax_long hx hb (hml.trans hl.1.symm) hown (hts _ hw) (hts _ hw2) (hts _ hw3) (hts _ hw4) (Nat.le_trans hd1 r1) (by rw [ea_mapC]; omega) r3 r4 hd (h H locs ls hP hS hl)
theorem e_mabsL {k : ea_K} {own : String} {cc : ByteArray} {nL d : Nat} (C : ea_C k own cc nL d) {pc : Nat} {lv : List (Nat × Value)} {st : List Value} {M : ea_M} {idx : Nat} {x : Int64} (hw : Cond.methodLink own idx Lib.MathLoose.abs_long.x ∈ wsL_law) (hw2 : Cond.static Lib.MathLoose.abs_long.x ∈ wsL_law) (hw3 : Cond.initialized "java/lang/Math" ∈ wsL_law) (hw4 : Cond.code Lib.MathLoose.abs_long.x Lib.MathLoose.abs_long.code 2 (some .long) ∈ wsL_law) (hd1 : 1 ≤ d) (hcat : (st.map fun v => v.category).sum ≤ 8) (hd : decode cc pc = .ok (.invokestatic idx, 3)) (h : ea_E k (pc + 3) lv (.long (if 0 < x then x else -x) :: st) M) : ea_E k pc lv (.long x :: st) M := by
  obtain ⟨p, l, e, R, s, m, args, below, meth, c, Q, A, cells, slots, nL0, g⟩ := k
  obtain ⟨hx, hb, hml, hown, hts, hlk, hD, hA, hE, hroom, rfl⟩ := C
  intro H locs ls hP hS hl
  obtain ⟨r1, r2, r3, r4⟩ := hroom
  exact va_mabs_long hx hb (hml.trans hl.1.symm) hown (hts _ hw) (hts _ hw2) (hts _ hw3) (hts _ hw4) (Nat.le_trans hd1 r1) (by rw [ea_mapC]; omega) r3 r4 hd (h H locs ls hP hS hl)
-- THE TEXTS
theorem e_ldcS {k : ea_K} {own : String} {cc : ByteArray} {nL d : Nat} (C : ea_C k own cc nL d) {pc : Nat} {lv : List (Nat × Value)} {st : List Value} {M : ea_M} {idx i : Nat} {tx : String} (hq : ea_cpS[i]? = some (idx, tx)) (ho : own = RX2) (hd : decode cc pc = .ok (.ldc idx, 2)) (h : ea_E k (pc + 2) lv (.ref (200 + i) :: st) M) : ea_E k pc lv st M := by
  obtain ⟨p, l, e, R, s, m, args, below, meth, c, Q, A, cells, slots, nL0, g⟩ := k
  obtain ⟨hx, hb, hml, hown, hts, hlk, hD, hA, hE, hroom, rfl⟩ := C
  intro H locs ls hP hS hl
  subst ho
  exact va_ldcS hx hb hown (hE.2.2.2.2 i _ hq) hd (h H locs ls hP hS hl)
end
section
theorem ea_lt {x : Nat} (h : ea_kd x < 9999) : x < 79 := by
  by_cases q : x < 79
  · exact q
  · exfalso
    have hl : ea_kL.length ≤ x := by
      have : ea_kL.length = 79 := by decide
      omega
    have : ea_kd x = 9999 := by
      simp [ea_kd, List.getD_eq_getElem?_getD, List.getElem?_eq_none hl]
    omega
theorem ea_ltO {x ci : Nat} (h : ci < 8) (hk : ea_kd x = ci) : x < 79 := ea_lt (by omega)
theorem ea_ltA {x n : Nat} (hk : ea_kd x = 1000 + n) (h : n < 1000) : x < 79 := ea_lt (by omega)
theorem ea_nz {v : Int32} (h : v = 0 ∨ v = 1) : narrow .boolean (.int v) = .int v := by
  rcases h with rfl | rfl <;> rfl
theorem ea_fz {v : Int32} (h : v = 0 ∨ v = 1) : fits .boolean (.int v) = true := by
  rcases h with rfl | rfl <;> rfl
theorem ea_toI0 {x : Int32} {j : Int} (h : ¬ x = Int32.ofInt j) (h2 : -2147483648 ≤ j) (h3 : j < 2147483648) : x.toInt ≠ j := by
  intro q
  apply h
  apply Int32.toInt_inj.mp
  rw [q, Int32.toInt_ofInt_of_le h2 h3]
theorem ea_tab3 {x : Int32} (h0 : ¬ x = 0) (h1 : ¬ x = 1) (h2 : ¬ x = 2) (h3 : ¬ x = 3) : x.toInt < 0 ∨ 3 < x.toInt := by
  have q0 := ea_toI0 (x := x) (j := 0) h0 (by decide) (by decide)
  have q1 := ea_toI0 (x := x) (j := 1) h1 (by decide) (by decide)
  have q2 := ea_toI0 (x := x) (j := 2) h2 (by decide) (by decide)
  have q3 := ea_toI0 (x := x) (j := 3) h3 (by decide) (by decide)
  omega
theorem ea_tab4 {x : Int32} (h0 : ¬ x = 0) (h1 : ¬ x = 1) (h2 : ¬ x = 2) (h3 : ¬ x = 3) (h4 : ¬ x = 4) : x.toInt < 0 ∨ 4 < x.toInt := by
  have q0 := ea_toI0 (x := x) (j := 0) h0 (by decide) (by decide)
  have q1 := ea_toI0 (x := x) (j := 1) h1 (by decide) (by decide)
  have q2 := ea_toI0 (x := x) (j := 2) h2 (by decide) (by decide)
  have q3 := ea_toI0 (x := x) (j := 3) h3 (by decide) (by decide)
  have q4 := ea_toI0 (x := x) (j := 4) h4 (by decide) (by decide)
  omega
theorem ea_tab15 {x : Int32} (h0 : ¬ x = 0) (h1 : ¬ x = 1) (h2 : ¬ x = 2) (h3 : ¬ x = 3) (h4 : ¬ x = 4) (h5 : ¬ x = 5) (h6 : ¬ x = 6) (h7 : ¬ x = 7) (h8 : ¬ x = 8) (h9 : ¬ x = 9) (h10 : ¬ x = 10) (h11 : ¬ x = 11) (h12 : ¬ x = 12) (h13 : ¬ x = 13) (h14 : ¬ x = 14) (h15 : ¬ x = 15) : x.toInt < 0 ∨ 15 < x.toInt := by
  have q0 := ea_toI0 (x := x) (j := 0) h0 (by decide) (by decide)
  have q1 := ea_toI0 (x := x) (j := 1) h1 (by decide) (by decide)
  have q2 := ea_toI0 (x := x) (j := 2) h2 (by decide) (by decide)
  have q3 := ea_toI0 (x := x) (j := 3) h3 (by decide) (by decide)
  have q4 := ea_toI0 (x := x) (j := 4) h4 (by decide) (by decide)
  have q5 := ea_toI0 (x := x) (j := 5) h5 (by decide) (by decide)
  have q6 := ea_toI0 (x := x) (j := 6) h6 (by decide) (by decide)
  have q7 := ea_toI0 (x := x) (j := 7) h7 (by decide) (by decide)
  have q8 := ea_toI0 (x := x) (j := 8) h8 (by decide) (by decide)
  have q9 := ea_toI0 (x := x) (j := 9) h9 (by decide) (by decide)
  have q10 := ea_toI0 (x := x) (j := 10) h10 (by decide) (by decide)
  have q11 := ea_toI0 (x := x) (j := 11) h11 (by decide) (by decide)
  have q12 := ea_toI0 (x := x) (j := 12) h12 (by decide) (by decide)
  have q13 := ea_toI0 (x := x) (j := 13) h13 (by decide) (by decide)
  have q14 := ea_toI0 (x := x) (j := 14) h14 (by decide) (by decide)
  have q15 := ea_toI0 (x := x) (j := 15) h15 (by decide) (by decide)
  omega
theorem ea_tab27 {x : Int32} (h0 : ¬ x = 0) (h1 : ¬ x = 1) (h2 : ¬ x = 2) (h3 : ¬ x = 3) (h4 : ¬ x = 4) (h5 : ¬ x = 5) (h6 : ¬ x = 6) (h7 : ¬ x = 7) (h8 : ¬ x = 8) (h9 : ¬ x = 9) (h10 : ¬ x = 10) (h11 : ¬ x = 11) (h12 : ¬ x = 12) (h13 : ¬ x = 13) (h14 : ¬ x = 14) (h15 : ¬ x = 15) (h16 : ¬ x = 16) (h17 : ¬ x = 17) (h18 : ¬ x = 18) (h19 : ¬ x = 19) (h20 : ¬ x = 20) (h21 : ¬ x = 21) (h22 : ¬ x = 22) (h23 : ¬ x = 23) (h24 : ¬ x = 24) (h25 : ¬ x = 25) (h26 : ¬ x = 26) (h27 : ¬ x = 27) : x.toInt < 0 ∨ 27 < x.toInt := by
  have q0 := ea_toI0 (x := x) (j := 0) h0 (by decide) (by decide)
  have q1 := ea_toI0 (x := x) (j := 1) h1 (by decide) (by decide)
  have q2 := ea_toI0 (x := x) (j := 2) h2 (by decide) (by decide)
  have q3 := ea_toI0 (x := x) (j := 3) h3 (by decide) (by decide)
  have q4 := ea_toI0 (x := x) (j := 4) h4 (by decide) (by decide)
  have q5 := ea_toI0 (x := x) (j := 5) h5 (by decide) (by decide)
  have q6 := ea_toI0 (x := x) (j := 6) h6 (by decide) (by decide)
  have q7 := ea_toI0 (x := x) (j := 7) h7 (by decide) (by decide)
  have q8 := ea_toI0 (x := x) (j := 8) h8 (by decide) (by decide)
  have q9 := ea_toI0 (x := x) (j := 9) h9 (by decide) (by decide)
  have q10 := ea_toI0 (x := x) (j := 10) h10 (by decide) (by decide)
  have q11 := ea_toI0 (x := x) (j := 11) h11 (by decide) (by decide)
  have q12 := ea_toI0 (x := x) (j := 12) h12 (by decide) (by decide)
  have q13 := ea_toI0 (x := x) (j := 13) h13 (by decide) (by decide)
  have q14 := ea_toI0 (x := x) (j := 14) h14 (by decide) (by decide)
  have q15 := ea_toI0 (x := x) (j := 15) h15 (by decide) (by decide)
  have q16 := ea_toI0 (x := x) (j := 16) h16 (by decide) (by decide)
  have q17 := ea_toI0 (x := x) (j := 17) h17 (by decide) (by decide)
  have q18 := ea_toI0 (x := x) (j := 18) h18 (by decide) (by decide)
  have q19 := ea_toI0 (x := x) (j := 19) h19 (by decide) (by decide)
  have q20 := ea_toI0 (x := x) (j := 20) h20 (by decide) (by decide)
  have q21 := ea_toI0 (x := x) (j := 21) h21 (by decide) (by decide)
  have q22 := ea_toI0 (x := x) (j := 22) h22 (by decide) (by decide)
  have q23 := ea_toI0 (x := x) (j := 23) h23 (by decide) (by decide)
  have q24 := ea_toI0 (x := x) (j := 24) h24 (by decide) (by decide)
  have q25 := ea_toI0 (x := x) (j := 25) h25 (by decide) (by decide)
  have q26 := ea_toI0 (x := x) (j := 26) h26 (by decide) (by decide)
  have q27 := ea_toI0 (x := x) (j := 27) h27 (by decide) (by decide)
  omega
theorem kd0_1 {x : Nat} (h : ea_kd x = 0) : ea_kd (x + 1) = 1008 := by
  have q : ∀ y, y < 79 → ea_kd y = 0 → ea_kd (y + 1) = 1008 := by decide +kernel
  exact q x (ea_ltO (by decide) h) h
theorem lt0_1 {x : Nat} (h : ea_kd x = 0) : x + 1 < 79 := ea_lt (by rw [kd0_1 h]; decide)
theorem kd0_2 {x : Nat} (h : ea_kd x = 0) : ea_kd (x + 2) = 1008 := by
  have q : ∀ y, y < 79 → ea_kd y = 0 → ea_kd (y + 2) = 1008 := by decide +kernel
  exact q x (ea_ltO (by decide) h) h
theorem lt0_2 {x : Nat} (h : ea_kd x = 0) : x + 2 < 79 := ea_lt (by rw [kd0_2 h]; decide)
theorem kd0_3 {x : Nat} (h : ea_kd x = 0) : ea_kd (x + 3) = 1008 := by
  have q : ∀ y, y < 79 → ea_kd y = 0 → ea_kd (y + 3) = 1008 := by decide +kernel
  exact q x (ea_ltO (by decide) h) h
theorem lt0_3 {x : Nat} (h : ea_kd x = 0) : x + 3 < 79 := ea_lt (by rw [kd0_3 h]; decide)
theorem kd4_1 {x : Nat} (h : ea_kd x = 4) : ea_kd (x + 1) = 1042 := by
  have q : ∀ y, y < 79 → ea_kd y = 4 → ea_kd (y + 1) = 1042 := by decide +kernel
  exact q x (ea_ltO (by decide) h) h
theorem lt4_1 {x : Nat} (h : ea_kd x = 4) : x + 1 < 79 := ea_lt (by rw [kd4_1 h]; decide)
theorem kd4_2 {x : Nat} (h : ea_kd x = 4) : ea_kd (x + 2) = 1006 := by
  have q : ∀ y, y < 79 → ea_kd y = 4 → ea_kd (y + 2) = 1006 := by decide +kernel
  exact q x (ea_ltO (by decide) h) h
theorem lt4_2 {x : Nat} (h : ea_kd x = 4) : x + 2 < 79 := ea_lt (by rw [kd4_2 h]; decide)
theorem kd4_3 {x : Nat} (h : ea_kd x = 4) : ea_kd (x + 3) = 1006 := by
  have q : ∀ y, y < 79 → ea_kd y = 4 → ea_kd (y + 3) = 1006 := by decide +kernel
  exact q x (ea_ltO (by decide) h) h
theorem lt4_3 {x : Nat} (h : ea_kd x = 4) : x + 3 < 79 := ea_lt (by rw [kd4_3 h]; decide)
theorem kd4_4 {x : Nat} (h : ea_kd x = 4) : ea_kd (x + 4) = 1006 := by
  have q : ∀ y, y < 79 → ea_kd y = 4 → ea_kd (y + 4) = 1006 := by decide +kernel
  exact q x (ea_ltO (by decide) h) h
theorem lt4_4 {x : Nat} (h : ea_kd x = 4) : x + 4 < 79 := ea_lt (by rw [kd4_4 h]; decide)
theorem kd4_5 {x : Nat} (h : ea_kd x = 4) : ea_kd (x + 5) = 1010 := by
  have q : ∀ y, y < 79 → ea_kd y = 4 → ea_kd (y + 5) = 1010 := by decide +kernel
  exact q x (ea_ltO (by decide) h) h
theorem lt4_5 {x : Nat} (h : ea_kd x = 4) : x + 5 < 79 := ea_lt (by rw [kd4_5 h]; decide)
theorem kd4_6 {x : Nat} (h : ea_kd x = 4) : ea_kd (x + 6) = 1011 := by
  have q : ∀ y, y < 79 → ea_kd y = 4 → ea_kd (y + 6) = 1011 := by decide +kernel
  exact q x (ea_ltO (by decide) h) h
theorem lt4_6 {x : Nat} (h : ea_kd x = 4) : x + 6 < 79 := ea_lt (by rw [kd4_6 h]; decide)
theorem kd4_7 {x : Nat} (h : ea_kd x = 4) : ea_kd (x + 7) = 5 := by
  have q : ∀ y, y < 79 → ea_kd y = 4 → ea_kd (y + 7) = 5 := by decide +kernel
  exact q x (ea_ltO (by decide) h) h
theorem lt4_7 {x : Nat} (h : ea_kd x = 4) : x + 7 < 79 := ea_lt (by rw [kd4_7 h]; decide)
theorem kd4_8 {x : Nat} (h : ea_kd x = 4) : ea_kd (x + 8) = 1010 := by
  have q : ∀ y, y < 79 → ea_kd y = 4 → ea_kd (y + 8) = 1010 := by decide +kernel
  exact q x (ea_ltO (by decide) h) h
theorem lt4_8 {x : Nat} (h : ea_kd x = 4) : x + 8 < 79 := ea_lt (by rw [kd4_8 h]; decide)
theorem kd5_1 {x : Nat} (h : ea_kd x = 5) : ea_kd (x + 1) = 1010 := by
  have q : ∀ y, y < 79 → ea_kd y = 5 → ea_kd (y + 1) = 1010 := by decide +kernel
  exact q x (ea_ltO (by decide) h) h
theorem lt5_1 {x : Nat} (h : ea_kd x = 5) : x + 1 < 79 := ea_lt (by rw [kd5_1 h]; decide)
theorem ea_set0_0 (x : Nat) (r : Nat → Int32) (v : Int32) : ea_fl 0 x (upd r 0 v) = (ea_fl 0 x r).set 0 (.int v) := rfl
theorem ea_set0_1 (x : Nat) (r : Nat → Int32) (v : Int32) : ea_fl 0 x (upd r 1 v) = (ea_fl 0 x r).set 1 (.int v) := rfl
theorem ea_set1_3 (x : Nat) (r : Nat → Int32) (v : Int32) : ea_fl 1 x (upd r 3 v) = (ea_fl 1 x r).set 3 (.int v) := rfl
theorem ea_set1_4 (x : Nat) (r : Nat → Int32) (v : Int32) : ea_fl 1 x (upd r 4 v) = (ea_fl 1 x r).set 4 (.int v) := rfl
theorem ea_set2_2 (x : Nat) (r : Nat → Int32) (v : Int32) : ea_fl 2 x (upd r 2 v) = (ea_fl 2 x r).set 2 (.int v) := rfl
theorem ea_set3_1 (x : Nat) (r : Nat → Int32) (v : Int32) : ea_fl 3 x (upd r 1 v) = (ea_fl 3 x r).set 1 (.int v) := rfl
theorem ea_set3_2 (x : Nat) (r : Nat → Int32) (v : Int32) : ea_fl 3 x (upd r 2 v) = (ea_fl 3 x r).set 2 (.int v) := rfl
theorem ea_set3_3 (x : Nat) (r : Nat → Int32) (v : Int32) : ea_fl 3 x (upd r 3 v) = (ea_fl 3 x r).set 3 (.int v) := rfl
theorem ea_set3_4 (x : Nat) (r : Nat → Int32) (v : Int32) : ea_fl 3 x (upd r 4 v) = (ea_fl 3 x r).set 4 (.int v) := rfl
theorem ea_set4_0 (x : Nat) (r : Nat → Int32) (v : Int32) : ea_fl 4 x (upd r 0 v) = (ea_fl 4 x r).set 0 (.int v) := rfl
theorem ea_set4_5 (x : Nat) (r : Nat → Int32) (v : Int32) : ea_fl 4 x (upd r 5 v) = (ea_fl 4 x r).set 5 (.int v) := rfl
theorem ea_set5_1 (x : Nat) (r : Nat → Int32) (v : Int32) : ea_fl 5 x (upd r 1 v) = (ea_fl 5 x r).set 1 (.int v) := rfl
theorem ea_set5_2 (x : Nat) (r : Nat → Int32) (v : Int32) : ea_fl 5 x (upd r 2 v) = (ea_fl 5 x r).set 2 (.int v) := rfl
theorem ea_set5_3 (x : Nat) (r : Nat → Int32) (v : Int32) : ea_fl 5 x (upd r 3 v) = (ea_fl 5 x r).set 3 (.int v) := rfl
theorem ea_set5_4 (x : Nat) (r : Nat → Int32) (v : Int32) : ea_fl 5 x (upd r 4 v) = (ea_fl 5 x r).set 4 (.int v) := rfl
theorem ea_set5_5 (x : Nat) (r : Nat → Int32) (v : Int32) : ea_fl 5 x (upd r 5 v) = (ea_fl 5 x r).set 5 (.int v) := rfl
theorem ea_set5_6 (x : Nat) (r : Nat → Int32) (v : Int32) : ea_fl 5 x (upd r 6 v) = (ea_fl 5 x r).set 6 (.int v) := rfl
theorem ea_set7_1 (x : Nat) (r : Nat → Int32) (v : Int32) : ea_fl 7 x (upd r 1 v) = (ea_fl 7 x r).set 1 (.int v) := rfl
theorem ea_set7_6 (x : Nat) (r : Nat → Int32) (v : Int32) : ea_fl 7 x (upd r 6 v) = (ea_fl 7 x r).set 6 (.int v) := rfl
theorem ea_set7_8 (x : Nat) (r : Nat → Int32) (v : Int32) : ea_fl 7 x (upd r 8 v) = (ea_fl 7 x r).set 8 (.int v) := rfl
theorem ea_set7_11 (x : Nat) (r : Nat → Int32) (v : Int32) : ea_fl 7 x (upd r 11 v) = (ea_fl 7 x r).set 11 (.int v) := rfl
theorem ea_set7_16 (x : Nat) (r : Nat → Int32) (v : Int32) : ea_fl 7 x (upd r 16 v) = (ea_fl 7 x r).set 16 (.int v) := rfl
theorem ea_set7_17 (x : Nat) (r : Nat → Int32) (v : Int32) : ea_fl 7 x (upd r 17 v) = (ea_fl 7 x r).set 17 (.int v) := rfl
theorem ea_set7_18 (x : Nat) (r : Nat → Int32) (v : Int32) : ea_fl 7 x (upd r 18 v) = (ea_fl 7 x r).set 18 (.int v) := rfl
theorem ea_set7_19 (x : Nat) (r : Nat → Int32) (v : Int32) : ea_fl 7 x (upd r 19 v) = (ea_fl 7 x r).set 19 (.int v) := rfl
theorem ea_set7_22 (x : Nat) (r : Nat → Int32) (v : Int32) : ea_fl 7 x (upd r 22 v) = (ea_fl 7 x r).set 22 (.int v) := rfl
theorem ea_set7_23 (x : Nat) (r : Nat → Int32) (v : Int32) : ea_fl 7 x (upd r 23 v) = (ea_fl 7 x r).set 23 (.int v) := rfl
theorem e_callS0 {k : ea_K} {own : String} {cc : ByteArray} {nL d : Nat} (C : ea_C k own cc nL d) {pc : Nat} {lv : List (Nat × Value)} {st : List Value} {M : ea_M} {idx d' nL' n : Nat} {y : MethodName} {cc' : ByteArray} {ret : Option FieldType} {as rest : List Value} {M' : ea_M} (L : ea_LkS own idx y cc' nL' ret n) (hM : ea_Sp d' y cc' nL' ret as M none M') (hd' : d' < d) (hn : as.length = n) (hst : st = as.reverse ++ rest) (hcat : (rest.map fun v => v.category).sum ≤ 8) (hd : decode cc pc = .ok (.invokestatic idx, 3)) (h : ea_E k (pc + 3) lv rest M') : ea_E k pc lv st M := e_callS C L hM hd' hn hst hcat hd h
theorem e_callS1 {k : ea_K} {own : String} {cc : ByteArray} {nL d : Nat} (C : ea_C k own cc nL d) {pc : Nat} {lv : List (Nat × Value)} {st : List Value} {M : ea_M} {idx d' nL' n : Nat} {y : MethodName} {cc' : ByteArray} {ret : Option FieldType} {as rest : List Value} {v : Value} {M' : ea_M} (L : ea_LkS own idx y cc' nL' ret n) (hM : ea_Sp d' y cc' nL' ret as M (some v) M') (hd' : d' < d) (hn : as.length = n) (hst : st = as.reverse ++ rest) (hcat : (rest.map fun v => v.category).sum ≤ 8) (hd : decode cc pc = .ok (.invokestatic idx, 3)) (h : ea_E k (pc + 3) lv (v :: rest) M') : ea_E k pc lv st M := e_callS C L hM hd' hn hst hcat hd h
theorem e_callN0 {k : ea_K} {own : String} {cc : ByteArray} {nL d : Nat} (C : ea_C k own cc nL d) {pc : Nat} {lv : List (Nat × Value)} {st : List Value} {M : ea_M} {idx d' nL' n : Nat} {y : MethodName} {cc' : ByteArray} {ret : Option FieldType} {as rest : List Value} {M' : ea_M} (L : ea_LkN own idx y cc' nL' ret n) (hM : ea_Sp d' y cc' nL' ret as M none M') (hd' : d' < d) (hn : as.length = n) (hst : st = as.reverse ++ rest) (hcat : (rest.map fun v => v.category).sum ≤ 8) (hd : decode cc pc = .ok (.invokestatic idx, 3)) (h : ea_E k (pc + 3) lv rest M') : ea_E k pc lv st M := e_callN C L hM hd' hn hst hcat hd h
theorem e_callN1 {k : ea_K} {own : String} {cc : ByteArray} {nL d : Nat} (C : ea_C k own cc nL d) {pc : Nat} {lv : List (Nat × Value)} {st : List Value} {M : ea_M} {idx d' nL' n : Nat} {y : MethodName} {cc' : ByteArray} {ret : Option FieldType} {as rest : List Value} {v : Value} {M' : ea_M} (L : ea_LkN own idx y cc' nL' ret n) (hM : ea_Sp d' y cc' nL' ret as M (some v) M') (hd' : d' < d) (hn : as.length = n) (hst : st = as.reverse ++ rest) (hcat : (rest.map fun v => v.category).sum ≤ 8) (hd : decode cc pc = .ok (.invokestatic idx, 3)) (h : ea_E k (pc + 3) lv (v :: rest) M') : ea_E k pc lv st M := e_callN C L hM hd' hn hst hcat hd h
theorem e_callV0 {k : ea_K} {own : String} {cc : ByteArray} {nL d : Nat} (C : ea_C k own cc nL d) {pc : Nat} {lv : List (Nat × Value)} {st : List Value} {M : ea_M} {idx d' nL' n x ci : Nat} {y : MethodName} {cc' : ByteArray} {ret : Option FieldType} {as rest : List Value} {M' : ea_M} (L : ea_LkV own idx y cc' nL' ret n) (hM : ea_Sp d' y cc' nL' ret (.ref x :: as) M none M') (hd' : d' < d) (hn : as.length = n) (hx7 : x < 79) (hkd : ea_kd x = ci) (hci : ci < 8) (hcls : y.cls = ea_cR ci) (hst : st = as.reverse ++ .ref x :: rest) (hcat : (rest.map fun v => v.category).sum ≤ 8) (hd : decode cc pc = .ok (.invokevirtual idx, 3)) (h : ea_E k (pc + 3) lv rest M') : ea_E k pc lv st M := e_callV C L hM hd' hn hx7 hkd hci hcls hst hcat hd h
theorem e_callV1 {k : ea_K} {own : String} {cc : ByteArray} {nL d : Nat} (C : ea_C k own cc nL d) {pc : Nat} {lv : List (Nat × Value)} {st : List Value} {M : ea_M} {idx d' nL' n x ci : Nat} {y : MethodName} {cc' : ByteArray} {ret : Option FieldType} {as rest : List Value} {v : Value} {M' : ea_M} (L : ea_LkV own idx y cc' nL' ret n) (hM : ea_Sp d' y cc' nL' ret (.ref x :: as) M (some v) M') (hd' : d' < d) (hn : as.length = n) (hx7 : x < 79) (hkd : ea_kd x = ci) (hci : ci < 8) (hcls : y.cls = ea_cR ci) (hst : st = as.reverse ++ .ref x :: rest) (hcat : (rest.map fun v => v.category).sum ≤ 8) (hd : decode cc pc = .ok (.invokevirtual idx, 3)) (h : ea_E k (pc + 3) lv (v :: rest) M') : ea_E k pc lv st M := e_callV C L hM hd' hn hx7 hkd hci hcls hst hcat hd h
theorem ea_lceq (x y : Int64) : lg_cmp x y = 0 ↔ x = y := by
  unfold lg_cmp
  have a1 := @Int64.lt_iff_toInt_lt x y
  have a2 := @Int64.lt_iff_toInt_lt y x
  have a3 := @Int64.le_iff_toInt_le x y
  have a4 := @Int64.le_iff_toInt_le y x
  have a5 := @Int64.toInt_inj x y
  have z1 : ¬ ((1 : Int32) = 0) := by decide
  have z2 : ¬ ((-1 : Int32) = 0) := by decide
  by_cases h1 : y < x <;> by_cases h2 : x = y <;> simp [h1, h2] <;> (first | decide | omega | (constructor <;> intro <;> first | decide | omega | (simp_all; done)) | (simp_all; omega) | (simp_all; done))
theorem e_lc_eq {k : ea_K} {own : String} {cc : ByteArray} {nL d : Nat} (C : ea_C k own cc nL d) {pc : Nat} {lv : List (Nat × Value)} {st : List Value} {M : ea_M} {x y : Int64} {off : Int} {tgt : Nat} (hd : decode cc pc = .ok (.lcmp, 1)) (hd2 : decode cc (pc + 1) = .ok (.ifCond .eq off, 3)) (ht : ((pc + 1 : Nat) : Int) + off = (tgt : Int)) (kt : x = y → ea_E k tgt lv st M) (kf : ¬ x = y → ea_E k (pc + 4) lv st M) : ea_E k pc lv (.long y :: .long x :: st) M :=
  e_lcmp C hd (e_if_eq C hd2 ht (fun q => kt ((ea_lceq x y).mp q)) (fun q => kf (fun z => q ((ea_lceq x y).mpr z))))
theorem e_lc_ne {k : ea_K} {own : String} {cc : ByteArray} {nL d : Nat} (C : ea_C k own cc nL d) {pc : Nat} {lv : List (Nat × Value)} {st : List Value} {M : ea_M} {x y : Int64} {off : Int} {tgt : Nat} (hd : decode cc pc = .ok (.lcmp, 1)) (hd2 : decode cc (pc + 1) = .ok (.ifCond .ne off, 3)) (ht : ((pc + 1 : Nat) : Int) + off = (tgt : Int)) (kt : ¬ x = y → ea_E k tgt lv st M) (kf : x = y → ea_E k (pc + 4) lv st M) : ea_E k pc lv (.long y :: .long x :: st) M :=
  e_lcmp C hd (e_if_ne C hd2 ht (fun q => kt (fun z => q ((ea_lceq x y).mpr z))) (fun q => kf ((ea_lceq x y).mp q)))
theorem ea_lclt (x y : Int64) : lg_cmp x y < 0 ↔ x < y := by
  unfold lg_cmp
  have a1 := @Int64.lt_iff_toInt_lt x y
  have a2 := @Int64.lt_iff_toInt_lt y x
  have a3 := @Int64.le_iff_toInt_le x y
  have a4 := @Int64.le_iff_toInt_le y x
  have a5 := @Int64.toInt_inj x y
  have z1 : ¬ ((1 : Int32) = 0) := by decide
  have z2 : ¬ ((-1 : Int32) = 0) := by decide
  by_cases h1 : y < x <;> by_cases h2 : x = y <;> simp [h1, h2] <;> (first | decide | omega | (constructor <;> intro <;> first | decide | omega | (simp_all; done)) | (simp_all; omega) | (simp_all; done))
theorem e_lc_lt {k : ea_K} {own : String} {cc : ByteArray} {nL d : Nat} (C : ea_C k own cc nL d) {pc : Nat} {lv : List (Nat × Value)} {st : List Value} {M : ea_M} {x y : Int64} {off : Int} {tgt : Nat} (hd : decode cc pc = .ok (.lcmp, 1)) (hd2 : decode cc (pc + 1) = .ok (.ifCond .lt off, 3)) (ht : ((pc + 1 : Nat) : Int) + off = (tgt : Int)) (kt : x < y → ea_E k tgt lv st M) (kf : ¬ x < y → ea_E k (pc + 4) lv st M) : ea_E k pc lv (.long y :: .long x :: st) M :=
  e_lcmp C hd (e_if_lt C hd2 ht (fun q => kt ((ea_lclt x y).mp q)) (fun q => kf (fun z => q ((ea_lclt x y).mpr z))))
theorem ea_lcge (x y : Int64) : 0 ≤ lg_cmp x y ↔ y ≤ x := by
  unfold lg_cmp
  have a1 := @Int64.lt_iff_toInt_lt x y
  have a2 := @Int64.lt_iff_toInt_lt y x
  have a3 := @Int64.le_iff_toInt_le x y
  have a4 := @Int64.le_iff_toInt_le y x
  have a5 := @Int64.toInt_inj x y
  have z1 : ¬ ((1 : Int32) = 0) := by decide
  have z2 : ¬ ((-1 : Int32) = 0) := by decide
  by_cases h1 : y < x <;> by_cases h2 : x = y <;> simp [h1, h2] <;> (first | decide | omega | (constructor <;> intro <;> first | decide | omega | (simp_all; done)) | (simp_all; omega) | (simp_all; done))
theorem e_lc_ge {k : ea_K} {own : String} {cc : ByteArray} {nL d : Nat} (C : ea_C k own cc nL d) {pc : Nat} {lv : List (Nat × Value)} {st : List Value} {M : ea_M} {x y : Int64} {off : Int} {tgt : Nat} (hd : decode cc pc = .ok (.lcmp, 1)) (hd2 : decode cc (pc + 1) = .ok (.ifCond .ge off, 3)) (ht : ((pc + 1 : Nat) : Int) + off = (tgt : Int)) (kt : y ≤ x → ea_E k tgt lv st M) (kf : ¬ y ≤ x → ea_E k (pc + 4) lv st M) : ea_E k pc lv (.long y :: .long x :: st) M :=
  e_lcmp C hd (e_if_ge C hd2 ht (fun q => kt ((ea_lcge x y).mp q)) (fun q => kf (fun z => q ((ea_lcge x y).mpr z))))
theorem ea_lcgt (x y : Int64) : 0 < lg_cmp x y ↔ y < x := by
  unfold lg_cmp
  have a1 := @Int64.lt_iff_toInt_lt x y
  have a2 := @Int64.lt_iff_toInt_lt y x
  have a3 := @Int64.le_iff_toInt_le x y
  have a4 := @Int64.le_iff_toInt_le y x
  have a5 := @Int64.toInt_inj x y
  have z1 : ¬ ((1 : Int32) = 0) := by decide
  have z2 : ¬ ((-1 : Int32) = 0) := by decide
  by_cases h1 : y < x <;> by_cases h2 : x = y <;> simp [h1, h2] <;> (first | decide | omega | (constructor <;> intro <;> first | decide | omega | (simp_all; done)) | (simp_all; omega) | (simp_all; done))
theorem e_lc_gt {k : ea_K} {own : String} {cc : ByteArray} {nL d : Nat} (C : ea_C k own cc nL d) {pc : Nat} {lv : List (Nat × Value)} {st : List Value} {M : ea_M} {x y : Int64} {off : Int} {tgt : Nat} (hd : decode cc pc = .ok (.lcmp, 1)) (hd2 : decode cc (pc + 1) = .ok (.ifCond .gt off, 3)) (ht : ((pc + 1 : Nat) : Int) + off = (tgt : Int)) (kt : y < x → ea_E k tgt lv st M) (kf : ¬ y < x → ea_E k (pc + 4) lv st M) : ea_E k pc lv (.long y :: .long x :: st) M :=
  e_lcmp C hd (e_if_gt C hd2 ht (fun q => kt ((ea_lcgt x y).mp q)) (fun q => kf (fun z => q ((ea_lcgt x y).mpr z))))
theorem ea_lcle (x y : Int64) : lg_cmp x y ≤ 0 ↔ x ≤ y := by
  unfold lg_cmp
  have a1 := @Int64.lt_iff_toInt_lt x y
  have a2 := @Int64.lt_iff_toInt_lt y x
  have a3 := @Int64.le_iff_toInt_le x y
  have a4 := @Int64.le_iff_toInt_le y x
  have a5 := @Int64.toInt_inj x y
  have z1 : ¬ ((1 : Int32) = 0) := by decide
  have z2 : ¬ ((-1 : Int32) = 0) := by decide
  by_cases h1 : y < x <;> by_cases h2 : x = y <;> simp [h1, h2] <;> (first | decide | omega | (constructor <;> intro <;> first | decide | omega | (simp_all; done)) | (simp_all; omega) | (simp_all; done))
theorem e_lc_le {k : ea_K} {own : String} {cc : ByteArray} {nL d : Nat} (C : ea_C k own cc nL d) {pc : Nat} {lv : List (Nat × Value)} {st : List Value} {M : ea_M} {x y : Int64} {off : Int} {tgt : Nat} (hd : decode cc pc = .ok (.lcmp, 1)) (hd2 : decode cc (pc + 1) = .ok (.ifCond .le off, 3)) (ht : ((pc + 1 : Nat) : Int) + off = (tgt : Int)) (kt : x ≤ y → ea_E k tgt lv st M) (kf : ¬ x ≤ y → ea_E k (pc + 4) lv st M) : ea_E k pc lv (.long y :: .long x :: st) M :=
  e_lcmp C hd (e_if_le C hd2 ht (fun q => kt ((ea_lcle x y).mp q)) (fun q => kf (fun z => q ((ea_lcle x y).mpr z))))
end
section
theorem dX7_init_0 : decode cX7_init 0 = .ok (.aload_n 0, 1) := by decide +kernel
theorem dX7_init_1 : decode cX7_init 1 = .ok (.invokespecial 1, 3) := by decide +kernel
theorem dX7_init_4 : decode cX7_init 4 = .ok (.aload_n 0, 1) := by decide +kernel
theorem dX7_init_5 : decode cX7_init 5 = .ok (.sipush 192, 3) := by decide +kernel
theorem dX7_init_8 : decode cX7_init 8 = .ok (.newarray .int, 2) := by decide +kernel
theorem dX7_init_10 : decode cX7_init 10 = .ok (.putfield 7, 3) := by decide +kernel
theorem dX7_init_13 : decode cX7_init 13 = .ok (.aload_n 0, 1) := by decide +kernel
theorem dX7_init_14 : decode cX7_init 14 = .ok (.bipush 6, 2) := by decide +kernel
theorem dX7_init_16 : decode cX7_init 16 = .ok (.newarray .int, 2) := by decide +kernel
theorem dX7_init_18 : decode cX7_init 18 = .ok (.putfield 13, 3) := by decide +kernel
theorem dX7_init_21 : decode cX7_init 21 = .ok (.aload_n 0, 1) := by decide +kernel
theorem dX7_init_22 : decode cX7_init 22 = .ok (.bipush 6, 2) := by decide +kernel
theorem dX7_init_24 : decode cX7_init 24 = .ok (.newarray .int, 2) := by decide +kernel
theorem dX7_init_26 : decode cX7_init 26 = .ok (.putfield 16, 3) := by decide +kernel
theorem dX7_init_29 : decode cX7_init 29 = .ok (.aload_n 0, 1) := by decide +kernel
theorem dX7_init_30 : decode cX7_init 30 = .ok (.bipush 42, 2) := by decide +kernel
theorem dX7_init_32 : decode cX7_init 32 = .ok (.newarray .int, 2) := by decide +kernel
theorem dX7_init_34 : decode cX7_init 34 = .ok (.putfield 19, 3) := by decide +kernel
theorem dX7_init_37 : decode cX7_init 37 = .ok (.aload_n 0, 1) := by decide +kernel
theorem dX7_init_38 : decode cX7_init 38 = .ok (.bipush 6, 2) := by decide +kernel
theorem dX7_init_40 : decode cX7_init 40 = .ok (.newarray .int, 2) := by decide +kernel
theorem dX7_init_42 : decode cX7_init 42 = .ok (.putfield 22, 3) := by decide +kernel
theorem dX7_init_45 : decode cX7_init 45 = .ok (.aload_n 0, 1) := by decide +kernel
theorem dX7_init_46 : decode cX7_init 46 = .ok (.bipush 10, 2) := by decide +kernel
theorem dX7_init_48 : decode cX7_init 48 = .ok (.newarray .int, 2) := by decide +kernel
theorem dX7_init_50 : decode cX7_init 50 = .ok (.putfield 25, 3) := by decide +kernel
theorem dX7_init_53 : decode cX7_init 53 = .ok (.aload_n 0, 1) := by decide +kernel
theorem dX7_init_54 : decode cX7_init 54 = .ok (.iconst 2, 1) := by decide +kernel
theorem dX7_init_55 : decode cX7_init 55 = .ok (.newarray .boolean, 2) := by decide +kernel
theorem dX7_init_57 : decode cX7_init 57 = .ok (.putfield 28, 3) := by decide +kernel
theorem dX7_init_60 : decode cX7_init 60 = .ok (.aload_n 0, 1) := by decide +kernel
theorem dX7_init_61 : decode cX7_init 61 = .ok (.sipush 200, 3) := by decide +kernel
theorem dX7_init_64 : decode cX7_init 64 = .ok (.newarray .int, 2) := by decide +kernel
theorem dX7_init_66 : decode cX7_init 66 = .ok (.putfield 32, 3) := by decide +kernel
theorem dX7_init_69 : decode cX7_init 69 = .ok (.aload_n 0, 1) := by decide +kernel
theorem dX7_init_70 : decode cX7_init 70 = .ok (.iconst 3, 1) := by decide +kernel
theorem dX7_init_71 : decode cX7_init 71 = .ok (.newarray .int, 2) := by decide +kernel
theorem dX7_init_73 : decode cX7_init 73 = .ok (.dup, 1) := by decide +kernel
theorem dX7_init_74 : decode cX7_init 74 = .ok (.iconst 0, 1) := by decide +kernel
theorem dX7_init_75 : decode cX7_init 75 = .ok (.iconst (-1), 1) := by decide +kernel
theorem dX7_init_76 : decode cX7_init 76 = .ok (.iastore, 1) := by decide +kernel
theorem dX7_init_77 : decode cX7_init 77 = .ok (.dup, 1) := by decide +kernel
theorem dX7_init_78 : decode cX7_init 78 = .ok (.iconst 1, 1) := by decide +kernel
theorem dX7_init_79 : decode cX7_init 79 = .ok (.iconst (-1), 1) := by decide +kernel
theorem dX7_init_80 : decode cX7_init 80 = .ok (.iastore, 1) := by decide +kernel
theorem dX7_init_81 : decode cX7_init 81 = .ok (.dup, 1) := by decide +kernel
theorem dX7_init_82 : decode cX7_init 82 = .ok (.iconst 2, 1) := by decide +kernel
theorem dX7_init_83 : decode cX7_init 83 = .ok (.iconst (-1), 1) := by decide +kernel
theorem dX7_init_84 : decode cX7_init 84 = .ok (.iastore, 1) := by decide +kernel
theorem dX7_init_85 : decode cX7_init 85 = .ok (.putfield 35, 3) := by decide +kernel
theorem dX7_init_88 : decode cX7_init 88 = .ok (.aload_n 0, 1) := by decide +kernel
theorem dX7_init_89 : decode cX7_init 89 = .ok (.bipush 24, 2) := by decide +kernel
theorem dX7_init_91 : decode cX7_init 91 = .ok (.newarray .int, 2) := by decide +kernel
theorem dX7_init_93 : decode cX7_init 93 = .ok (.putfield 38, 3) := by decide +kernel
theorem dX7_init_96 : decode cX7_init 96 = .ok (.aload_n 0, 1) := by decide +kernel
theorem dX7_init_97 : decode cX7_init 97 = .ok (.bipush 24, 2) := by decide +kernel
theorem dX7_init_99 : decode cX7_init 99 = .ok (.newarray .int, 2) := by decide +kernel
theorem dX7_init_101 : decode cX7_init 101 = .ok (.putfield 41, 3) := by decide +kernel
theorem dX7_init_104 : decode cX7_init 104 = .ok (.aload_n 0, 1) := by decide +kernel
theorem dX7_init_105 : decode cX7_init 105 = .ok (.bipush 24, 2) := by decide +kernel
theorem dX7_init_107 : decode cX7_init 107 = .ok (.newarray .int, 2) := by decide +kernel
theorem dX7_init_109 : decode cX7_init 109 = .ok (.putfield 44, 3) := by decide +kernel
theorem dX7_init_112 : decode cX7_init 112 = .ok (.aload_n 0, 1) := by decide +kernel
theorem dX7_init_113 : decode cX7_init 113 = .ok (.bipush 42, 2) := by decide +kernel
theorem dX7_init_115 : decode cX7_init 115 = .ok (.newarray .int, 2) := by decide +kernel
theorem dX7_init_117 : decode cX7_init 117 = .ok (.putfield 47, 3) := by decide +kernel
theorem dX7_init_120 : decode cX7_init 120 = .ok (.aload_n 0, 1) := by decide +kernel
theorem dX7_init_121 : decode cX7_init 121 = .ok (.bipush 6, 2) := by decide +kernel
theorem dX7_init_123 : decode cX7_init 123 = .ok (.newarray .int, 2) := by decide +kernel
theorem dX7_init_125 : decode cX7_init 125 = .ok (.putfield 50, 3) := by decide +kernel
theorem dX7_init_128 : decode cX7_init 128 = .ok (.aload_n 0, 1) := by decide +kernel
theorem dX7_init_129 : decode cX7_init 129 = .ok (.iconst 3, 1) := by decide +kernel
theorem dX7_init_130 : decode cX7_init 130 = .ok (.newarray .int, 2) := by decide +kernel
theorem dX7_init_132 : decode cX7_init 132 = .ok (.putfield 53, 3) := by decide +kernel
theorem dX7_init_135 : decode cX7_init 135 = .ok (.aload_n 0, 1) := by decide +kernel
theorem dX7_init_136 : decode cX7_init 136 = .ok (.bipush 25, 2) := by decide +kernel
theorem dX7_init_138 : decode cX7_init 138 = .ok (.newarray .int, 2) := by decide +kernel
theorem dX7_init_140 : decode cX7_init 140 = .ok (.dup, 1) := by decide +kernel
theorem dX7_init_141 : decode cX7_init 141 = .ok (.iconst 0, 1) := by decide +kernel
theorem dX7_init_142 : decode cX7_init 142 = .ok (.bipush 119, 2) := by decide +kernel
theorem dX7_init_144 : decode cX7_init 144 = .ok (.iastore, 1) := by decide +kernel
theorem dX7_init_145 : decode cX7_init 145 = .ok (.dup, 1) := by decide +kernel
theorem dX7_init_146 : decode cX7_init 146 = .ok (.iconst 1, 1) := by decide +kernel
theorem dX7_init_147 : decode cX7_init 147 = .ok (.bipush 97, 2) := by decide +kernel
theorem dX7_init_149 : decode cX7_init 149 = .ok (.iastore, 1) := by decide +kernel
theorem dX7_init_150 : decode cX7_init 150 = .ok (.dup, 1) := by decide +kernel
theorem dX7_init_151 : decode cX7_init 151 = .ok (.iconst 2, 1) := by decide +kernel
theorem dX7_init_152 : decode cX7_init 152 = .ok (.bipush 108, 2) := by decide +kernel
theorem dX7_init_154 : decode cX7_init 154 = .ok (.iastore, 1) := by decide +kernel
theorem dX7_init_155 : decode cX7_init 155 = .ok (.dup, 1) := by decide +kernel
theorem dX7_init_156 : decode cX7_init 156 = .ok (.iconst 3, 1) := by decide +kernel
theorem dX7_init_157 : decode cX7_init 157 = .ok (.bipush 108, 2) := by decide +kernel
theorem dX7_init_159 : decode cX7_init 159 = .ok (.iastore, 1) := by decide +kernel
theorem dX7_init_160 : decode cX7_init 160 = .ok (.dup, 1) := by decide +kernel
theorem dX7_init_161 : decode cX7_init 161 = .ok (.iconst 4, 1) := by decide +kernel
theorem dX7_init_162 : decode cX7_init 162 = .ok (.iconst 0, 1) := by decide +kernel
theorem dX7_init_163 : decode cX7_init 163 = .ok (.iastore, 1) := by decide +kernel
theorem dX7_init_164 : decode cX7_init 164 = .ok (.dup, 1) := by decide +kernel
theorem dX7_init_165 : decode cX7_init 165 = .ok (.iconst 5, 1) := by decide +kernel
theorem dX7_init_166 : decode cX7_init 166 = .ok (.bipush 115, 2) := by decide +kernel
theorem dX7_init_168 : decode cX7_init 168 = .ok (.iastore, 1) := by decide +kernel
theorem dX7_init_169 : decode cX7_init 169 = .ok (.dup, 1) := by decide +kernel
theorem dX7_init_170 : decode cX7_init 170 = .ok (.bipush 6, 2) := by decide +kernel
theorem dX7_init_172 : decode cX7_init 172 = .ok (.bipush 116, 2) := by decide +kernel
theorem dX7_init_174 : decode cX7_init 174 = .ok (.iastore, 1) := by decide +kernel
theorem dX7_init_175 : decode cX7_init 175 = .ok (.dup, 1) := by decide +kernel
theorem dX7_init_176 : decode cX7_init 176 = .ok (.bipush 7, 2) := by decide +kernel
theorem dX7_init_178 : decode cX7_init 178 = .ok (.bipush 117, 2) := by decide +kernel
theorem dX7_init_180 : decode cX7_init 180 = .ok (.iastore, 1) := by decide +kernel
theorem dX7_init_181 : decode cX7_init 181 = .ok (.dup, 1) := by decide +kernel
theorem dX7_init_182 : decode cX7_init 182 = .ok (.bipush 8, 2) := by decide +kernel
theorem dX7_init_184 : decode cX7_init 184 = .ok (.bipush 102, 2) := by decide +kernel
theorem dX7_init_186 : decode cX7_init 186 = .ok (.iastore, 1) := by decide +kernel
theorem dX7_init_187 : decode cX7_init 187 = .ok (.dup, 1) := by decide +kernel
theorem dX7_init_188 : decode cX7_init 188 = .ok (.bipush 9, 2) := by decide +kernel
theorem dX7_init_190 : decode cX7_init 190 = .ok (.bipush 102, 2) := by decide +kernel
theorem dX7_init_192 : decode cX7_init 192 = .ok (.iastore, 1) := by decide +kernel
theorem dX7_init_193 : decode cX7_init 193 = .ok (.dup, 1) := by decide +kernel
theorem dX7_init_194 : decode cX7_init 194 = .ok (.bipush 10, 2) := by decide +kernel
theorem dX7_init_196 : decode cX7_init 196 = .ok (.bipush 108, 2) := by decide +kernel
theorem dX7_init_198 : decode cX7_init 198 = .ok (.iastore, 1) := by decide +kernel
theorem dX7_init_199 : decode cX7_init 199 = .ok (.dup, 1) := by decide +kernel
theorem dX7_init_200 : decode cX7_init 200 = .ok (.bipush 11, 2) := by decide +kernel
theorem dX7_init_202 : decode cX7_init 202 = .ok (.bipush 97, 2) := by decide +kernel
theorem dX7_init_204 : decode cX7_init 204 = .ok (.iastore, 1) := by decide +kernel
theorem dX7_init_205 : decode cX7_init 205 = .ok (.dup, 1) := by decide +kernel
theorem dX7_init_206 : decode cX7_init 206 = .ok (.bipush 12, 2) := by decide +kernel
theorem dX7_init_208 : decode cX7_init 208 = .ok (.bipush 121, 2) := by decide +kernel
theorem dX7_init_210 : decode cX7_init 210 = .ok (.iastore, 1) := by decide +kernel
theorem dX7_init_211 : decode cX7_init 211 = .ok (.dup, 1) := by decide +kernel
theorem dX7_init_212 : decode cX7_init 212 = .ok (.bipush 13, 2) := by decide +kernel
theorem dX7_init_214 : decode cX7_init 214 = .ok (.bipush 101, 2) := by decide +kernel
theorem dX7_init_216 : decode cX7_init 216 = .ok (.iastore, 1) := by decide +kernel
theorem dX7_init_217 : decode cX7_init 217 = .ok (.dup, 1) := by decide +kernel
theorem dX7_init_218 : decode cX7_init 218 = .ok (.bipush 14, 2) := by decide +kernel
theorem dX7_init_220 : decode cX7_init 220 = .ok (.bipush 114, 2) := by decide +kernel
theorem dX7_init_222 : decode cX7_init 222 = .ok (.iastore, 1) := by decide +kernel
theorem dX7_init_223 : decode cX7_init 223 = .ok (.dup, 1) := by decide +kernel
theorem dX7_init_224 : decode cX7_init 224 = .ok (.bipush 15, 2) := by decide +kernel
theorem dX7_init_226 : decode cX7_init 226 = .ok (.bipush 97, 2) := by decide +kernel
theorem dX7_init_228 : decode cX7_init 228 = .ok (.iastore, 1) := by decide +kernel
theorem dX7_init_229 : decode cX7_init 229 = .ok (.dup, 1) := by decide +kernel
theorem dX7_init_230 : decode cX7_init 230 = .ok (.bipush 16, 2) := by decide +kernel
theorem dX7_init_232 : decode cX7_init 232 = .ok (.bipush 105, 2) := by decide +kernel
theorem dX7_init_234 : decode cX7_init 234 = .ok (.iastore, 1) := by decide +kernel
theorem dX7_init_235 : decode cX7_init 235 = .ok (.dup, 1) := by decide +kernel
theorem dX7_init_236 : decode cX7_init 236 = .ok (.bipush 17, 2) := by decide +kernel
theorem dX7_init_238 : decode cX7_init 238 = .ok (.bipush 114, 2) := by decide +kernel
theorem dX7_init_240 : decode cX7_init 240 = .ok (.iastore, 1) := by decide +kernel
theorem dX7_init_241 : decode cX7_init 241 = .ok (.dup, 1) := by decide +kernel
theorem dX7_init_242 : decode cX7_init 242 = .ok (.bipush 18, 2) := by decide +kernel
theorem dX7_init_244 : decode cX7_init 244 = .ok (.iconst 0, 1) := by decide +kernel
theorem dX7_init_245 : decode cX7_init 245 = .ok (.iastore, 1) := by decide +kernel
theorem dX7_init_246 : decode cX7_init 246 = .ok (.dup, 1) := by decide +kernel
theorem dX7_init_247 : decode cX7_init 247 = .ok (.bipush 19, 2) := by decide +kernel
theorem dX7_init_249 : decode cX7_init 249 = .ok (.iconst 0, 1) := by decide +kernel
theorem dX7_init_250 : decode cX7_init 250 = .ok (.iastore, 1) := by decide +kernel
theorem dX7_init_251 : decode cX7_init 251 = .ok (.dup, 1) := by decide +kernel
theorem dX7_init_252 : decode cX7_init 252 = .ok (.bipush 20, 2) := by decide +kernel
theorem dX7_init_254 : decode cX7_init 254 = .ok (.bipush 104, 2) := by decide +kernel
theorem dX7_init_256 : decode cX7_init 256 = .ok (.iastore, 1) := by decide +kernel
theorem dX7_init_257 : decode cX7_init 257 = .ok (.dup, 1) := by decide +kernel
theorem dX7_init_258 : decode cX7_init 258 = .ok (.bipush 21, 2) := by decide +kernel
theorem dX7_init_260 : decode cX7_init 260 = .ok (.bipush 101, 2) := by decide +kernel
theorem dX7_init_262 : decode cX7_init 262 = .ok (.iastore, 1) := by decide +kernel
theorem dX7_init_263 : decode cX7_init 263 = .ok (.dup, 1) := by decide +kernel
theorem dX7_init_264 : decode cX7_init 264 = .ok (.bipush 22, 2) := by decide +kernel
theorem dX7_init_266 : decode cX7_init 266 = .ok (.bipush 97, 2) := by decide +kernel
theorem dX7_init_268 : decode cX7_init 268 = .ok (.iastore, 1) := by decide +kernel
theorem dX7_init_269 : decode cX7_init 269 = .ok (.dup, 1) := by decide +kernel
theorem dX7_init_270 : decode cX7_init 270 = .ok (.bipush 23, 2) := by decide +kernel
theorem dX7_init_272 : decode cX7_init 272 = .ok (.bipush 116, 2) := by decide +kernel
theorem dX7_init_274 : decode cX7_init 274 = .ok (.iastore, 1) := by decide +kernel
theorem dX7_init_275 : decode cX7_init 275 = .ok (.dup, 1) := by decide +kernel
theorem dX7_init_276 : decode cX7_init 276 = .ok (.bipush 24, 2) := by decide +kernel
theorem dX7_init_278 : decode cX7_init 278 = .ok (.iconst 0, 1) := by decide +kernel
theorem dX7_init_279 : decode cX7_init 279 = .ok (.iastore, 1) := by decide +kernel
theorem dX7_init_280 : decode cX7_init 280 = .ok (.putfield 56, 3) := by decide +kernel
theorem dX7_init_283 : decode cX7_init 283 = .ok (.aload_n 0, 1) := by decide +kernel
theorem dX7_init_284 : decode cX7_init 284 = .ok (.bipush 11, 2) := by decide +kernel
theorem dX7_init_286 : decode cX7_init 286 = .ok (.newarray .int, 2) := by decide +kernel
theorem dX7_init_288 : decode cX7_init 288 = .ok (.putfield 59, 3) := by decide +kernel
theorem dX7_init_291 : decode cX7_init 291 = .ok (.aload_n 0, 1) := by decide +kernel
theorem dX7_init_292 : decode cX7_init 292 = .ok (.getfield 7, 3) := by decide +kernel
theorem dX7_init_295 : decode cX7_init 295 = .ok (.bipush 12, 2) := by decide +kernel
theorem dX7_init_297 : decode cX7_init 297 = .ok (.bipush 40, 2) := by decide +kernel
theorem dX7_init_299 : decode cX7_init 299 = .ok (.iastore, 1) := by decide +kernel
theorem dX7_init_300 : decode cX7_init 300 = .ok (.return_, 1) := by decide +kernel
theorem dX7_in_0 : decode cX7_in 0 = .ok (.lload_n 0, 1) := by decide +kernel
theorem dX7_in_1 : decode cX7_in 1 = .ok (.lload_n 2, 1) := by decide +kernel
theorem dX7_in_2 : decode cX7_in 2 = .ok (.lcmp, 1) := by decide +kernel
theorem dX7_in_3 : decode cX7_in 3 = .ok (.ifCond .lt 14, 3) := by decide +kernel
theorem dX7_in_6 : decode cX7_in 6 = .ok (.lload_n 0, 1) := by decide +kernel
theorem dX7_in_7 : decode cX7_in 7 = .ok (.lload 4, 2) := by decide +kernel
theorem dX7_in_9 : decode cX7_in 9 = .ok (.lcmp, 1) := by decide +kernel
theorem dX7_in_10 : decode cX7_in 10 = .ok (.ifCond .gt 7, 3) := by decide +kernel
theorem dX7_in_13 : decode cX7_in 13 = .ok (.iconst 1, 1) := by decide +kernel
theorem dX7_in_14 : decode cX7_in 14 = .ok (.goto 4, 3) := by decide +kernel
theorem dX7_in_17 : decode cX7_in 17 = .ok (.iconst 0, 1) := by decide +kernel
theorem dX7_in_18 : decode cX7_in 18 = .ok (.ireturn, 1) := by decide +kernel
theorem dX7_copyRow_0 : decode cX7_copyRow 0 = .ok (.iconst 0, 1) := by decide +kernel
theorem dX7_copyRow_1 : decode cX7_copyRow 1 = .ok (.istore_n 3, 1) := by decide +kernel
theorem dX7_copyRow_2 : decode cX7_copyRow 2 = .ok (.iload_n 3, 1) := by decide +kernel
theorem dX7_copyRow_3 : decode cX7_copyRow 3 = .ok (.bipush 16, 2) := by decide +kernel
theorem dX7_copyRow_5 : decode cX7_copyRow 5 = .ok (.if_icmp .ge 25, 3) := by decide +kernel
theorem dX7_copyRow_8 : decode cX7_copyRow 8 = .ok (.aload_n 0, 1) := by decide +kernel
theorem dX7_copyRow_9 : decode cX7_copyRow 9 = .ok (.getfield 7, 3) := by decide +kernel
theorem dX7_copyRow_12 : decode cX7_copyRow 12 = .ok (.iload_n 2, 1) := by decide +kernel
theorem dX7_copyRow_13 : decode cX7_copyRow 13 = .ok (.iload_n 3, 1) := by decide +kernel
theorem dX7_copyRow_14 : decode cX7_copyRow 14 = .ok (.iadd, 1) := by decide +kernel
theorem dX7_copyRow_15 : decode cX7_copyRow 15 = .ok (.aload_n 0, 1) := by decide +kernel
theorem dX7_copyRow_16 : decode cX7_copyRow 16 = .ok (.getfield 7, 3) := by decide +kernel
theorem dX7_copyRow_19 : decode cX7_copyRow 19 = .ok (.iload_n 1, 1) := by decide +kernel
theorem dX7_copyRow_20 : decode cX7_copyRow 20 = .ok (.iload_n 3, 1) := by decide +kernel
theorem dX7_copyRow_21 : decode cX7_copyRow 21 = .ok (.iadd, 1) := by decide +kernel
theorem dX7_copyRow_22 : decode cX7_copyRow 22 = .ok (.iaload, 1) := by decide +kernel
theorem dX7_copyRow_23 : decode cX7_copyRow 23 = .ok (.iastore, 1) := by decide +kernel
theorem dX7_copyRow_24 : decode cX7_copyRow 24 = .ok (.iinc 3 1, 3) := by decide +kernel
theorem dX7_copyRow_27 : decode cX7_copyRow 27 = .ok (.goto (-25), 3) := by decide +kernel
theorem dX7_copyRow_30 : decode cX7_copyRow 30 = .ok (.return_, 1) := by decide +kernel
theorem dX7_write_0 : decode cX7_write 0 = .ok (.iload_n 1, 1) := by decide +kernel
theorem dX7_write_1 : decode cX7_write 1 = .ok (.i2l, 1) := by decide +kernel
theorem dX7_write_2 : decode cX7_write 2 = .ok (.lconst 0, 1) := by decide +kernel
theorem dX7_write_3 : decode cX7_write 3 = .ok (.ldc2_w 62, 3) := by decide +kernel
theorem dX7_write_6 : decode cX7_write 6 = .ok (.invokestatic 64, 3) := by decide +kernel
theorem dX7_write_9 : decode cX7_write 9 = .ok (.ifCond .ne 6, 3) := by decide +kernel
theorem dX7_write_12 : decode cX7_write 12 = .ok (.ldc 68, 2) := by decide +kernel
theorem dX7_write_14 : decode cX7_write 14 = .ok (.ireturn, 1) := by decide +kernel
theorem dX7_write_15 : decode cX7_write 15 = .ok (.aload_n 0, 1) := by decide +kernel
theorem dX7_write_16 : decode cX7_write 16 = .ok (.getfield 69, 3) := by decide +kernel
theorem dX7_write_19 : decode cX7_write 19 = .ok (.sipush 200, 3) := by decide +kernel
theorem dX7_write_22 : decode cX7_write 22 = .ok (.if_icmp .ne 6, 3) := by decide +kernel
theorem dX7_write_25 : decode cX7_write 25 = .ok (.ldc 73, 2) := by decide +kernel
theorem dX7_write_27 : decode cX7_write 27 = .ok (.ireturn, 1) := by decide +kernel
theorem dX7_write_28 : decode cX7_write 28 = .ok (.aload_n 0, 1) := by decide +kernel
theorem dX7_write_29 : decode cX7_write 29 = .ok (.getfield 32, 3) := by decide +kernel
theorem dX7_write_32 : decode cX7_write 32 = .ok (.aload_n 0, 1) := by decide +kernel
theorem dX7_write_33 : decode cX7_write 33 = .ok (.getfield 69, 3) := by decide +kernel
theorem dX7_write_36 : decode cX7_write 36 = .ok (.iload_n 1, 1) := by decide +kernel
theorem dX7_write_37 : decode cX7_write 37 = .ok (.iastore, 1) := by decide +kernel
theorem dX7_write_38 : decode cX7_write 38 = .ok (.aload_n 0, 1) := by decide +kernel
theorem dX7_write_39 : decode cX7_write 39 = .ok (.dup, 1) := by decide +kernel
theorem dX7_write_40 : decode cX7_write 40 = .ok (.getfield 69, 3) := by decide +kernel
theorem dX7_write_43 : decode cX7_write 43 = .ok (.iconst 1, 1) := by decide +kernel
theorem dX7_write_44 : decode cX7_write 44 = .ok (.iadd, 1) := by decide +kernel
theorem dX7_write_45 : decode cX7_write 45 = .ok (.putfield 69, 3) := by decide +kernel
theorem dX7_write_48 : decode cX7_write 48 = .ok (.aload_n 0, 1) := by decide +kernel
theorem dX7_write_49 : decode cX7_write 49 = .ok (.getfield 69, 3) := by decide +kernel
theorem dX7_write_52 : decode cX7_write 52 = .ok (.ireturn, 1) := by decide +kernel
theorem dX7_erase_0 : decode cX7_erase 0 = .ok (.aload_n 0, 1) := by decide +kernel
theorem dX7_erase_1 : decode cX7_erase 1 = .ok (.getfield 69, 3) := by decide +kernel
theorem dX7_erase_4 : decode cX7_erase 4 = .ok (.istore_n 1, 1) := by decide +kernel
theorem dX7_erase_5 : decode cX7_erase 5 = .ok (.aload_n 0, 1) := by decide +kernel
theorem dX7_erase_6 : decode cX7_erase 6 = .ok (.iconst 0, 1) := by decide +kernel
theorem dX7_erase_7 : decode cX7_erase 7 = .ok (.putfield 69, 3) := by decide +kernel
theorem dX7_erase_10 : decode cX7_erase 10 = .ok (.iload_n 1, 1) := by decide +kernel
theorem dX7_erase_11 : decode cX7_erase 11 = .ok (.ireturn, 1) := by decide +kernel
theorem dX7_isSmall_0 : decode cX7_isSmall 0 = .ok (.iload_n 0, 1) := by decide +kernel
theorem dX7_isSmall_1 : decode cX7_isSmall 1 = .ok (.i2l, 1) := by decide +kernel
theorem dX7_isSmall_2 : decode cX7_isSmall 2 = .ok (.ldc2_w 74, 3) := by decide +kernel
theorem dX7_isSmall_5 : decode cX7_isSmall 5 = .ok (.ldc2_w 76, 3) := by decide +kernel
theorem dX7_isSmall_8 : decode cX7_isSmall 8 = .ok (.invokestatic 64, 3) := by decide +kernel
theorem dX7_isSmall_11 : decode cX7_isSmall 11 = .ok (.ireturn, 1) := by decide +kernel
theorem dX7_isDigit_0 : decode cX7_isDigit 0 = .ok (.iload_n 0, 1) := by decide +kernel
theorem dX7_isDigit_1 : decode cX7_isDigit 1 = .ok (.i2l, 1) := by decide +kernel
theorem dX7_isDigit_2 : decode cX7_isDigit 2 = .ok (.ldc2_w 78, 3) := by decide +kernel
theorem dX7_isDigit_5 : decode cX7_isDigit 5 = .ok (.ldc2_w 80, 3) := by decide +kernel
theorem dX7_isDigit_8 : decode cX7_isDigit 8 = .ok (.invokestatic 64, 3) := by decide +kernel
theorem dX7_isDigit_11 : decode cX7_isDigit 11 = .ok (.ireturn, 1) := by decide +kernel
theorem dX7_nextToken_0 : decode cX7_nextToken 0 = .ok (.aload_n 0, 1) := by decide +kernel
theorem dX7_nextToken_1 : decode cX7_nextToken 1 = .ok (.aload_n 0, 1) := by decide +kernel
theorem dX7_nextToken_2 : decode cX7_nextToken 2 = .ok (.getfield 82, 3) := by decide +kernel
theorem dX7_nextToken_5 : decode cX7_nextToken 5 = .ok (.putfield 85, 3) := by decide +kernel
theorem dX7_nextToken_8 : decode cX7_nextToken 8 = .ok (.aload_n 0, 1) := by decide +kernel
theorem dX7_nextToken_9 : decode cX7_nextToken 9 = .ok (.getfield 85, 3) := by decide +kernel
theorem dX7_nextToken_12 : decode cX7_nextToken 12 = .ok (.aload_n 0, 1) := by decide +kernel
theorem dX7_nextToken_13 : decode cX7_nextToken 13 = .ok (.getfield 69, 3) := by decide +kernel
theorem dX7_nextToken_16 : decode cX7_nextToken 16 = .ok (.if_icmp .ge 30, 3) := by decide +kernel
theorem dX7_nextToken_19 : decode cX7_nextToken 19 = .ok (.aload_n 0, 1) := by decide +kernel
theorem dX7_nextToken_20 : decode cX7_nextToken 20 = .ok (.getfield 32, 3) := by decide +kernel
theorem dX7_nextToken_23 : decode cX7_nextToken 23 = .ok (.aload_n 0, 1) := by decide +kernel
theorem dX7_nextToken_24 : decode cX7_nextToken 24 = .ok (.getfield 85, 3) := by decide +kernel
theorem dX7_nextToken_27 : decode cX7_nextToken 27 = .ok (.iaload, 1) := by decide +kernel
theorem dX7_nextToken_28 : decode cX7_nextToken 28 = .ok (.bipush 32, 2) := by decide +kernel
theorem dX7_nextToken_30 : decode cX7_nextToken 30 = .ok (.if_icmp .ne 16, 3) := by decide +kernel
theorem dX7_nextToken_33 : decode cX7_nextToken 33 = .ok (.aload_n 0, 1) := by decide +kernel
theorem dX7_nextToken_34 : decode cX7_nextToken 34 = .ok (.dup, 1) := by decide +kernel
theorem dX7_nextToken_35 : decode cX7_nextToken 35 = .ok (.getfield 85, 3) := by decide +kernel
theorem dX7_nextToken_38 : decode cX7_nextToken 38 = .ok (.iconst 1, 1) := by decide +kernel
theorem dX7_nextToken_39 : decode cX7_nextToken 39 = .ok (.iadd, 1) := by decide +kernel
theorem dX7_nextToken_40 : decode cX7_nextToken 40 = .ok (.putfield 85, 3) := by decide +kernel
theorem dX7_nextToken_43 : decode cX7_nextToken 43 = .ok (.goto (-35), 3) := by decide +kernel
theorem dX7_nextToken_46 : decode cX7_nextToken 46 = .ok (.aload_n 0, 1) := by decide +kernel
theorem dX7_nextToken_47 : decode cX7_nextToken 47 = .ok (.aload_n 0, 1) := by decide +kernel
theorem dX7_nextToken_48 : decode cX7_nextToken 48 = .ok (.getfield 85, 3) := by decide +kernel
theorem dX7_nextToken_51 : decode cX7_nextToken 51 = .ok (.aload_n 0, 1) := by decide +kernel
theorem dX7_nextToken_52 : decode cX7_nextToken 52 = .ok (.getfield 69, 3) := by decide +kernel
theorem dX7_nextToken_55 : decode cX7_nextToken 55 = .ok (.if_icmp .ge 12, 3) := by decide +kernel
theorem dX7_nextToken_58 : decode cX7_nextToken 58 = .ok (.aload_n 0, 1) := by decide +kernel
theorem dX7_nextToken_59 : decode cX7_nextToken 59 = .ok (.getfield 85, 3) := by decide +kernel
theorem dX7_nextToken_62 : decode cX7_nextToken 62 = .ok (.iconst 1, 1) := by decide +kernel
theorem dX7_nextToken_63 : decode cX7_nextToken 63 = .ok (.iadd, 1) := by decide +kernel
theorem dX7_nextToken_64 : decode cX7_nextToken 64 = .ok (.goto 7, 3) := by decide +kernel
theorem dX7_nextToken_67 : decode cX7_nextToken 67 = .ok (.aload_n 0, 1) := by decide +kernel
theorem dX7_nextToken_68 : decode cX7_nextToken 68 = .ok (.getfield 85, 3) := by decide +kernel
theorem dX7_nextToken_71 : decode cX7_nextToken 71 = .ok (.putfield 82, 3) := by decide +kernel
theorem dX7_nextToken_74 : decode cX7_nextToken 74 = .ok (.aload_n 0, 1) := by decide +kernel
theorem dX7_nextToken_75 : decode cX7_nextToken 75 = .ok (.getfield 85, 3) := by decide +kernel
theorem dX7_nextToken_78 : decode cX7_nextToken 78 = .ok (.aload_n 0, 1) := by decide +kernel
theorem dX7_nextToken_79 : decode cX7_nextToken 79 = .ok (.getfield 69, 3) := by decide +kernel
theorem dX7_nextToken_82 : decode cX7_nextToken 82 = .ok (.if_icmp .ge 57, 3) := by decide +kernel
theorem dX7_nextToken_85 : decode cX7_nextToken 85 = .ok (.aload_n 0, 1) := by decide +kernel
theorem dX7_nextToken_86 : decode cX7_nextToken 86 = .ok (.getfield 32, 3) := by decide +kernel
theorem dX7_nextToken_89 : decode cX7_nextToken 89 = .ok (.aload_n 0, 1) := by decide +kernel
theorem dX7_nextToken_90 : decode cX7_nextToken 90 = .ok (.getfield 85, 3) := by decide +kernel
theorem dX7_nextToken_93 : decode cX7_nextToken 93 = .ok (.iaload, 1) := by decide +kernel
theorem dX7_nextToken_94 : decode cX7_nextToken 94 = .ok (.invokestatic 88, 3) := by decide +kernel
theorem dX7_nextToken_97 : decode cX7_nextToken 97 = .ok (.ifCond .eq 42, 3) := by decide +kernel
theorem dX7_nextToken_100 : decode cX7_nextToken 100 = .ok (.aload_n 0, 1) := by decide +kernel
theorem dX7_nextToken_101 : decode cX7_nextToken 101 = .ok (.getfield 82, 3) := by decide +kernel
theorem dX7_nextToken_104 : decode cX7_nextToken 104 = .ok (.aload_n 0, 1) := by decide +kernel
theorem dX7_nextToken_105 : decode cX7_nextToken 105 = .ok (.getfield 69, 3) := by decide +kernel
theorem dX7_nextToken_108 : decode cX7_nextToken 108 = .ok (.if_icmp .ge 96, 3) := by decide +kernel
theorem dX7_nextToken_111 : decode cX7_nextToken 111 = .ok (.aload_n 0, 1) := by decide +kernel
theorem dX7_nextToken_112 : decode cX7_nextToken 112 = .ok (.getfield 32, 3) := by decide +kernel
theorem dX7_nextToken_115 : decode cX7_nextToken 115 = .ok (.aload_n 0, 1) := by decide +kernel
theorem dX7_nextToken_116 : decode cX7_nextToken 116 = .ok (.getfield 82, 3) := by decide +kernel
theorem dX7_nextToken_119 : decode cX7_nextToken 119 = .ok (.iaload, 1) := by decide +kernel
theorem dX7_nextToken_120 : decode cX7_nextToken 120 = .ok (.invokestatic 88, 3) := by decide +kernel
theorem dX7_nextToken_123 : decode cX7_nextToken 123 = .ok (.ifCond .eq 81, 3) := by decide +kernel
theorem dX7_nextToken_126 : decode cX7_nextToken 126 = .ok (.aload_n 0, 1) := by decide +kernel
theorem dX7_nextToken_127 : decode cX7_nextToken 127 = .ok (.dup, 1) := by decide +kernel
theorem dX7_nextToken_128 : decode cX7_nextToken 128 = .ok (.getfield 82, 3) := by decide +kernel
theorem dX7_nextToken_131 : decode cX7_nextToken 131 = .ok (.iconst 1, 1) := by decide +kernel
theorem dX7_nextToken_132 : decode cX7_nextToken 132 = .ok (.iadd, 1) := by decide +kernel
theorem dX7_nextToken_133 : decode cX7_nextToken 133 = .ok (.putfield 82, 3) := by decide +kernel
theorem dX7_nextToken_136 : decode cX7_nextToken 136 = .ok (.goto (-36), 3) := by decide +kernel
theorem dX7_nextToken_139 : decode cX7_nextToken 139 = .ok (.aload_n 0, 1) := by decide +kernel
theorem dX7_nextToken_140 : decode cX7_nextToken 140 = .ok (.getfield 85, 3) := by decide +kernel
theorem dX7_nextToken_143 : decode cX7_nextToken 143 = .ok (.aload_n 0, 1) := by decide +kernel
theorem dX7_nextToken_144 : decode cX7_nextToken 144 = .ok (.getfield 69, 3) := by decide +kernel
theorem dX7_nextToken_147 : decode cX7_nextToken 147 = .ok (.if_icmp .ge 57, 3) := by decide +kernel
theorem dX7_nextToken_150 : decode cX7_nextToken 150 = .ok (.aload_n 0, 1) := by decide +kernel
theorem dX7_nextToken_151 : decode cX7_nextToken 151 = .ok (.getfield 32, 3) := by decide +kernel
theorem dX7_nextToken_154 : decode cX7_nextToken 154 = .ok (.aload_n 0, 1) := by decide +kernel
theorem dX7_nextToken_155 : decode cX7_nextToken 155 = .ok (.getfield 85, 3) := by decide +kernel
theorem dX7_nextToken_158 : decode cX7_nextToken 158 = .ok (.iaload, 1) := by decide +kernel
theorem dX7_nextToken_159 : decode cX7_nextToken 159 = .ok (.invokestatic 92, 3) := by decide +kernel
theorem dX7_nextToken_162 : decode cX7_nextToken 162 = .ok (.ifCond .eq 42, 3) := by decide +kernel
theorem dX7_nextToken_165 : decode cX7_nextToken 165 = .ok (.aload_n 0, 1) := by decide +kernel
theorem dX7_nextToken_166 : decode cX7_nextToken 166 = .ok (.getfield 82, 3) := by decide +kernel
theorem dX7_nextToken_169 : decode cX7_nextToken 169 = .ok (.aload_n 0, 1) := by decide +kernel
theorem dX7_nextToken_170 : decode cX7_nextToken 170 = .ok (.getfield 69, 3) := by decide +kernel
theorem dX7_nextToken_173 : decode cX7_nextToken 173 = .ok (.if_icmp .ge 31, 3) := by decide +kernel
theorem dX7_nextToken_176 : decode cX7_nextToken 176 = .ok (.aload_n 0, 1) := by decide +kernel
theorem dX7_nextToken_177 : decode cX7_nextToken 177 = .ok (.getfield 32, 3) := by decide +kernel
theorem dX7_nextToken_180 : decode cX7_nextToken 180 = .ok (.aload_n 0, 1) := by decide +kernel
theorem dX7_nextToken_181 : decode cX7_nextToken 181 = .ok (.getfield 82, 3) := by decide +kernel
theorem dX7_nextToken_184 : decode cX7_nextToken 184 = .ok (.iaload, 1) := by decide +kernel
theorem dX7_nextToken_185 : decode cX7_nextToken 185 = .ok (.invokestatic 92, 3) := by decide +kernel
theorem dX7_nextToken_188 : decode cX7_nextToken 188 = .ok (.ifCond .eq 16, 3) := by decide +kernel
theorem dX7_nextToken_191 : decode cX7_nextToken 191 = .ok (.aload_n 0, 1) := by decide +kernel
theorem dX7_nextToken_192 : decode cX7_nextToken 192 = .ok (.dup, 1) := by decide +kernel
theorem dX7_nextToken_193 : decode cX7_nextToken 193 = .ok (.getfield 82, 3) := by decide +kernel
theorem dX7_nextToken_196 : decode cX7_nextToken 196 = .ok (.iconst 1, 1) := by decide +kernel
theorem dX7_nextToken_197 : decode cX7_nextToken 197 = .ok (.iadd, 1) := by decide +kernel
theorem dX7_nextToken_198 : decode cX7_nextToken 198 = .ok (.putfield 82, 3) := by decide +kernel
theorem dX7_nextToken_201 : decode cX7_nextToken 201 = .ok (.goto (-36), 3) := by decide +kernel
theorem dX7_nextToken_204 : decode cX7_nextToken 204 = .ok (.return_, 1) := by decide +kernel
theorem dX7_wordHere_0 : decode cX7_wordHere 0 = .ok (.iconst 0, 1) := by decide +kernel
theorem dX7_wordHere_1 : decode cX7_wordHere 1 = .ok (.istore_n 1, 1) := by decide +kernel
theorem dX7_wordHere_2 : decode cX7_wordHere 2 = .ok (.iload_n 1, 1) := by decide +kernel
theorem dX7_wordHere_3 : decode cX7_wordHere 3 = .ok (.iconst 4, 1) := by decide +kernel
theorem dX7_wordHere_4 : decode cX7_wordHere 4 = .ok (.if_icmp .gt 110, 3) := by decide +kernel
theorem dX7_wordHere_7 : decode cX7_wordHere 7 = .ok (.aload_n 0, 1) := by decide +kernel
theorem dX7_wordHere_8 : decode cX7_wordHere 8 = .ok (.getfield 82, 3) := by decide +kernel
theorem dX7_wordHere_11 : decode cX7_wordHere 11 = .ok (.aload_n 0, 1) := by decide +kernel
theorem dX7_wordHere_12 : decode cX7_wordHere 12 = .ok (.getfield 85, 3) := by decide +kernel
theorem dX7_wordHere_15 : decode cX7_wordHere 15 = .ok (.if_icmp .le 21, 3) := by decide +kernel
theorem dX7_wordHere_18 : decode cX7_wordHere 18 = .ok (.aload_n 0, 1) := by decide +kernel
theorem dX7_wordHere_19 : decode cX7_wordHere 19 = .ok (.getfield 82, 3) := by decide +kernel
theorem dX7_wordHere_22 : decode cX7_wordHere 22 = .ok (.aload_n 0, 1) := by decide +kernel
theorem dX7_wordHere_23 : decode cX7_wordHere 23 = .ok (.getfield 85, 3) := by decide +kernel
theorem dX7_wordHere_26 : decode cX7_wordHere 26 = .ok (.isub, 1) := by decide +kernel
theorem dX7_wordHere_27 : decode cX7_wordHere 27 = .ok (.bipush 6, 2) := by decide +kernel
theorem dX7_wordHere_29 : decode cX7_wordHere 29 = .ok (.if_icmp .ge 7, 3) := by decide +kernel
theorem dX7_wordHere_32 : decode cX7_wordHere 32 = .ok (.iconst 1, 1) := by decide +kernel
theorem dX7_wordHere_33 : decode cX7_wordHere 33 = .ok (.goto 4, 3) := by decide +kernel
theorem dX7_wordHere_36 : decode cX7_wordHere 36 = .ok (.iconst 0, 1) := by decide +kernel
theorem dX7_wordHere_37 : decode cX7_wordHere 37 = .ok (.istore_n 2, 1) := by decide +kernel
theorem dX7_wordHere_38 : decode cX7_wordHere 38 = .ok (.iconst 0, 1) := by decide +kernel
theorem dX7_wordHere_39 : decode cX7_wordHere 39 = .ok (.istore_n 3, 1) := by decide +kernel
theorem dX7_wordHere_40 : decode cX7_wordHere 40 = .ok (.iload_n 3, 1) := by decide +kernel
theorem dX7_wordHere_41 : decode cX7_wordHere 41 = .ok (.iconst 5, 1) := by decide +kernel
theorem dX7_wordHere_42 : decode cX7_wordHere 42 = .ok (.if_icmp .ge 60, 3) := by decide +kernel
theorem dX7_wordHere_45 : decode cX7_wordHere 45 = .ok (.iload_n 2, 1) := by decide +kernel
theorem dX7_wordHere_46 : decode cX7_wordHere 46 = .ok (.ifCond .eq 56, 3) := by decide +kernel
theorem dX7_wordHere_49 : decode cX7_wordHere 49 = .ok (.aload_n 0, 1) := by decide +kernel
theorem dX7_wordHere_50 : decode cX7_wordHere 50 = .ok (.getfield 56, 3) := by decide +kernel
theorem dX7_wordHere_53 : decode cX7_wordHere 53 = .ok (.iconst 5, 1) := by decide +kernel
theorem dX7_wordHere_54 : decode cX7_wordHere 54 = .ok (.iload_n 1, 1) := by decide +kernel
theorem dX7_wordHere_55 : decode cX7_wordHere 55 = .ok (.imul, 1) := by decide +kernel
theorem dX7_wordHere_56 : decode cX7_wordHere 56 = .ok (.iload_n 3, 1) := by decide +kernel
theorem dX7_wordHere_57 : decode cX7_wordHere 57 = .ok (.iadd, 1) := by decide +kernel
theorem dX7_wordHere_58 : decode cX7_wordHere 58 = .ok (.iaload, 1) := by decide +kernel
theorem dX7_wordHere_59 : decode cX7_wordHere 59 = .ok (.aload_n 0, 1) := by decide +kernel
theorem dX7_wordHere_60 : decode cX7_wordHere 60 = .ok (.getfield 85, 3) := by decide +kernel
theorem dX7_wordHere_63 : decode cX7_wordHere 63 = .ok (.iload_n 3, 1) := by decide +kernel
theorem dX7_wordHere_64 : decode cX7_wordHere 64 = .ok (.iadd, 1) := by decide +kernel
theorem dX7_wordHere_65 : decode cX7_wordHere 65 = .ok (.aload_n 0, 1) := by decide +kernel
theorem dX7_wordHere_66 : decode cX7_wordHere 66 = .ok (.getfield 82, 3) := by decide +kernel
theorem dX7_wordHere_69 : decode cX7_wordHere 69 = .ok (.if_icmp .ge 17, 3) := by decide +kernel
theorem dX7_wordHere_72 : decode cX7_wordHere 72 = .ok (.aload_n 0, 1) := by decide +kernel
theorem dX7_wordHere_73 : decode cX7_wordHere 73 = .ok (.getfield 32, 3) := by decide +kernel
theorem dX7_wordHere_76 : decode cX7_wordHere 76 = .ok (.aload_n 0, 1) := by decide +kernel
theorem dX7_wordHere_77 : decode cX7_wordHere 77 = .ok (.getfield 85, 3) := by decide +kernel
theorem dX7_wordHere_80 : decode cX7_wordHere 80 = .ok (.iload_n 3, 1) := by decide +kernel
theorem dX7_wordHere_81 : decode cX7_wordHere 81 = .ok (.iadd, 1) := by decide +kernel
theorem dX7_wordHere_82 : decode cX7_wordHere 82 = .ok (.iaload, 1) := by decide +kernel
theorem dX7_wordHere_83 : decode cX7_wordHere 83 = .ok (.goto 4, 3) := by decide +kernel
theorem dX7_wordHere_86 : decode cX7_wordHere 86 = .ok (.iconst 0, 1) := by decide +kernel
theorem dX7_wordHere_87 : decode cX7_wordHere 87 = .ok (.if_icmp .ne 7, 3) := by decide +kernel
theorem dX7_wordHere_90 : decode cX7_wordHere 90 = .ok (.iconst 1, 1) := by decide +kernel
theorem dX7_wordHere_91 : decode cX7_wordHere 91 = .ok (.goto 4, 3) := by decide +kernel
theorem dX7_wordHere_94 : decode cX7_wordHere 94 = .ok (.iconst 0, 1) := by decide +kernel
theorem dX7_wordHere_95 : decode cX7_wordHere 95 = .ok (.istore_n 2, 1) := by decide +kernel
theorem dX7_wordHere_96 : decode cX7_wordHere 96 = .ok (.iinc 3 1, 3) := by decide +kernel
theorem dX7_wordHere_99 : decode cX7_wordHere 99 = .ok (.goto (-59), 3) := by decide +kernel
theorem dX7_wordHere_102 : decode cX7_wordHere 102 = .ok (.iload_n 2, 1) := by decide +kernel
theorem dX7_wordHere_103 : decode cX7_wordHere 103 = .ok (.ifCond .eq 5, 3) := by decide +kernel
theorem dX7_wordHere_106 : decode cX7_wordHere 106 = .ok (.iload_n 1, 1) := by decide +kernel
theorem dX7_wordHere_107 : decode cX7_wordHere 107 = .ok (.ireturn, 1) := by decide +kernel
theorem dX7_wordHere_108 : decode cX7_wordHere 108 = .ok (.iinc 1 1, 3) := by decide +kernel
theorem dX7_wordHere_111 : decode cX7_wordHere 111 = .ok (.goto (-109), 3) := by decide +kernel
theorem dX7_wordHere_114 : decode cX7_wordHere 114 = .ok (.iconst (-1), 1) := by decide +kernel
theorem dX7_wordHere_115 : decode cX7_wordHere 115 = .ok (.ireturn, 1) := by decide +kernel
theorem dX7_number_0 : decode cX7_number 0 = .ok (.aload_n 0, 1) := by decide +kernel
theorem dX7_number_1 : decode cX7_number 1 = .ok (.getfield 85, 3) := by decide +kernel
theorem dX7_number_4 : decode cX7_number 4 = .ok (.aload_n 0, 1) := by decide +kernel
theorem dX7_number_5 : decode cX7_number 5 = .ok (.getfield 69, 3) := by decide +kernel
theorem dX7_number_8 : decode cX7_number 8 = .ok (.if_icmp .eq 31, 3) := by decide +kernel
theorem dX7_number_11 : decode cX7_number 11 = .ok (.aload_n 0, 1) := by decide +kernel
theorem dX7_number_12 : decode cX7_number 12 = .ok (.getfield 32, 3) := by decide +kernel
theorem dX7_number_15 : decode cX7_number 15 = .ok (.aload_n 0, 1) := by decide +kernel
theorem dX7_number_16 : decode cX7_number 16 = .ok (.getfield 85, 3) := by decide +kernel
theorem dX7_number_19 : decode cX7_number 19 = .ok (.iaload, 1) := by decide +kernel
theorem dX7_number_20 : decode cX7_number 20 = .ok (.invokestatic 92, 3) := by decide +kernel
theorem dX7_number_23 : decode cX7_number 23 = .ok (.ifCond .eq 16, 3) := by decide +kernel
theorem dX7_number_26 : decode cX7_number 26 = .ok (.aload_n 0, 1) := by decide +kernel
theorem dX7_number_27 : decode cX7_number 27 = .ok (.getfield 82, 3) := by decide +kernel
theorem dX7_number_30 : decode cX7_number 30 = .ok (.aload_n 0, 1) := by decide +kernel
theorem dX7_number_31 : decode cX7_number 31 = .ok (.getfield 85, 3) := by decide +kernel
theorem dX7_number_34 : decode cX7_number 34 = .ok (.isub, 1) := by decide +kernel
theorem dX7_number_35 : decode cX7_number 35 = .ok (.iconst 4, 1) := by decide +kernel
theorem dX7_number_36 : decode cX7_number 36 = .ok (.if_icmp .le 5, 3) := by decide +kernel
theorem dX7_number_39 : decode cX7_number 39 = .ok (.iconst 0, 1) := by decide +kernel
theorem dX7_number_40 : decode cX7_number 40 = .ok (.ireturn, 1) := by decide +kernel
theorem dX7_number_41 : decode cX7_number 41 = .ok (.iconst 0, 1) := by decide +kernel
theorem dX7_number_42 : decode cX7_number 42 = .ok (.istore 4, 2) := by decide +kernel
theorem dX7_number_44 : decode cX7_number 44 = .ok (.aload_n 0, 1) := by decide +kernel
theorem dX7_number_45 : decode cX7_number 45 = .ok (.getfield 85, 3) := by decide +kernel
theorem dX7_number_48 : decode cX7_number 48 = .ok (.istore 5, 2) := by decide +kernel
theorem dX7_number_50 : decode cX7_number 50 = .ok (.iload 5, 2) := by decide +kernel
theorem dX7_number_52 : decode cX7_number 52 = .ok (.aload_n 0, 1) := by decide +kernel
theorem dX7_number_53 : decode cX7_number 53 = .ok (.getfield 82, 3) := by decide +kernel
theorem dX7_number_56 : decode cX7_number 56 = .ok (.if_icmp .ge 27, 3) := by decide +kernel
theorem dX7_number_59 : decode cX7_number 59 = .ok (.bipush 10, 2) := by decide +kernel
theorem dX7_number_61 : decode cX7_number 61 = .ok (.iload 4, 2) := by decide +kernel
theorem dX7_number_63 : decode cX7_number 63 = .ok (.imul, 1) := by decide +kernel
theorem dX7_number_64 : decode cX7_number 64 = .ok (.aload_n 0, 1) := by decide +kernel
theorem dX7_number_65 : decode cX7_number 65 = .ok (.getfield 32, 3) := by decide +kernel
theorem dX7_number_68 : decode cX7_number 68 = .ok (.iload 5, 2) := by decide +kernel
theorem dX7_number_70 : decode cX7_number 70 = .ok (.iaload, 1) := by decide +kernel
theorem dX7_number_71 : decode cX7_number 71 = .ok (.iadd, 1) := by decide +kernel
theorem dX7_number_72 : decode cX7_number 72 = .ok (.bipush 48, 2) := by decide +kernel
theorem dX7_number_74 : decode cX7_number 74 = .ok (.isub, 1) := by decide +kernel
theorem dX7_number_75 : decode cX7_number 75 = .ok (.istore 4, 2) := by decide +kernel
theorem dX7_number_77 : decode cX7_number 77 = .ok (.iinc 5 1, 3) := by decide +kernel
theorem dX7_number_80 : decode cX7_number 80 = .ok (.goto (-30), 3) := by decide +kernel
theorem dX7_number_83 : decode cX7_number 83 = .ok (.iload 4, 2) := by decide +kernel
theorem dX7_number_85 : decode cX7_number 85 = .ok (.i2l, 1) := by decide +kernel
theorem dX7_number_86 : decode cX7_number 86 = .ok (.iload_n 2, 1) := by decide +kernel
theorem dX7_number_87 : decode cX7_number 87 = .ok (.i2l, 1) := by decide +kernel
theorem dX7_number_88 : decode cX7_number 88 = .ok (.iload_n 3, 1) := by decide +kernel
theorem dX7_number_89 : decode cX7_number 89 = .ok (.i2l, 1) := by decide +kernel
theorem dX7_number_90 : decode cX7_number 90 = .ok (.invokestatic 64, 3) := by decide +kernel
theorem dX7_number_93 : decode cX7_number 93 = .ok (.istore 5, 2) := by decide +kernel
theorem dX7_number_95 : decode cX7_number 95 = .ok (.iload 5, 2) := by decide +kernel
theorem dX7_number_97 : decode cX7_number 97 = .ok (.ifCond .eq 15, 3) := by decide +kernel
theorem dX7_number_100 : decode cX7_number 100 = .ok (.aload_n 0, 1) := by decide +kernel
theorem dX7_number_101 : decode cX7_number 101 = .ok (.getfield 53, 3) := by decide +kernel
theorem dX7_number_104 : decode cX7_number 104 = .ok (.iload_n 1, 1) := by decide +kernel
theorem dX7_number_105 : decode cX7_number 105 = .ok (.iload 4, 2) := by decide +kernel
theorem dX7_number_107 : decode cX7_number 107 = .ok (.iastore, 1) := by decide +kernel
theorem dX7_number_108 : decode cX7_number 108 = .ok (.aload_n 0, 1) := by decide +kernel
theorem dX7_number_109 : decode cX7_number 109 = .ok (.invokevirtual 95, 3) := by decide +kernel
theorem dX7_number_112 : decode cX7_number 112 = .ok (.iload 5, 2) := by decide +kernel
theorem dX7_number_114 : decode cX7_number 114 = .ok (.ireturn, 1) := by decide +kernel
theorem dX7_stuffHere_0 : decode cX7_stuffHere 0 = .ok (.iconst 0, 1) := by decide +kernel
theorem dX7_stuffHere_1 : decode cX7_stuffHere 1 = .ok (.istore_n 1, 1) := by decide +kernel
theorem dX7_stuffHere_2 : decode cX7_stuffHere 2 = .ok (.iload_n 1, 1) := by decide +kernel
theorem dX7_stuffHere_3 : decode cX7_stuffHere 3 = .ok (.aload_n 0, 1) := by decide +kernel
theorem dX7_stuffHere_4 : decode cX7_stuffHere 4 = .ok (.getfield 98, 3) := by decide +kernel
theorem dX7_stuffHere_7 : decode cX7_stuffHere 7 = .ok (.if_icmp .ge 92, 3) := by decide +kernel
theorem dX7_stuffHere_10 : decode cX7_stuffHere 10 = .ok (.aload_n 0, 1) := by decide +kernel
theorem dX7_stuffHere_11 : decode cX7_stuffHere 11 = .ok (.getfield 50, 3) := by decide +kernel
theorem dX7_stuffHere_14 : decode cX7_stuffHere 14 = .ok (.iload_n 1, 1) := by decide +kernel
theorem dX7_stuffHere_15 : decode cX7_stuffHere 15 = .ok (.iaload, 1) := by decide +kernel
theorem dX7_stuffHere_16 : decode cX7_stuffHere 16 = .ok (.aload_n 0, 1) := by decide +kernel
theorem dX7_stuffHere_17 : decode cX7_stuffHere 17 = .ok (.getfield 82, 3) := by decide +kernel
theorem dX7_stuffHere_20 : decode cX7_stuffHere 20 = .ok (.aload_n 0, 1) := by decide +kernel
theorem dX7_stuffHere_21 : decode cX7_stuffHere 21 = .ok (.getfield 85, 3) := by decide +kernel
theorem dX7_stuffHere_24 : decode cX7_stuffHere 24 = .ok (.isub, 1) := by decide +kernel
theorem dX7_stuffHere_25 : decode cX7_stuffHere 25 = .ok (.if_icmp .ne 7, 3) := by decide +kernel
theorem dX7_stuffHere_28 : decode cX7_stuffHere 28 = .ok (.iconst 1, 1) := by decide +kernel
theorem dX7_stuffHere_29 : decode cX7_stuffHere 29 = .ok (.goto 4, 3) := by decide +kernel
theorem dX7_stuffHere_32 : decode cX7_stuffHere 32 = .ok (.iconst 0, 1) := by decide +kernel
theorem dX7_stuffHere_33 : decode cX7_stuffHere 33 = .ok (.istore_n 2, 1) := by decide +kernel
theorem dX7_stuffHere_34 : decode cX7_stuffHere 34 = .ok (.iconst 0, 1) := by decide +kernel
theorem dX7_stuffHere_35 : decode cX7_stuffHere 35 = .ok (.istore_n 3, 1) := by decide +kernel
theorem dX7_stuffHere_36 : decode cX7_stuffHere 36 = .ok (.iload_n 3, 1) := by decide +kernel
theorem dX7_stuffHere_37 : decode cX7_stuffHere 37 = .ok (.aload_n 0, 1) := by decide +kernel
theorem dX7_stuffHere_38 : decode cX7_stuffHere 38 = .ok (.getfield 50, 3) := by decide +kernel
theorem dX7_stuffHere_41 : decode cX7_stuffHere 41 = .ok (.iload_n 1, 1) := by decide +kernel
theorem dX7_stuffHere_42 : decode cX7_stuffHere 42 = .ok (.iaload, 1) := by decide +kernel
theorem dX7_stuffHere_43 : decode cX7_stuffHere 43 = .ok (.if_icmp .ge 44, 3) := by decide +kernel
theorem dX7_stuffHere_46 : decode cX7_stuffHere 46 = .ok (.iload_n 2, 1) := by decide +kernel
theorem dX7_stuffHere_47 : decode cX7_stuffHere 47 = .ok (.ifCond .eq 40, 3) := by decide +kernel
theorem dX7_stuffHere_50 : decode cX7_stuffHere 50 = .ok (.aload_n 0, 1) := by decide +kernel
theorem dX7_stuffHere_51 : decode cX7_stuffHere 51 = .ok (.getfield 47, 3) := by decide +kernel
theorem dX7_stuffHere_54 : decode cX7_stuffHere 54 = .ok (.bipush 7, 2) := by decide +kernel
theorem dX7_stuffHere_56 : decode cX7_stuffHere 56 = .ok (.iload_n 1, 1) := by decide +kernel
theorem dX7_stuffHere_57 : decode cX7_stuffHere 57 = .ok (.imul, 1) := by decide +kernel
theorem dX7_stuffHere_58 : decode cX7_stuffHere 58 = .ok (.iload_n 3, 1) := by decide +kernel
theorem dX7_stuffHere_59 : decode cX7_stuffHere 59 = .ok (.iadd, 1) := by decide +kernel
theorem dX7_stuffHere_60 : decode cX7_stuffHere 60 = .ok (.iaload, 1) := by decide +kernel
theorem dX7_stuffHere_61 : decode cX7_stuffHere 61 = .ok (.aload_n 0, 1) := by decide +kernel
theorem dX7_stuffHere_62 : decode cX7_stuffHere 62 = .ok (.getfield 32, 3) := by decide +kernel
theorem dX7_stuffHere_65 : decode cX7_stuffHere 65 = .ok (.aload_n 0, 1) := by decide +kernel
theorem dX7_stuffHere_66 : decode cX7_stuffHere 66 = .ok (.getfield 85, 3) := by decide +kernel
theorem dX7_stuffHere_69 : decode cX7_stuffHere 69 = .ok (.iload_n 3, 1) := by decide +kernel
theorem dX7_stuffHere_70 : decode cX7_stuffHere 70 = .ok (.iadd, 1) := by decide +kernel
theorem dX7_stuffHere_71 : decode cX7_stuffHere 71 = .ok (.iaload, 1) := by decide +kernel
theorem dX7_stuffHere_72 : decode cX7_stuffHere 72 = .ok (.if_icmp .ne 7, 3) := by decide +kernel
theorem dX7_stuffHere_75 : decode cX7_stuffHere 75 = .ok (.iconst 1, 1) := by decide +kernel
theorem dX7_stuffHere_76 : decode cX7_stuffHere 76 = .ok (.goto 4, 3) := by decide +kernel
theorem dX7_stuffHere_79 : decode cX7_stuffHere 79 = .ok (.iconst 0, 1) := by decide +kernel
theorem dX7_stuffHere_80 : decode cX7_stuffHere 80 = .ok (.istore_n 2, 1) := by decide +kernel
theorem dX7_stuffHere_81 : decode cX7_stuffHere 81 = .ok (.iinc 3 1, 3) := by decide +kernel
theorem dX7_stuffHere_84 : decode cX7_stuffHere 84 = .ok (.goto (-48), 3) := by decide +kernel
theorem dX7_stuffHere_87 : decode cX7_stuffHere 87 = .ok (.iload_n 2, 1) := by decide +kernel
theorem dX7_stuffHere_88 : decode cX7_stuffHere 88 = .ok (.ifCond .eq 5, 3) := by decide +kernel
theorem dX7_stuffHere_91 : decode cX7_stuffHere 91 = .ok (.iload_n 1, 1) := by decide +kernel
theorem dX7_stuffHere_92 : decode cX7_stuffHere 92 = .ok (.ireturn, 1) := by decide +kernel
theorem dX7_stuffHere_93 : decode cX7_stuffHere 93 = .ok (.iinc 1 1, 3) := by decide +kernel
theorem dX7_stuffHere_96 : decode cX7_stuffHere 96 = .ok (.goto (-94), 3) := by decide +kernel
theorem dX7_stuffHere_99 : decode cX7_stuffHere 99 = .ok (.iconst (-1), 1) := by decide +kernel
theorem dX7_stuffHere_100 : decode cX7_stuffHere 100 = .ok (.ireturn, 1) := by decide +kernel
theorem dX7_readsNewWord_0 : decode cX7_readsNewWord 0 = .ok (.aload_n 0, 1) := by decide +kernel
theorem dX7_readsNewWord_1 : decode cX7_readsNewWord 1 = .ok (.getfield 85, 3) := by decide +kernel
theorem dX7_readsNewWord_4 : decode cX7_readsNewWord 4 = .ok (.aload_n 0, 1) := by decide +kernel
theorem dX7_readsNewWord_5 : decode cX7_readsNewWord 5 = .ok (.getfield 69, 3) := by decide +kernel
theorem dX7_readsNewWord_8 : decode cX7_readsNewWord 8 = .ok (.if_icmp .eq 40, 3) := by decide +kernel
theorem dX7_readsNewWord_11 : decode cX7_readsNewWord 11 = .ok (.aload_n 0, 1) := by decide +kernel
theorem dX7_readsNewWord_12 : decode cX7_readsNewWord 12 = .ok (.getfield 32, 3) := by decide +kernel
theorem dX7_readsNewWord_15 : decode cX7_readsNewWord 15 = .ok (.aload_n 0, 1) := by decide +kernel
theorem dX7_readsNewWord_16 : decode cX7_readsNewWord 16 = .ok (.getfield 85, 3) := by decide +kernel
theorem dX7_readsNewWord_19 : decode cX7_readsNewWord 19 = .ok (.iaload, 1) := by decide +kernel
theorem dX7_readsNewWord_20 : decode cX7_readsNewWord 20 = .ok (.invokestatic 88, 3) := by decide +kernel
theorem dX7_readsNewWord_23 : decode cX7_readsNewWord 23 = .ok (.ifCond .eq 25, 3) := by decide +kernel
theorem dX7_readsNewWord_26 : decode cX7_readsNewWord 26 = .ok (.aload_n 0, 1) := by decide +kernel
theorem dX7_readsNewWord_27 : decode cX7_readsNewWord 27 = .ok (.getfield 82, 3) := by decide +kernel
theorem dX7_readsNewWord_30 : decode cX7_readsNewWord 30 = .ok (.aload_n 0, 1) := by decide +kernel
theorem dX7_readsNewWord_31 : decode cX7_readsNewWord 31 = .ok (.getfield 85, 3) := by decide +kernel
theorem dX7_readsNewWord_34 : decode cX7_readsNewWord 34 = .ok (.isub, 1) := by decide +kernel
theorem dX7_readsNewWord_35 : decode cX7_readsNewWord 35 = .ok (.bipush 7, 2) := by decide +kernel
theorem dX7_readsNewWord_37 : decode cX7_readsNewWord 37 = .ok (.if_icmp .gt 11, 3) := by decide +kernel
theorem dX7_readsNewWord_40 : decode cX7_readsNewWord 40 = .ok (.aload_n 0, 1) := by decide +kernel
theorem dX7_readsNewWord_41 : decode cX7_readsNewWord 41 = .ok (.invokevirtual 101, 3) := by decide +kernel
theorem dX7_readsNewWord_44 : decode cX7_readsNewWord 44 = .ok (.iconst (-1), 1) := by decide +kernel
theorem dX7_readsNewWord_45 : decode cX7_readsNewWord 45 = .ok (.if_icmp .eq 5, 3) := by decide +kernel
theorem dX7_readsNewWord_48 : decode cX7_readsNewWord 48 = .ok (.iconst 0, 1) := by decide +kernel
theorem dX7_readsNewWord_49 : decode cX7_readsNewWord 49 = .ok (.ireturn, 1) := by decide +kernel
theorem dX7_readsNewWord_50 : decode cX7_readsNewWord 50 = .ok (.aload_n 0, 1) := by decide +kernel
theorem dX7_readsNewWord_51 : decode cX7_readsNewWord 51 = .ok (.getfield 50, 3) := by decide +kernel
theorem dX7_readsNewWord_54 : decode cX7_readsNewWord 54 = .ok (.aload_n 0, 1) := by decide +kernel
theorem dX7_readsNewWord_55 : decode cX7_readsNewWord 55 = .ok (.getfield 98, 3) := by decide +kernel
theorem dX7_readsNewWord_58 : decode cX7_readsNewWord 58 = .ok (.aload_n 0, 1) := by decide +kernel
theorem dX7_readsNewWord_59 : decode cX7_readsNewWord 59 = .ok (.getfield 82, 3) := by decide +kernel
theorem dX7_readsNewWord_62 : decode cX7_readsNewWord 62 = .ok (.aload_n 0, 1) := by decide +kernel
theorem dX7_readsNewWord_63 : decode cX7_readsNewWord 63 = .ok (.getfield 85, 3) := by decide +kernel
theorem dX7_readsNewWord_66 : decode cX7_readsNewWord 66 = .ok (.isub, 1) := by decide +kernel
theorem dX7_readsNewWord_67 : decode cX7_readsNewWord 67 = .ok (.iastore, 1) := by decide +kernel
theorem dX7_readsNewWord_68 : decode cX7_readsNewWord 68 = .ok (.aload_n 0, 1) := by decide +kernel
theorem dX7_readsNewWord_69 : decode cX7_readsNewWord 69 = .ok (.getfield 85, 3) := by decide +kernel
theorem dX7_readsNewWord_72 : decode cX7_readsNewWord 72 = .ok (.istore_n 1, 1) := by decide +kernel
theorem dX7_readsNewWord_73 : decode cX7_readsNewWord 73 = .ok (.iload_n 1, 1) := by decide +kernel
theorem dX7_readsNewWord_74 : decode cX7_readsNewWord 74 = .ok (.aload_n 0, 1) := by decide +kernel
theorem dX7_readsNewWord_75 : decode cX7_readsNewWord 75 = .ok (.getfield 82, 3) := by decide +kernel
theorem dX7_readsNewWord_78 : decode cX7_readsNewWord 78 = .ok (.if_icmp .ge 34, 3) := by decide +kernel
theorem dX7_readsNewWord_81 : decode cX7_readsNewWord 81 = .ok (.aload_n 0, 1) := by decide +kernel
theorem dX7_readsNewWord_82 : decode cX7_readsNewWord 82 = .ok (.getfield 47, 3) := by decide +kernel
theorem dX7_readsNewWord_85 : decode cX7_readsNewWord 85 = .ok (.bipush 7, 2) := by decide +kernel
theorem dX7_readsNewWord_87 : decode cX7_readsNewWord 87 = .ok (.aload_n 0, 1) := by decide +kernel
theorem dX7_readsNewWord_88 : decode cX7_readsNewWord 88 = .ok (.getfield 98, 3) := by decide +kernel
theorem dX7_readsNewWord_91 : decode cX7_readsNewWord 91 = .ok (.imul, 1) := by decide +kernel
theorem dX7_readsNewWord_92 : decode cX7_readsNewWord 92 = .ok (.iload_n 1, 1) := by decide +kernel
theorem dX7_readsNewWord_93 : decode cX7_readsNewWord 93 = .ok (.iadd, 1) := by decide +kernel
theorem dX7_readsNewWord_94 : decode cX7_readsNewWord 94 = .ok (.aload_n 0, 1) := by decide +kernel
theorem dX7_readsNewWord_95 : decode cX7_readsNewWord 95 = .ok (.getfield 85, 3) := by decide +kernel
theorem dX7_readsNewWord_98 : decode cX7_readsNewWord 98 = .ok (.isub, 1) := by decide +kernel
theorem dX7_readsNewWord_99 : decode cX7_readsNewWord 99 = .ok (.aload_n 0, 1) := by decide +kernel
theorem dX7_readsNewWord_100 : decode cX7_readsNewWord 100 = .ok (.getfield 32, 3) := by decide +kernel
theorem dX7_readsNewWord_103 : decode cX7_readsNewWord 103 = .ok (.iload_n 1, 1) := by decide +kernel
theorem dX7_readsNewWord_104 : decode cX7_readsNewWord 104 = .ok (.iaload, 1) := by decide +kernel
theorem dX7_readsNewWord_105 : decode cX7_readsNewWord 105 = .ok (.iastore, 1) := by decide +kernel
theorem dX7_readsNewWord_106 : decode cX7_readsNewWord 106 = .ok (.iinc 1 1, 3) := by decide +kernel
theorem dX7_readsNewWord_109 : decode cX7_readsNewWord 109 = .ok (.goto (-36), 3) := by decide +kernel
theorem dX7_readsNewWord_112 : decode cX7_readsNewWord 112 = .ok (.aload_n 0, 1) := by decide +kernel
theorem dX7_readsNewWord_113 : decode cX7_readsNewWord 113 = .ok (.invokevirtual 95, 3) := by decide +kernel
theorem dX7_readsNewWord_116 : decode cX7_readsNewWord 116 = .ok (.iconst 1, 1) := by decide +kernel
theorem dX7_readsNewWord_117 : decode cX7_readsNewWord 117 = .ok (.ireturn, 1) := by decide +kernel
theorem dX7_readsTold_0 : decode cX7_readsTold 0 = .ok (.aload_n 0, 1) := by decide +kernel
theorem dX7_readsTold_1 : decode cX7_readsTold 1 = .ok (.getfield 85, 3) := by decide +kernel
theorem dX7_readsTold_4 : decode cX7_readsTold 4 = .ok (.aload_n 0, 1) := by decide +kernel
theorem dX7_readsTold_5 : decode cX7_readsTold 5 = .ok (.getfield 69, 3) := by decide +kernel
theorem dX7_readsTold_8 : decode cX7_readsTold 8 = .ok (.if_icmp .ne 7, 3) := by decide +kernel
theorem dX7_readsTold_11 : decode cX7_readsTold 11 = .ok (.iconst (-1), 1) := by decide +kernel
theorem dX7_readsTold_12 : decode cX7_readsTold 12 = .ok (.goto 7, 3) := by decide +kernel
theorem dX7_readsTold_15 : decode cX7_readsTold 15 = .ok (.aload_n 0, 1) := by decide +kernel
theorem dX7_readsTold_16 : decode cX7_readsTold 16 = .ok (.invokevirtual 101, 3) := by decide +kernel
theorem dX7_readsTold_19 : decode cX7_readsTold 19 = .ok (.istore_n 1, 1) := by decide +kernel
theorem dX7_readsTold_20 : decode cX7_readsTold 20 = .ok (.iload_n 1, 1) := by decide +kernel
theorem dX7_readsTold_21 : decode cX7_readsTold 21 = .ok (.iconst (-1), 1) := by decide +kernel
theorem dX7_readsTold_22 : decode cX7_readsTold 22 = .ok (.if_icmp .eq 14, 3) := by decide +kernel
theorem dX7_readsTold_25 : decode cX7_readsTold 25 = .ok (.aload_n 0, 1) := by decide +kernel
theorem dX7_readsTold_26 : decode cX7_readsTold 26 = .ok (.getfield 53, 3) := by decide +kernel
theorem dX7_readsTold_29 : decode cX7_readsTold 29 = .ok (.iconst 0, 1) := by decide +kernel
theorem dX7_readsTold_30 : decode cX7_readsTold 30 = .ok (.iload_n 1, 1) := by decide +kernel
theorem dX7_readsTold_31 : decode cX7_readsTold 31 = .ok (.iastore, 1) := by decide +kernel
theorem dX7_readsTold_32 : decode cX7_readsTold 32 = .ok (.aload_n 0, 1) := by decide +kernel
theorem dX7_readsTold_33 : decode cX7_readsTold 33 = .ok (.invokevirtual 95, 3) := by decide +kernel
theorem dX7_readsTold_36 : decode cX7_readsTold 36 = .ok (.iload_n 1, 1) := by decide +kernel
theorem dX7_readsTold_37 : decode cX7_readsTold 37 = .ok (.iconst (-1), 1) := by decide +kernel
theorem dX7_readsTold_38 : decode cX7_readsTold 38 = .ok (.if_icmp .eq 7, 3) := by decide +kernel
theorem dX7_readsTold_41 : decode cX7_readsTold 41 = .ok (.iconst 1, 1) := by decide +kernel
theorem dX7_readsTold_42 : decode cX7_readsTold 42 = .ok (.goto 4, 3) := by decide +kernel
theorem dX7_readsTold_45 : decode cX7_readsTold 45 = .ok (.iconst 0, 1) := by decide +kernel
theorem dX7_readsTold_46 : decode cX7_readsTold 46 = .ok (.ireturn, 1) := by decide +kernel
theorem dX7_lesser_0 : decode cX7_lesser 0 = .ok (.iload_n 0, 1) := by decide +kernel
theorem dX7_lesser_1 : decode cX7_lesser 1 = .ok (.iload_n 1, 1) := by decide +kernel
theorem dX7_lesser_2 : decode cX7_lesser 2 = .ok (.if_icmp .ge 7, 3) := by decide +kernel
theorem dX7_lesser_5 : decode cX7_lesser 5 = .ok (.iload_n 0, 1) := by decide +kernel
theorem dX7_lesser_6 : decode cX7_lesser 6 = .ok (.goto 4, 3) := by decide +kernel
theorem dX7_lesser_9 : decode cX7_lesser 9 = .ok (.iload_n 1, 1) := by decide +kernel
theorem dX7_lesser_10 : decode cX7_lesser 10 = .ok (.ireturn, 1) := by decide +kernel
theorem dX7_readsRest_0 : decode cX7_readsRest 0 = .ok (.iload_n 1, 1) := by decide +kernel
theorem dX7_readsRest_1 : decode cX7_readsRest 1 = .ok (.tableswitch 140 0 3 #[31, 41, 76, 110], 31) := by decide +kernel
theorem dX7_readsRest_32 : decode cX7_readsRest 32 = .ok (.aload_n 0, 1) := by decide +kernel
theorem dX7_readsRest_33 : decode cX7_readsRest 33 = .ok (.iconst 0, 1) := by decide +kernel
theorem dX7_readsRest_34 : decode cX7_readsRest 34 = .ok (.iconst 1, 1) := by decide +kernel
theorem dX7_readsRest_35 : decode cX7_readsRest 35 = .ok (.sipush 999, 3) := by decide +kernel
theorem dX7_readsRest_38 : decode cX7_readsRest 38 = .ok (.invokevirtual 105, 3) := by decide +kernel
theorem dX7_readsRest_41 : decode cX7_readsRest 41 = .ok (.ireturn, 1) := by decide +kernel
theorem dX7_readsRest_42 : decode cX7_readsRest 42 = .ok (.aload_n 0, 1) := by decide +kernel
theorem dX7_readsRest_43 : decode cX7_readsRest 43 = .ok (.invokevirtual 109, 3) := by decide +kernel
theorem dX7_readsRest_46 : decode cX7_readsRest 46 = .ok (.ifCond .eq 29, 3) := by decide +kernel
theorem dX7_readsRest_49 : decode cX7_readsRest 49 = .ok (.aload_n 0, 1) := by decide +kernel
theorem dX7_readsRest_50 : decode cX7_readsRest 50 = .ok (.iconst 0, 1) := by decide +kernel
theorem dX7_readsRest_51 : decode cX7_readsRest 51 = .ok (.iconst 1, 1) := by decide +kernel
theorem dX7_readsRest_52 : decode cX7_readsRest 52 = .ok (.bipush 20, 2) := by decide +kernel
theorem dX7_readsRest_54 : decode cX7_readsRest 54 = .ok (.invokevirtual 105, 3) := by decide +kernel
theorem dX7_readsRest_57 : decode cX7_readsRest 57 = .ok (.ifCond .eq 18, 3) := by decide +kernel
theorem dX7_readsRest_60 : decode cX7_readsRest 60 = .ok (.aload_n 0, 1) := by decide +kernel
theorem dX7_readsRest_61 : decode cX7_readsRest 61 = .ok (.iconst 1, 1) := by decide +kernel
theorem dX7_readsRest_62 : decode cX7_readsRest 62 = .ok (.iconst 1, 1) := by decide +kernel
theorem dX7_readsRest_63 : decode cX7_readsRest 63 = .ok (.bipush 20, 2) := by decide +kernel
theorem dX7_readsRest_65 : decode cX7_readsRest 65 = .ok (.invokevirtual 105, 3) := by decide +kernel
theorem dX7_readsRest_68 : decode cX7_readsRest 68 = .ok (.ifCond .eq 7, 3) := by decide +kernel
theorem dX7_readsRest_71 : decode cX7_readsRest 71 = .ok (.iconst 1, 1) := by decide +kernel
theorem dX7_readsRest_72 : decode cX7_readsRest 72 = .ok (.goto 4, 3) := by decide +kernel
theorem dX7_readsRest_75 : decode cX7_readsRest 75 = .ok (.iconst 0, 1) := by decide +kernel
theorem dX7_readsRest_76 : decode cX7_readsRest 76 = .ok (.ireturn, 1) := by decide +kernel
theorem dX7_readsRest_77 : decode cX7_readsRest 77 = .ok (.aload_n 0, 1) := by decide +kernel
theorem dX7_readsRest_78 : decode cX7_readsRest 78 = .ok (.invokevirtual 113, 3) := by decide +kernel
theorem dX7_readsRest_81 : decode cX7_readsRest 81 = .ok (.ifCond .eq 28, 3) := by decide +kernel
theorem dX7_readsRest_84 : decode cX7_readsRest 84 = .ok (.aload_n 0, 1) := by decide +kernel
theorem dX7_readsRest_85 : decode cX7_readsRest 85 = .ok (.iconst 1, 1) := by decide +kernel
theorem dX7_readsRest_86 : decode cX7_readsRest 86 = .ok (.iconst 1, 1) := by decide +kernel
theorem dX7_readsRest_87 : decode cX7_readsRest 87 = .ok (.bipush 9, 2) := by decide +kernel
theorem dX7_readsRest_89 : decode cX7_readsRest 89 = .ok (.bipush 10, 2) := by decide +kernel
theorem dX7_readsRest_91 : decode cX7_readsRest 91 = .ok (.aload_n 0, 1) := by decide +kernel
theorem dX7_readsRest_92 : decode cX7_readsRest 92 = .ok (.getfield 116, 3) := by decide +kernel
theorem dX7_readsRest_95 : decode cX7_readsRest 95 = .ok (.isub, 1) := by decide +kernel
theorem dX7_readsRest_96 : decode cX7_readsRest 96 = .ok (.invokestatic 119, 3) := by decide +kernel
theorem dX7_readsRest_99 : decode cX7_readsRest 99 = .ok (.invokevirtual 105, 3) := by decide +kernel
theorem dX7_readsRest_102 : decode cX7_readsRest 102 = .ok (.ifCond .eq 7, 3) := by decide +kernel
theorem dX7_readsRest_105 : decode cX7_readsRest 105 = .ok (.iconst 1, 1) := by decide +kernel
theorem dX7_readsRest_106 : decode cX7_readsRest 106 = .ok (.goto 4, 3) := by decide +kernel
theorem dX7_readsRest_109 : decode cX7_readsRest 109 = .ok (.iconst 0, 1) := by decide +kernel
theorem dX7_readsRest_110 : decode cX7_readsRest 110 = .ok (.ireturn, 1) := by decide +kernel
theorem dX7_readsRest_111 : decode cX7_readsRest 111 = .ok (.aload_n 0, 1) := by decide +kernel
theorem dX7_readsRest_112 : decode cX7_readsRest 112 = .ok (.iconst 0, 1) := by decide +kernel
theorem dX7_readsRest_113 : decode cX7_readsRest 113 = .ok (.iconst 0, 1) := by decide +kernel
theorem dX7_readsRest_114 : decode cX7_readsRest 114 = .ok (.sipush 999, 3) := by decide +kernel
theorem dX7_readsRest_117 : decode cX7_readsRest 117 = .ok (.invokevirtual 105, 3) := by decide +kernel
theorem dX7_readsRest_120 : decode cX7_readsRest 120 = .ok (.ifCond .eq 19, 3) := by decide +kernel
theorem dX7_readsRest_123 : decode cX7_readsRest 123 = .ok (.aload_n 0, 1) := by decide +kernel
theorem dX7_readsRest_124 : decode cX7_readsRest 124 = .ok (.iconst 1, 1) := by decide +kernel
theorem dX7_readsRest_125 : decode cX7_readsRest 125 = .ok (.iconst 0, 1) := by decide +kernel
theorem dX7_readsRest_126 : decode cX7_readsRest 126 = .ok (.sipush 999, 3) := by decide +kernel
theorem dX7_readsRest_129 : decode cX7_readsRest 129 = .ok (.invokevirtual 105, 3) := by decide +kernel
theorem dX7_readsRest_132 : decode cX7_readsRest 132 = .ok (.ifCond .eq 7, 3) := by decide +kernel
theorem dX7_readsRest_135 : decode cX7_readsRest 135 = .ok (.iconst 1, 1) := by decide +kernel
theorem dX7_readsRest_136 : decode cX7_readsRest 136 = .ok (.goto 4, 3) := by decide +kernel
theorem dX7_readsRest_139 : decode cX7_readsRest 139 = .ok (.iconst 0, 1) := by decide +kernel
theorem dX7_readsRest_140 : decode cX7_readsRest 140 = .ok (.ireturn, 1) := by decide +kernel
theorem dX7_readsRest_141 : decode cX7_readsRest 141 = .ok (.aload_n 0, 1) := by decide +kernel
theorem dX7_readsRest_142 : decode cX7_readsRest 142 = .ok (.iconst 0, 1) := by decide +kernel
theorem dX7_readsRest_143 : decode cX7_readsRest 143 = .ok (.iconst 0, 1) := by decide +kernel
theorem dX7_readsRest_144 : decode cX7_readsRest 144 = .ok (.aload_n 0, 1) := by decide +kernel
theorem dX7_readsRest_145 : decode cX7_readsRest 145 = .ok (.getfield 116, 3) := by decide +kernel
theorem dX7_readsRest_148 : decode cX7_readsRest 148 = .ok (.iconst 1, 1) := by decide +kernel
theorem dX7_readsRest_149 : decode cX7_readsRest 149 = .ok (.isub, 1) := by decide +kernel
theorem dX7_readsRest_150 : decode cX7_readsRest 150 = .ok (.invokevirtual 105, 3) := by decide +kernel
theorem dX7_readsRest_153 : decode cX7_readsRest 153 = .ok (.ifCond .eq 19, 3) := by decide +kernel
theorem dX7_readsRest_156 : decode cX7_readsRest 156 = .ok (.aload_n 0, 1) := by decide +kernel
theorem dX7_readsRest_157 : decode cX7_readsRest 157 = .ok (.iconst 1, 1) := by decide +kernel
theorem dX7_readsRest_158 : decode cX7_readsRest 158 = .ok (.iconst 0, 1) := by decide +kernel
theorem dX7_readsRest_159 : decode cX7_readsRest 159 = .ok (.sipush 9999, 3) := by decide +kernel
theorem dX7_readsRest_162 : decode cX7_readsRest 162 = .ok (.invokevirtual 105, 3) := by decide +kernel
theorem dX7_readsRest_165 : decode cX7_readsRest 165 = .ok (.ifCond .eq 7, 3) := by decide +kernel
theorem dX7_readsRest_168 : decode cX7_readsRest 168 = .ok (.iconst 1, 1) := by decide +kernel
theorem dX7_readsRest_169 : decode cX7_readsRest 169 = .ok (.goto 4, 3) := by decide +kernel
theorem dX7_readsRest_172 : decode cX7_readsRest 172 = .ok (.iconst 0, 1) := by decide +kernel
theorem dX7_readsRest_173 : decode cX7_readsRest 173 = .ok (.ireturn, 1) := by decide +kernel
theorem dX7_does_0 : decode cX7_does 0 = .ok (.iload_n 1, 1) := by decide +kernel
theorem dX7_does_1 : decode cX7_does 1 = .ok (.tableswitch 261 0 3 #[31, 73, 174, 232], 31) := by decide +kernel
theorem dX7_does_32 : decode cX7_does 32 = .ok (.aload_n 0, 1) := by decide +kernel
theorem dX7_does_33 : decode cX7_does 33 = .ok (.iconst 0, 1) := by decide +kernel
theorem dX7_does_34 : decode cX7_does 34 = .ok (.putfield 123, 3) := by decide +kernel
theorem dX7_does_37 : decode cX7_does 37 = .ok (.aload_n 0, 1) := by decide +kernel
theorem dX7_does_38 : decode cX7_does 38 = .ok (.iconst 0, 1) := by decide +kernel
theorem dX7_does_39 : decode cX7_does 39 = .ok (.putfield 126, 3) := by decide +kernel
theorem dX7_does_42 : decode cX7_does 42 = .ok (.aload_n 0, 1) := by decide +kernel
theorem dX7_does_43 : decode cX7_does 43 = .ok (.getfield 7, 3) := by decide +kernel
theorem dX7_does_46 : decode cX7_does 46 = .ok (.bipush 10, 2) := by decide +kernel
theorem dX7_does_48 : decode cX7_does 48 = .ok (.iconst 0, 1) := by decide +kernel
theorem dX7_does_49 : decode cX7_does 49 = .ok (.iastore, 1) := by decide +kernel
theorem dX7_does_50 : decode cX7_does 50 = .ok (.aload_n 0, 1) := by decide +kernel
theorem dX7_does_51 : decode cX7_does 51 = .ok (.getfield 7, 3) := by decide +kernel
theorem dX7_does_54 : decode cX7_does 54 = .ok (.bipush 11, 2) := by decide +kernel
theorem dX7_does_56 : decode cX7_does 56 = .ok (.iconst 0, 1) := by decide +kernel
theorem dX7_does_57 : decode cX7_does 57 = .ok (.iastore, 1) := by decide +kernel
theorem dX7_does_58 : decode cX7_does 58 = .ok (.aload_n 0, 1) := by decide +kernel
theorem dX7_does_59 : decode cX7_does 59 = .ok (.getfield 7, 3) := by decide +kernel
theorem dX7_does_62 : decode cX7_does 62 = .ok (.bipush 12, 2) := by decide +kernel
theorem dX7_does_64 : decode cX7_does 64 = .ok (.aload_n 0, 1) := by decide +kernel
theorem dX7_does_65 : decode cX7_does 65 = .ok (.getfield 53, 3) := by decide +kernel
theorem dX7_does_68 : decode cX7_does 68 = .ok (.iconst 0, 1) := by decide +kernel
theorem dX7_does_69 : decode cX7_does 69 = .ok (.iaload, 1) := by decide +kernel
theorem dX7_does_70 : decode cX7_does 70 = .ok (.iastore, 1) := by decide +kernel
theorem dX7_does_71 : decode cX7_does 71 = .ok (.goto 210, 3) := by decide +kernel
theorem dX7_does_74 : decode cX7_does 74 = .ok (.aload_n 0, 1) := by decide +kernel
theorem dX7_does_75 : decode cX7_does 75 = .ok (.getfield 13, 3) := by decide +kernel
theorem dX7_does_78 : decode cX7_does 78 = .ok (.aload_n 0, 1) := by decide +kernel
theorem dX7_does_79 : decode cX7_does 79 = .ok (.getfield 123, 3) := by decide +kernel
theorem dX7_does_82 : decode cX7_does 82 = .ok (.aload_n 0, 1) := by decide +kernel
theorem dX7_does_83 : decode cX7_does 83 = .ok (.getfield 53, 3) := by decide +kernel
theorem dX7_does_86 : decode cX7_does 86 = .ok (.iconst 0, 1) := by decide +kernel
theorem dX7_does_87 : decode cX7_does 87 = .ok (.iaload, 1) := by decide +kernel
theorem dX7_does_88 : decode cX7_does 88 = .ok (.iastore, 1) := by decide +kernel
theorem dX7_does_89 : decode cX7_does 89 = .ok (.aload_n 0, 1) := by decide +kernel
theorem dX7_does_90 : decode cX7_does 90 = .ok (.getfield 16, 3) := by decide +kernel
theorem dX7_does_93 : decode cX7_does 93 = .ok (.aload_n 0, 1) := by decide +kernel
theorem dX7_does_94 : decode cX7_does 94 = .ok (.getfield 123, 3) := by decide +kernel
theorem dX7_does_97 : decode cX7_does 97 = .ok (.aload_n 0, 1) := by decide +kernel
theorem dX7_does_98 : decode cX7_does 98 = .ok (.getfield 53, 3) := by decide +kernel
theorem dX7_does_101 : decode cX7_does 101 = .ok (.iconst 1, 1) := by decide +kernel
theorem dX7_does_102 : decode cX7_does 102 = .ok (.iaload, 1) := by decide +kernel
theorem dX7_does_103 : decode cX7_does 103 = .ok (.iastore, 1) := by decide +kernel
theorem dX7_does_104 : decode cX7_does 104 = .ok (.aload_n 0, 1) := by decide +kernel
theorem dX7_does_105 : decode cX7_does 105 = .ok (.getfield 22, 3) := by decide +kernel
theorem dX7_does_108 : decode cX7_does 108 = .ok (.aload_n 0, 1) := by decide +kernel
theorem dX7_does_109 : decode cX7_does 109 = .ok (.getfield 123, 3) := by decide +kernel
theorem dX7_does_112 : decode cX7_does 112 = .ok (.aload_n 0, 1) := by decide +kernel
theorem dX7_does_113 : decode cX7_does 113 = .ok (.getfield 50, 3) := by decide +kernel
theorem dX7_does_116 : decode cX7_does 116 = .ok (.aload_n 0, 1) := by decide +kernel
theorem dX7_does_117 : decode cX7_does 117 = .ok (.getfield 123, 3) := by decide +kernel
theorem dX7_does_120 : decode cX7_does 120 = .ok (.iaload, 1) := by decide +kernel
theorem dX7_does_121 : decode cX7_does 121 = .ok (.iastore, 1) := by decide +kernel
theorem dX7_does_122 : decode cX7_does 122 = .ok (.bipush 7, 2) := by decide +kernel
theorem dX7_does_124 : decode cX7_does 124 = .ok (.aload_n 0, 1) := by decide +kernel
theorem dX7_does_125 : decode cX7_does 125 = .ok (.getfield 123, 3) := by decide +kernel
theorem dX7_does_128 : decode cX7_does 128 = .ok (.imul, 1) := by decide +kernel
theorem dX7_does_129 : decode cX7_does 129 = .ok (.istore_n 2, 1) := by decide +kernel
theorem dX7_does_130 : decode cX7_does 130 = .ok (.iload_n 2, 1) := by decide +kernel
theorem dX7_does_131 : decode cX7_does 131 = .ok (.bipush 7, 2) := by decide +kernel
theorem dX7_does_133 : decode cX7_does 133 = .ok (.aload_n 0, 1) := by decide +kernel
theorem dX7_does_134 : decode cX7_does 134 = .ok (.getfield 123, 3) := by decide +kernel
theorem dX7_does_137 : decode cX7_does 137 = .ok (.imul, 1) := by decide +kernel
theorem dX7_does_138 : decode cX7_does 138 = .ok (.bipush 7, 2) := by decide +kernel
theorem dX7_does_140 : decode cX7_does 140 = .ok (.iadd, 1) := by decide +kernel
theorem dX7_does_141 : decode cX7_does 141 = .ok (.if_icmp .ge 21, 3) := by decide +kernel
theorem dX7_does_144 : decode cX7_does 144 = .ok (.aload_n 0, 1) := by decide +kernel
theorem dX7_does_145 : decode cX7_does 145 = .ok (.getfield 19, 3) := by decide +kernel
theorem dX7_does_148 : decode cX7_does 148 = .ok (.iload_n 2, 1) := by decide +kernel
theorem dX7_does_149 : decode cX7_does 149 = .ok (.aload_n 0, 1) := by decide +kernel
theorem dX7_does_150 : decode cX7_does 150 = .ok (.getfield 47, 3) := by decide +kernel
theorem dX7_does_153 : decode cX7_does 153 = .ok (.iload_n 2, 1) := by decide +kernel
theorem dX7_does_154 : decode cX7_does 154 = .ok (.iaload, 1) := by decide +kernel
theorem dX7_does_155 : decode cX7_does 155 = .ok (.iastore, 1) := by decide +kernel
theorem dX7_does_156 : decode cX7_does 156 = .ok (.iinc 2 1, 3) := by decide +kernel
theorem dX7_does_159 : decode cX7_does 159 = .ok (.goto (-29), 3) := by decide +kernel
theorem dX7_does_162 : decode cX7_does 162 = .ok (.aload_n 0, 1) := by decide +kernel
theorem dX7_does_163 : decode cX7_does 163 = .ok (.dup, 1) := by decide +kernel
theorem dX7_does_164 : decode cX7_does 164 = .ok (.getfield 123, 3) := by decide +kernel
theorem dX7_does_167 : decode cX7_does 167 = .ok (.iconst 1, 1) := by decide +kernel
theorem dX7_does_168 : decode cX7_does 168 = .ok (.iadd, 1) := by decide +kernel
theorem dX7_does_169 : decode cX7_does 169 = .ok (.putfield 123, 3) := by decide +kernel
theorem dX7_does_172 : decode cX7_does 172 = .ok (.goto 109, 3) := by decide +kernel
theorem dX7_does_175 : decode cX7_does 175 = .ok (.iconst 0, 1) := by decide +kernel
theorem dX7_does_176 : decode cX7_does 176 = .ok (.istore_n 2, 1) := by decide +kernel
theorem dX7_does_177 : decode cX7_does 177 = .ok (.iload_n 2, 1) := by decide +kernel
theorem dX7_does_178 : decode cX7_does 178 = .ok (.aload_n 0, 1) := by decide +kernel
theorem dX7_does_179 : decode cX7_does 179 = .ok (.getfield 53, 3) := by decide +kernel
theorem dX7_does_182 : decode cX7_does 182 = .ok (.iconst 1, 1) := by decide +kernel
theorem dX7_does_183 : decode cX7_does 183 = .ok (.iaload, 1) := by decide +kernel
theorem dX7_does_184 : decode cX7_does 184 = .ok (.if_icmp .ge 46, 3) := by decide +kernel
theorem dX7_does_187 : decode cX7_does 187 = .ok (.aload_n 0, 1) := by decide +kernel
theorem dX7_does_188 : decode cX7_does 188 = .ok (.getfield 25, 3) := by decide +kernel
theorem dX7_does_191 : decode cX7_does 191 = .ok (.aload_n 0, 1) := by decide +kernel
theorem dX7_does_192 : decode cX7_does 192 = .ok (.getfield 126, 3) := by decide +kernel
theorem dX7_does_195 : decode cX7_does 195 = .ok (.aload_n 0, 1) := by decide +kernel
theorem dX7_does_196 : decode cX7_does 196 = .ok (.getfield 53, 3) := by decide +kernel
theorem dX7_does_199 : decode cX7_does 199 = .ok (.iconst 0, 1) := by decide +kernel
theorem dX7_does_200 : decode cX7_does 200 = .ok (.iaload, 1) := by decide +kernel
theorem dX7_does_201 : decode cX7_does 201 = .ok (.iastore, 1) := by decide +kernel
theorem dX7_does_202 : decode cX7_does 202 = .ok (.aload_n 0, 1) := by decide +kernel
theorem dX7_does_203 : decode cX7_does 203 = .ok (.getfield 7, 3) := by decide +kernel
theorem dX7_does_206 : decode cX7_does 206 = .ok (.iconst 0, 1) := by decide +kernel
theorem dX7_does_207 : decode cX7_does 207 = .ok (.aload_n 0, 1) := by decide +kernel
theorem dX7_does_208 : decode cX7_does 208 = .ok (.getfield 126, 3) := by decide +kernel
theorem dX7_does_211 : decode cX7_does 211 = .ok (.iadd, 1) := by decide +kernel
theorem dX7_does_212 : decode cX7_does 212 = .ok (.iconst 0, 1) := by decide +kernel
theorem dX7_does_213 : decode cX7_does 213 = .ok (.iastore, 1) := by decide +kernel
theorem dX7_does_214 : decode cX7_does 214 = .ok (.aload_n 0, 1) := by decide +kernel
theorem dX7_does_215 : decode cX7_does 215 = .ok (.dup, 1) := by decide +kernel
theorem dX7_does_216 : decode cX7_does 216 = .ok (.getfield 126, 3) := by decide +kernel
theorem dX7_does_219 : decode cX7_does 219 = .ok (.iconst 1, 1) := by decide +kernel
theorem dX7_does_220 : decode cX7_does 220 = .ok (.iadd, 1) := by decide +kernel
theorem dX7_does_221 : decode cX7_does 221 = .ok (.putfield 126, 3) := by decide +kernel
theorem dX7_does_224 : decode cX7_does 224 = .ok (.iinc 2 1, 3) := by decide +kernel
theorem dX7_does_227 : decode cX7_does 227 = .ok (.goto (-50), 3) := by decide +kernel
theorem dX7_does_230 : decode cX7_does 230 = .ok (.goto 51, 3) := by decide +kernel
theorem dX7_does_233 : decode cX7_does 233 = .ok (.aload_n 0, 1) := by decide +kernel
theorem dX7_does_234 : decode cX7_does 234 = .ok (.getfield 7, 3) := by decide +kernel
theorem dX7_does_237 : decode cX7_does 237 = .ok (.bipush 10, 2) := by decide +kernel
theorem dX7_does_239 : decode cX7_does 239 = .ok (.aload_n 0, 1) := by decide +kernel
theorem dX7_does_240 : decode cX7_does 240 = .ok (.getfield 53, 3) := by decide +kernel
theorem dX7_does_243 : decode cX7_does 243 = .ok (.iconst 0, 1) := by decide +kernel
theorem dX7_does_244 : decode cX7_does 244 = .ok (.iaload, 1) := by decide +kernel
theorem dX7_does_245 : decode cX7_does 245 = .ok (.iastore, 1) := by decide +kernel
theorem dX7_does_246 : decode cX7_does 246 = .ok (.aload_n 0, 1) := by decide +kernel
theorem dX7_does_247 : decode cX7_does 247 = .ok (.getfield 7, 3) := by decide +kernel
theorem dX7_does_250 : decode cX7_does 250 = .ok (.bipush 11, 2) := by decide +kernel
theorem dX7_does_252 : decode cX7_does 252 = .ok (.aload_n 0, 1) := by decide +kernel
theorem dX7_does_253 : decode cX7_does 253 = .ok (.getfield 53, 3) := by decide +kernel
theorem dX7_does_256 : decode cX7_does 256 = .ok (.iconst 1, 1) := by decide +kernel
theorem dX7_does_257 : decode cX7_does 257 = .ok (.iaload, 1) := by decide +kernel
theorem dX7_does_258 : decode cX7_does 258 = .ok (.iastore, 1) := by decide +kernel
theorem dX7_does_259 : decode cX7_does 259 = .ok (.goto 22, 3) := by decide +kernel
theorem dX7_does_262 : decode cX7_does 262 = .ok (.aload_n 0, 1) := by decide +kernel
theorem dX7_does_263 : decode cX7_does 263 = .ok (.getfield 7, 3) := by decide +kernel
theorem dX7_does_266 : decode cX7_does 266 = .ok (.iconst 0, 1) := by decide +kernel
theorem dX7_does_267 : decode cX7_does 267 = .ok (.aload_n 0, 1) := by decide +kernel
theorem dX7_does_268 : decode cX7_does 268 = .ok (.getfield 53, 3) := by decide +kernel
theorem dX7_does_271 : decode cX7_does 271 = .ok (.iconst 0, 1) := by decide +kernel
theorem dX7_does_272 : decode cX7_does 272 = .ok (.iaload, 1) := by decide +kernel
theorem dX7_does_273 : decode cX7_does 273 = .ok (.iadd, 1) := by decide +kernel
theorem dX7_does_274 : decode cX7_does 274 = .ok (.aload_n 0, 1) := by decide +kernel
theorem dX7_does_275 : decode cX7_does 275 = .ok (.getfield 53, 3) := by decide +kernel
theorem dX7_does_278 : decode cX7_does 278 = .ok (.iconst 1, 1) := by decide +kernel
theorem dX7_does_279 : decode cX7_does 279 = .ok (.iaload, 1) := by decide +kernel
theorem dX7_does_280 : decode cX7_does 280 = .ok (.iastore, 1) := by decide +kernel
theorem dX7_does_281 : decode cX7_does 281 = .ok (.return_, 1) := by decide +kernel
theorem dX7_readsClause_0 : decode cX7_readsClause 0 = .ok (.aload_n 0, 1) := by decide +kernel
theorem dX7_readsClause_1 : decode cX7_readsClause 1 = .ok (.invokevirtual 129, 3) := by decide +kernel
theorem dX7_readsClause_4 : decode cX7_readsClause 4 = .ok (.istore_n 1, 1) := by decide +kernel
theorem dX7_readsClause_5 : decode cX7_readsClause 5 = .ok (.iload_n 1, 1) := by decide +kernel
theorem dX7_readsClause_6 : decode cX7_readsClause 6 = .ok (.iconst (-1), 1) := by decide +kernel
theorem dX7_readsClause_7 : decode cX7_readsClause 7 = .ok (.if_icmp .eq 17, 3) := by decide +kernel
theorem dX7_readsClause_10 : decode cX7_readsClause 10 = .ok (.iload_n 1, 1) := by decide +kernel
theorem dX7_readsClause_11 : decode cX7_readsClause 11 = .ok (.iconst 1, 1) := by decide +kernel
theorem dX7_readsClause_12 : decode cX7_readsClause 12 = .ok (.if_icmp .ne 14, 3) := by decide +kernel
theorem dX7_readsClause_15 : decode cX7_readsClause 15 = .ok (.aload_n 0, 1) := by decide +kernel
theorem dX7_readsClause_16 : decode cX7_readsClause 16 = .ok (.getfield 98, 3) := by decide +kernel
theorem dX7_readsClause_19 : decode cX7_readsClause 19 = .ok (.bipush 6, 2) := by decide +kernel
theorem dX7_readsClause_21 : decode cX7_readsClause 21 = .ok (.if_icmp .ne 5, 3) := by decide +kernel
theorem dX7_readsClause_24 : decode cX7_readsClause 24 = .ok (.iconst 0, 1) := by decide +kernel
theorem dX7_readsClause_25 : decode cX7_readsClause 25 = .ok (.ireturn, 1) := by decide +kernel
theorem dX7_readsClause_26 : decode cX7_readsClause 26 = .ok (.aload_n 0, 1) := by decide +kernel
theorem dX7_readsClause_27 : decode cX7_readsClause 27 = .ok (.invokevirtual 95, 3) := by decide +kernel
theorem dX7_readsClause_30 : decode cX7_readsClause 30 = .ok (.aload_n 0, 1) := by decide +kernel
theorem dX7_readsClause_31 : decode cX7_readsClause 31 = .ok (.iload_n 1, 1) := by decide +kernel
theorem dX7_readsClause_32 : decode cX7_readsClause 32 = .ok (.invokevirtual 132, 3) := by decide +kernel
theorem dX7_readsClause_35 : decode cX7_readsClause 35 = .ok (.ifCond .ne 5, 3) := by decide +kernel
theorem dX7_readsClause_38 : decode cX7_readsClause 38 = .ok (.iconst 0, 1) := by decide +kernel
theorem dX7_readsClause_39 : decode cX7_readsClause 39 = .ok (.ireturn, 1) := by decide +kernel
theorem dX7_readsClause_40 : decode cX7_readsClause 40 = .ok (.aload_n 0, 1) := by decide +kernel
theorem dX7_readsClause_41 : decode cX7_readsClause 41 = .ok (.iload_n 1, 1) := by decide +kernel
theorem dX7_readsClause_42 : decode cX7_readsClause 42 = .ok (.ifCond .ne 7, 3) := by decide +kernel
theorem dX7_readsClause_45 : decode cX7_readsClause 45 = .ok (.iconst 0, 1) := by decide +kernel
theorem dX7_readsClause_46 : decode cX7_readsClause 46 = .ok (.goto 26, 3) := by decide +kernel
theorem dX7_readsClause_49 : decode cX7_readsClause 49 = .ok (.iload_n 1, 1) := by decide +kernel
theorem dX7_readsClause_50 : decode cX7_readsClause 50 = .ok (.iconst 2, 1) := by decide +kernel
theorem dX7_readsClause_51 : decode cX7_readsClause 51 = .ok (.if_icmp .ne 17, 3) := by decide +kernel
theorem dX7_readsClause_54 : decode cX7_readsClause 54 = .ok (.aload_n 0, 1) := by decide +kernel
theorem dX7_readsClause_55 : decode cX7_readsClause 55 = .ok (.getfield 116, 3) := by decide +kernel
theorem dX7_readsClause_58 : decode cX7_readsClause 58 = .ok (.aload_n 0, 1) := by decide +kernel
theorem dX7_readsClause_59 : decode cX7_readsClause 59 = .ok (.getfield 53, 3) := by decide +kernel
theorem dX7_readsClause_62 : decode cX7_readsClause 62 = .ok (.iconst 1, 1) := by decide +kernel
theorem dX7_readsClause_63 : decode cX7_readsClause 63 = .ok (.iaload, 1) := by decide +kernel
theorem dX7_readsClause_64 : decode cX7_readsClause 64 = .ok (.iadd, 1) := by decide +kernel
theorem dX7_readsClause_65 : decode cX7_readsClause 65 = .ok (.goto 7, 3) := by decide +kernel
theorem dX7_readsClause_68 : decode cX7_readsClause 68 = .ok (.aload_n 0, 1) := by decide +kernel
theorem dX7_readsClause_69 : decode cX7_readsClause 69 = .ok (.getfield 116, 3) := by decide +kernel
theorem dX7_readsClause_72 : decode cX7_readsClause 72 = .ok (.putfield 116, 3) := by decide +kernel
theorem dX7_readsClause_75 : decode cX7_readsClause 75 = .ok (.aload_n 0, 1) := by decide +kernel
theorem dX7_readsClause_76 : decode cX7_readsClause 76 = .ok (.getfield 135, 3) := by decide +kernel
theorem dX7_readsClause_79 : decode cX7_readsClause 79 = .ok (.ifCond .eq 8, 3) := by decide +kernel
theorem dX7_readsClause_82 : decode cX7_readsClause 82 = .ok (.aload_n 0, 1) := by decide +kernel
theorem dX7_readsClause_83 : decode cX7_readsClause 83 = .ok (.iload_n 1, 1) := by decide +kernel
theorem dX7_readsClause_84 : decode cX7_readsClause 84 = .ok (.invokevirtual 139, 3) := by decide +kernel
theorem dX7_readsClause_87 : decode cX7_readsClause 87 = .ok (.aload_n 0, 1) := by decide +kernel
theorem dX7_readsClause_88 : decode cX7_readsClause 88 = .ok (.iload_n 1, 1) := by decide +kernel
theorem dX7_readsClause_89 : decode cX7_readsClause 89 = .ok (.ifCond .ne 7, 3) := by decide +kernel
theorem dX7_readsClause_92 : decode cX7_readsClause 92 = .ok (.iconst 0, 1) := by decide +kernel
theorem dX7_readsClause_93 : decode cX7_readsClause 93 = .ok (.goto 21, 3) := by decide +kernel
theorem dX7_readsClause_96 : decode cX7_readsClause 96 = .ok (.iload_n 1, 1) := by decide +kernel
theorem dX7_readsClause_97 : decode cX7_readsClause 97 = .ok (.iconst 1, 1) := by decide +kernel
theorem dX7_readsClause_98 : decode cX7_readsClause 98 = .ok (.if_icmp .ne 12, 3) := by decide +kernel
theorem dX7_readsClause_101 : decode cX7_readsClause 101 = .ok (.aload_n 0, 1) := by decide +kernel
theorem dX7_readsClause_102 : decode cX7_readsClause 102 = .ok (.getfield 98, 3) := by decide +kernel
theorem dX7_readsClause_105 : decode cX7_readsClause 105 = .ok (.iconst 1, 1) := by decide +kernel
theorem dX7_readsClause_106 : decode cX7_readsClause 106 = .ok (.iadd, 1) := by decide +kernel
theorem dX7_readsClause_107 : decode cX7_readsClause 107 = .ok (.goto 7, 3) := by decide +kernel
theorem dX7_readsClause_110 : decode cX7_readsClause 110 = .ok (.aload_n 0, 1) := by decide +kernel
theorem dX7_readsClause_111 : decode cX7_readsClause 111 = .ok (.getfield 98, 3) := by decide +kernel
theorem dX7_readsClause_114 : decode cX7_readsClause 114 = .ok (.putfield 98, 3) := by decide +kernel
theorem dX7_readsClause_117 : decode cX7_readsClause 117 = .ok (.iconst 1, 1) := by decide +kernel
theorem dX7_readsClause_118 : decode cX7_readsClause 118 = .ok (.ireturn, 1) := by decide +kernel
theorem dX7_layTold_0 : decode cX7_layTold 0 = .ok (.aload_n 0, 1) := by decide +kernel
theorem dX7_layTold_1 : decode cX7_layTold 1 = .ok (.aload_n 0, 1) := by decide +kernel
theorem dX7_layTold_2 : decode cX7_layTold 2 = .ok (.getfield 123, 3) := by decide +kernel
theorem dX7_layTold_5 : decode cX7_layTold 5 = .ok (.putfield 98, 3) := by decide +kernel
theorem dX7_layTold_8 : decode cX7_layTold 8 = .ok (.aload_n 0, 1) := by decide +kernel
theorem dX7_layTold_9 : decode cX7_layTold 9 = .ok (.aload_n 0, 1) := by decide +kernel
theorem dX7_layTold_10 : decode cX7_layTold 10 = .ok (.getfield 126, 3) := by decide +kernel
theorem dX7_layTold_13 : decode cX7_layTold 13 = .ok (.putfield 116, 3) := by decide +kernel
theorem dX7_layTold_16 : decode cX7_layTold 16 = .ok (.iconst 0, 1) := by decide +kernel
theorem dX7_layTold_17 : decode cX7_layTold 17 = .ok (.istore_n 1, 1) := by decide +kernel
theorem dX7_layTold_18 : decode cX7_layTold 18 = .ok (.iload_n 1, 1) := by decide +kernel
theorem dX7_layTold_19 : decode cX7_layTold 19 = .ok (.bipush 6, 2) := by decide +kernel
theorem dX7_layTold_21 : decode cX7_layTold 21 = .ok (.if_icmp .ge 21, 3) := by decide +kernel
theorem dX7_layTold_24 : decode cX7_layTold 24 = .ok (.aload_n 0, 1) := by decide +kernel
theorem dX7_layTold_25 : decode cX7_layTold 25 = .ok (.getfield 50, 3) := by decide +kernel
theorem dX7_layTold_28 : decode cX7_layTold 28 = .ok (.iload_n 1, 1) := by decide +kernel
theorem dX7_layTold_29 : decode cX7_layTold 29 = .ok (.aload_n 0, 1) := by decide +kernel
theorem dX7_layTold_30 : decode cX7_layTold 30 = .ok (.getfield 22, 3) := by decide +kernel
theorem dX7_layTold_33 : decode cX7_layTold 33 = .ok (.iload_n 1, 1) := by decide +kernel
theorem dX7_layTold_34 : decode cX7_layTold 34 = .ok (.iaload, 1) := by decide +kernel
theorem dX7_layTold_35 : decode cX7_layTold 35 = .ok (.iastore, 1) := by decide +kernel
theorem dX7_layTold_36 : decode cX7_layTold 36 = .ok (.iinc 1 1, 3) := by decide +kernel
theorem dX7_layTold_39 : decode cX7_layTold 39 = .ok (.goto (-21), 3) := by decide +kernel
theorem dX7_layTold_42 : decode cX7_layTold 42 = .ok (.iconst 0, 1) := by decide +kernel
theorem dX7_layTold_43 : decode cX7_layTold 43 = .ok (.istore_n 1, 1) := by decide +kernel
theorem dX7_layTold_44 : decode cX7_layTold 44 = .ok (.iload_n 1, 1) := by decide +kernel
theorem dX7_layTold_45 : decode cX7_layTold 45 = .ok (.bipush 42, 2) := by decide +kernel
theorem dX7_layTold_47 : decode cX7_layTold 47 = .ok (.if_icmp .ge 21, 3) := by decide +kernel
theorem dX7_layTold_50 : decode cX7_layTold 50 = .ok (.aload_n 0, 1) := by decide +kernel
theorem dX7_layTold_51 : decode cX7_layTold 51 = .ok (.getfield 47, 3) := by decide +kernel
theorem dX7_layTold_54 : decode cX7_layTold 54 = .ok (.iload_n 1, 1) := by decide +kernel
theorem dX7_layTold_55 : decode cX7_layTold 55 = .ok (.aload_n 0, 1) := by decide +kernel
theorem dX7_layTold_56 : decode cX7_layTold 56 = .ok (.getfield 19, 3) := by decide +kernel
theorem dX7_layTold_59 : decode cX7_layTold 59 = .ok (.iload_n 1, 1) := by decide +kernel
theorem dX7_layTold_60 : decode cX7_layTold 60 = .ok (.iaload, 1) := by decide +kernel
theorem dX7_layTold_61 : decode cX7_layTold 61 = .ok (.iastore, 1) := by decide +kernel
theorem dX7_layTold_62 : decode cX7_layTold 62 = .ok (.iinc 1 1, 3) := by decide +kernel
theorem dX7_layTold_65 : decode cX7_layTold 65 = .ok (.goto (-21), 3) := by decide +kernel
theorem dX7_layTold_68 : decode cX7_layTold 68 = .ok (.return_, 1) := by decide +kernel
theorem dX7_reads_0 : decode cX7_reads 0 = .ok (.aload_n 0, 1) := by decide +kernel
theorem dX7_reads_1 : decode cX7_reads 1 = .ok (.iload_n 1, 1) := by decide +kernel
theorem dX7_reads_2 : decode cX7_reads 2 = .ok (.putfield 135, 3) := by decide +kernel
theorem dX7_reads_5 : decode cX7_reads 5 = .ok (.aload_n 0, 1) := by decide +kernel
theorem dX7_reads_6 : decode cX7_reads 6 = .ok (.iconst 0, 1) := by decide +kernel
theorem dX7_reads_7 : decode cX7_reads 7 = .ok (.putfield 82, 3) := by decide +kernel
theorem dX7_reads_10 : decode cX7_reads 10 = .ok (.aload_n 0, 1) := by decide +kernel
theorem dX7_reads_11 : decode cX7_reads 11 = .ok (.iconst 1, 1) := by decide +kernel
theorem dX7_reads_12 : decode cX7_reads 12 = .ok (.putfield 143, 3) := by decide +kernel
theorem dX7_reads_15 : decode cX7_reads 15 = .ok (.aload_n 0, 1) := by decide +kernel
theorem dX7_reads_16 : decode cX7_reads 16 = .ok (.invokevirtual 146, 3) := by decide +kernel
theorem dX7_reads_19 : decode cX7_reads 19 = .ok (.aload_n 0, 1) := by decide +kernel
theorem dX7_reads_20 : decode cX7_reads 20 = .ok (.invokevirtual 95, 3) := by decide +kernel
theorem dX7_reads_23 : decode cX7_reads 23 = .ok (.aload_n 0, 1) := by decide +kernel
theorem dX7_reads_24 : decode cX7_reads 24 = .ok (.invokevirtual 149, 3) := by decide +kernel
theorem dX7_reads_27 : decode cX7_reads 27 = .ok (.istore_n 2, 1) := by decide +kernel
theorem dX7_reads_28 : decode cX7_reads 28 = .ok (.iload_n 2, 1) := by decide +kernel
theorem dX7_reads_29 : decode cX7_reads 29 = .ok (.ifCond .eq 69, 3) := by decide +kernel
theorem dX7_reads_32 : decode cX7_reads 32 = .ok (.aload_n 0, 1) := by decide +kernel
theorem dX7_reads_33 : decode cX7_reads 33 = .ok (.getfield 85, 3) := by decide +kernel
theorem dX7_reads_36 : decode cX7_reads 36 = .ok (.aload_n 0, 1) := by decide +kernel
theorem dX7_reads_37 : decode cX7_reads 37 = .ok (.getfield 69, 3) := by decide +kernel
theorem dX7_reads_40 : decode cX7_reads 40 = .ok (.if_icmp .ge 58, 3) := by decide +kernel
theorem dX7_reads_43 : decode cX7_reads 43 = .ok (.aload_n 0, 1) := by decide +kernel
theorem dX7_reads_44 : decode cX7_reads 44 = .ok (.getfield 143, 3) := by decide +kernel
theorem dX7_reads_47 : decode cX7_reads 47 = .ok (.bipush 24, 2) := by decide +kernel
theorem dX7_reads_49 : decode cX7_reads 49 = .ok (.if_icmp .ge 21, 3) := by decide +kernel
theorem dX7_reads_52 : decode cX7_reads 52 = .ok (.aload_n 0, 1) := by decide +kernel
theorem dX7_reads_53 : decode cX7_reads 53 = .ok (.getfield 32, 3) := by decide +kernel
theorem dX7_reads_56 : decode cX7_reads 56 = .ok (.aload_n 0, 1) := by decide +kernel
theorem dX7_reads_57 : decode cX7_reads 57 = .ok (.getfield 85, 3) := by decide +kernel
theorem dX7_reads_60 : decode cX7_reads 60 = .ok (.iaload, 1) := by decide +kernel
theorem dX7_reads_61 : decode cX7_reads 61 = .ok (.bipush 59, 2) := by decide +kernel
theorem dX7_reads_63 : decode cX7_reads 63 = .ok (.if_icmp .ne 7, 3) := by decide +kernel
theorem dX7_reads_66 : decode cX7_reads 66 = .ok (.iconst 1, 1) := by decide +kernel
theorem dX7_reads_67 : decode cX7_reads 67 = .ok (.goto 4, 3) := by decide +kernel
theorem dX7_reads_70 : decode cX7_reads 70 = .ok (.iconst 0, 1) := by decide +kernel
theorem dX7_reads_71 : decode cX7_reads 71 = .ok (.istore_n 2, 1) := by decide +kernel
theorem dX7_reads_72 : decode cX7_reads 72 = .ok (.iload_n 2, 1) := by decide +kernel
theorem dX7_reads_73 : decode cX7_reads 73 = .ok (.ifCond .eq (-45), 3) := by decide +kernel
theorem dX7_reads_76 : decode cX7_reads 76 = .ok (.aload_n 0, 1) := by decide +kernel
theorem dX7_reads_77 : decode cX7_reads 77 = .ok (.invokevirtual 95, 3) := by decide +kernel
theorem dX7_reads_80 : decode cX7_reads 80 = .ok (.aload_n 0, 1) := by decide +kernel
theorem dX7_reads_81 : decode cX7_reads 81 = .ok (.invokevirtual 149, 3) := by decide +kernel
theorem dX7_reads_84 : decode cX7_reads 84 = .ok (.istore_n 2, 1) := by decide +kernel
theorem dX7_reads_85 : decode cX7_reads 85 = .ok (.aload_n 0, 1) := by decide +kernel
theorem dX7_reads_86 : decode cX7_reads 86 = .ok (.dup, 1) := by decide +kernel
theorem dX7_reads_87 : decode cX7_reads 87 = .ok (.getfield 143, 3) := by decide +kernel
theorem dX7_reads_90 : decode cX7_reads 90 = .ok (.iconst 1, 1) := by decide +kernel
theorem dX7_reads_91 : decode cX7_reads 91 = .ok (.iadd, 1) := by decide +kernel
theorem dX7_reads_92 : decode cX7_reads 92 = .ok (.putfield 143, 3) := by decide +kernel
theorem dX7_reads_95 : decode cX7_reads 95 = .ok (.goto (-67), 3) := by decide +kernel
theorem dX7_reads_98 : decode cX7_reads 98 = .ok (.iload_n 2, 1) := by decide +kernel
theorem dX7_reads_99 : decode cX7_reads 99 = .ok (.ireturn, 1) := by decide +kernel
theorem dX7_fault_0 : decode cX7_fault 0 = .ok (.aload_n 0, 1) := by decide +kernel
theorem dX7_fault_1 : decode cX7_fault 1 = .ok (.iconst 0, 1) := by decide +kernel
theorem dX7_fault_2 : decode cX7_fault 2 = .ok (.invokevirtual 152, 3) := by decide +kernel
theorem dX7_fault_5 : decode cX7_fault 5 = .ok (.ifCond .eq 7, 3) := by decide +kernel
theorem dX7_fault_8 : decode cX7_fault 8 = .ok (.iconst (-1), 1) := by decide +kernel
theorem dX7_fault_9 : decode cX7_fault 9 = .ok (.goto 7, 3) := by decide +kernel
theorem dX7_fault_12 : decode cX7_fault 12 = .ok (.aload_n 0, 1) := by decide +kernel
theorem dX7_fault_13 : decode cX7_fault 13 = .ok (.getfield 85, 3) := by decide +kernel
theorem dX7_fault_16 : decode cX7_fault 16 = .ok (.ireturn, 1) := by decide +kernel
theorem dX7_wall_0 : decode cX7_wall 0 = .ok (.aload_n 0, 1) := by decide +kernel
theorem dX7_wall_1 : decode cX7_wall 1 = .ok (.iconst 0, 1) := by decide +kernel
theorem dX7_wall_2 : decode cX7_wall 2 = .ok (.invokevirtual 152, 3) := by decide +kernel
theorem dX7_wall_5 : decode cX7_wall 5 = .ok (.ifCond .ne 6, 3) := by decide +kernel
theorem dX7_wall_8 : decode cX7_wall 8 = .ok (.ldc 156, 2) := by decide +kernel
theorem dX7_wall_10 : decode cX7_wall 10 = .ok (.ireturn, 1) := by decide +kernel
theorem dX7_wall_11 : decode cX7_wall 11 = .ok (.aload_n 0, 1) := by decide +kernel
theorem dX7_wall_12 : decode cX7_wall 12 = .ok (.iconst 1, 1) := by decide +kernel
theorem dX7_wall_13 : decode cX7_wall 13 = .ok (.invokevirtual 152, 3) := by decide +kernel
theorem dX7_wall_16 : decode cX7_wall 16 = .ok (.pop, 1) := by decide +kernel
theorem dX7_wall_17 : decode cX7_wall 17 = .ok (.aload_n 0, 1) := by decide +kernel
theorem dX7_wall_18 : decode cX7_wall 18 = .ok (.getfield 7, 3) := by decide +kernel
theorem dX7_wall_21 : decode cX7_wall 21 = .ok (.bipush 13, 2) := by decide +kernel
theorem dX7_wall_23 : decode cX7_wall 23 = .ok (.iconst 0, 1) := by decide +kernel
theorem dX7_wall_24 : decode cX7_wall 24 = .ok (.iastore, 1) := by decide +kernel
theorem dX7_wall_25 : decode cX7_wall 25 = .ok (.aload_n 0, 1) := by decide +kernel
theorem dX7_wall_26 : decode cX7_wall 26 = .ok (.getfield 7, 3) := by decide +kernel
theorem dX7_wall_29 : decode cX7_wall 29 = .ok (.bipush 14, 2) := by decide +kernel
theorem dX7_wall_31 : decode cX7_wall 31 = .ok (.iconst 0, 1) := by decide +kernel
theorem dX7_wall_32 : decode cX7_wall 32 = .ok (.iastore, 1) := by decide +kernel
theorem dX7_wall_33 : decode cX7_wall 33 = .ok (.aload_n 0, 1) := by decide +kernel
theorem dX7_wall_34 : decode cX7_wall 34 = .ok (.getfield 7, 3) := by decide +kernel
theorem dX7_wall_37 : decode cX7_wall 37 = .ok (.bipush 15, 2) := by decide +kernel
theorem dX7_wall_39 : decode cX7_wall 39 = .ok (.iconst 0, 1) := by decide +kernel
theorem dX7_wall_40 : decode cX7_wall 40 = .ok (.iastore, 1) := by decide +kernel
theorem dX7_wall_41 : decode cX7_wall 41 = .ok (.aload_n 0, 1) := by decide +kernel
theorem dX7_wall_42 : decode cX7_wall 42 = .ok (.iconst 0, 1) := by decide +kernel
theorem dX7_wall_43 : decode cX7_wall 43 = .ok (.putfield 69, 3) := by decide +kernel
theorem dX7_wall_46 : decode cX7_wall 46 = .ok (.aload_n 0, 1) := by decide +kernel
theorem dX7_wall_47 : decode cX7_wall 47 = .ok (.iconst 0, 1) := by decide +kernel
theorem dX7_wall_48 : decode cX7_wall 48 = .ok (.putfield 157, 3) := by decide +kernel
theorem dX7_wall_51 : decode cX7_wall 51 = .ok (.aload_n 0, 1) := by decide +kernel
theorem dX7_wall_52 : decode cX7_wall 52 = .ok (.getfield 28, 3) := by decide +kernel
theorem dX7_wall_55 : decode cX7_wall 55 = .ok (.iconst 0, 1) := by decide +kernel
theorem dX7_wall_56 : decode cX7_wall 56 = .ok (.iconst 0, 1) := by decide +kernel
theorem dX7_wall_57 : decode cX7_wall 57 = .ok (.bastore, 1) := by decide +kernel
theorem dX7_wall_58 : decode cX7_wall 58 = .ok (.aload_n 0, 1) := by decide +kernel
theorem dX7_wall_59 : decode cX7_wall 59 = .ok (.getfield 28, 3) := by decide +kernel
theorem dX7_wall_62 : decode cX7_wall 62 = .ok (.iconst 1, 1) := by decide +kernel
theorem dX7_wall_63 : decode cX7_wall 63 = .ok (.iconst 0, 1) := by decide +kernel
theorem dX7_wall_64 : decode cX7_wall 64 = .ok (.bastore, 1) := by decide +kernel
theorem dX7_wall_65 : decode cX7_wall 65 = .ok (.iconst 0, 1) := by decide +kernel
theorem dX7_wall_66 : decode cX7_wall 66 = .ok (.istore_n 1, 1) := by decide +kernel
theorem dX7_wall_67 : decode cX7_wall 67 = .ok (.iload_n 1, 1) := by decide +kernel
theorem dX7_wall_68 : decode cX7_wall 68 = .ok (.iconst 3, 1) := by decide +kernel
theorem dX7_wall_69 : decode cX7_wall 69 = .ok (.if_icmp .ge 16, 3) := by decide +kernel
theorem dX7_wall_72 : decode cX7_wall 72 = .ok (.aload_n 0, 1) := by decide +kernel
theorem dX7_wall_73 : decode cX7_wall 73 = .ok (.getfield 35, 3) := by decide +kernel
theorem dX7_wall_76 : decode cX7_wall 76 = .ok (.iload_n 1, 1) := by decide +kernel
theorem dX7_wall_77 : decode cX7_wall 77 = .ok (.iconst (-1), 1) := by decide +kernel
theorem dX7_wall_78 : decode cX7_wall 78 = .ok (.iastore, 1) := by decide +kernel
theorem dX7_wall_79 : decode cX7_wall 79 = .ok (.iinc 1 1, 3) := by decide +kernel
theorem dX7_wall_82 : decode cX7_wall 82 = .ok (.goto (-15), 3) := by decide +kernel
theorem dX7_wall_85 : decode cX7_wall 85 = .ok (.aload_n 0, 1) := by decide +kernel
theorem dX7_wall_86 : decode cX7_wall 86 = .ok (.getfield 143, 3) := by decide +kernel
theorem dX7_wall_89 : decode cX7_wall 89 = .ok (.ireturn, 1) := by decide +kernel
theorem dX7_find_0 : decode cX7_find 0 = .ok (.iconst 0, 1) := by decide +kernel
theorem dX7_find_1 : decode cX7_find 1 = .ok (.istore_n 1, 1) := by decide +kernel
theorem dX7_find_2 : decode cX7_find 2 = .ok (.iload_n 1, 1) := by decide +kernel
theorem dX7_find_3 : decode cX7_find 3 = .ok (.aload_n 0, 1) := by decide +kernel
theorem dX7_find_4 : decode cX7_find 4 = .ok (.getfield 123, 3) := by decide +kernel
theorem dX7_find_7 : decode cX7_find 7 = .ok (.if_icmp .ge 103, 3) := by decide +kernel
theorem dX7_find_10 : decode cX7_find 10 = .ok (.iconst 0, 1) := by decide +kernel
theorem dX7_find_11 : decode cX7_find 11 = .ok (.istore_n 2, 1) := by decide +kernel
theorem dX7_find_12 : decode cX7_find 12 = .ok (.iconst 1, 1) := by decide +kernel
theorem dX7_find_13 : decode cX7_find 13 = .ok (.istore_n 3, 1) := by decide +kernel
theorem dX7_find_14 : decode cX7_find 14 = .ok (.iconst 0, 1) := by decide +kernel
theorem dX7_find_15 : decode cX7_find 15 = .ok (.istore 4, 2) := by decide +kernel
theorem dX7_find_17 : decode cX7_find 17 = .ok (.iload 4, 2) := by decide +kernel
theorem dX7_find_19 : decode cX7_find 19 = .ok (.aload_n 0, 1) := by decide +kernel
theorem dX7_find_20 : decode cX7_find 20 = .ok (.getfield 69, 3) := by decide +kernel
theorem dX7_find_23 : decode cX7_find 23 = .ok (.if_icmp .ge 65, 3) := by decide +kernel
theorem dX7_find_26 : decode cX7_find 26 = .ok (.iload_n 3, 1) := by decide +kernel
theorem dX7_find_27 : decode cX7_find 27 = .ok (.ifCond .eq 61, 3) := by decide +kernel
theorem dX7_find_30 : decode cX7_find 30 = .ok (.aload_n 0, 1) := by decide +kernel
theorem dX7_find_31 : decode cX7_find 31 = .ok (.getfield 32, 3) := by decide +kernel
theorem dX7_find_34 : decode cX7_find 34 = .ok (.iload 4, 2) := by decide +kernel
theorem dX7_find_36 : decode cX7_find 36 = .ok (.iaload, 1) := by decide +kernel
theorem dX7_find_37 : decode cX7_find 37 = .ok (.bipush 32, 2) := by decide +kernel
theorem dX7_find_39 : decode cX7_find 39 = .ok (.if_icmp .eq 43, 3) := by decide +kernel
theorem dX7_find_42 : decode cX7_find 42 = .ok (.iload_n 2, 1) := by decide +kernel
theorem dX7_find_43 : decode cX7_find 43 = .ok (.aload_n 0, 1) := by decide +kernel
theorem dX7_find_44 : decode cX7_find 44 = .ok (.getfield 22, 3) := by decide +kernel
theorem dX7_find_47 : decode cX7_find 47 = .ok (.iload_n 1, 1) := by decide +kernel
theorem dX7_find_48 : decode cX7_find 48 = .ok (.iaload, 1) := by decide +kernel
theorem dX7_find_49 : decode cX7_find 49 = .ok (.if_icmp .ge 28, 3) := by decide +kernel
theorem dX7_find_52 : decode cX7_find 52 = .ok (.aload_n 0, 1) := by decide +kernel
theorem dX7_find_53 : decode cX7_find 53 = .ok (.getfield 19, 3) := by decide +kernel
theorem dX7_find_56 : decode cX7_find 56 = .ok (.bipush 7, 2) := by decide +kernel
theorem dX7_find_58 : decode cX7_find 58 = .ok (.iload_n 1, 1) := by decide +kernel
theorem dX7_find_59 : decode cX7_find 59 = .ok (.imul, 1) := by decide +kernel
theorem dX7_find_60 : decode cX7_find 60 = .ok (.iload_n 2, 1) := by decide +kernel
theorem dX7_find_61 : decode cX7_find 61 = .ok (.iadd, 1) := by decide +kernel
theorem dX7_find_62 : decode cX7_find 62 = .ok (.iaload, 1) := by decide +kernel
theorem dX7_find_63 : decode cX7_find 63 = .ok (.aload_n 0, 1) := by decide +kernel
theorem dX7_find_64 : decode cX7_find 64 = .ok (.getfield 32, 3) := by decide +kernel
theorem dX7_find_67 : decode cX7_find 67 = .ok (.iload 4, 2) := by decide +kernel
theorem dX7_find_69 : decode cX7_find 69 = .ok (.iaload, 1) := by decide +kernel
theorem dX7_find_70 : decode cX7_find 70 = .ok (.if_icmp .ne 7, 3) := by decide +kernel
theorem dX7_find_73 : decode cX7_find 73 = .ok (.iconst 1, 1) := by decide +kernel
theorem dX7_find_74 : decode cX7_find 74 = .ok (.goto 4, 3) := by decide +kernel
theorem dX7_find_77 : decode cX7_find 77 = .ok (.iconst 0, 1) := by decide +kernel
theorem dX7_find_78 : decode cX7_find 78 = .ok (.istore_n 3, 1) := by decide +kernel
theorem dX7_find_79 : decode cX7_find 79 = .ok (.iinc 2 1, 3) := by decide +kernel
theorem dX7_find_82 : decode cX7_find 82 = .ok (.iinc 4 1, 3) := by decide +kernel
theorem dX7_find_85 : decode cX7_find 85 = .ok (.goto (-68), 3) := by decide +kernel
theorem dX7_find_88 : decode cX7_find 88 = .ok (.iload_n 3, 1) := by decide +kernel
theorem dX7_find_89 : decode cX7_find 89 = .ok (.ifCond .eq 15, 3) := by decide +kernel
theorem dX7_find_92 : decode cX7_find 92 = .ok (.iload_n 2, 1) := by decide +kernel
theorem dX7_find_93 : decode cX7_find 93 = .ok (.aload_n 0, 1) := by decide +kernel
theorem dX7_find_94 : decode cX7_find 94 = .ok (.getfield 22, 3) := by decide +kernel
theorem dX7_find_97 : decode cX7_find 97 = .ok (.iload_n 1, 1) := by decide +kernel
theorem dX7_find_98 : decode cX7_find 98 = .ok (.iaload, 1) := by decide +kernel
theorem dX7_find_99 : decode cX7_find 99 = .ok (.if_icmp .ne 5, 3) := by decide +kernel
theorem dX7_find_102 : decode cX7_find 102 = .ok (.iload_n 1, 1) := by decide +kernel
theorem dX7_find_103 : decode cX7_find 103 = .ok (.ireturn, 1) := by decide +kernel
theorem dX7_find_104 : decode cX7_find 104 = .ok (.iinc 1 1, 3) := by decide +kernel
theorem dX7_find_107 : decode cX7_find 107 = .ok (.goto (-105), 3) := by decide +kernel
theorem dX7_find_110 : decode cX7_find 110 = .ok (.iconst (-1), 1) := by decide +kernel
theorem dX7_find_111 : decode cX7_find 111 = .ok (.ireturn, 1) := by decide +kernel
theorem dX7_isStuff_0 : decode cX7_isStuff 0 = .ok (.iload_n 1, 1) := by decide +kernel
theorem dX7_isStuff_1 : decode cX7_isStuff 1 = .ok (.i2l, 1) := by decide +kernel
theorem dX7_isStuff_2 : decode cX7_isStuff 2 = .ok (.lconst 0, 1) := by decide +kernel
theorem dX7_isStuff_3 : decode cX7_isStuff 3 = .ok (.aload_n 0, 1) := by decide +kernel
theorem dX7_isStuff_4 : decode cX7_isStuff 4 = .ok (.getfield 123, 3) := by decide +kernel
theorem dX7_isStuff_7 : decode cX7_isStuff 7 = .ok (.iconst 1, 1) := by decide +kernel
theorem dX7_isStuff_8 : decode cX7_isStuff 8 = .ok (.isub, 1) := by decide +kernel
theorem dX7_isStuff_9 : decode cX7_isStuff 9 = .ok (.i2l, 1) := by decide +kernel
theorem dX7_isStuff_10 : decode cX7_isStuff 10 = .ok (.invokestatic 64, 3) := by decide +kernel
theorem dX7_isStuff_13 : decode cX7_isStuff 13 = .ok (.ireturn, 1) := by decide +kernel
theorem dX7_isCell_0 : decode cX7_isCell 0 = .ok (.iload_n 1, 1) := by decide +kernel
theorem dX7_isCell_1 : decode cX7_isCell 1 = .ok (.i2l, 1) := by decide +kernel
theorem dX7_isCell_2 : decode cX7_isCell 2 = .ok (.lconst 0, 1) := by decide +kernel
theorem dX7_isCell_3 : decode cX7_isCell 3 = .ok (.aload_n 0, 1) := by decide +kernel
theorem dX7_isCell_4 : decode cX7_isCell 4 = .ok (.getfield 126, 3) := by decide +kernel
theorem dX7_isCell_7 : decode cX7_isCell 7 = .ok (.iconst 1, 1) := by decide +kernel
theorem dX7_isCell_8 : decode cX7_isCell 8 = .ok (.isub, 1) := by decide +kernel
theorem dX7_isCell_9 : decode cX7_isCell 9 = .ok (.i2l, 1) := by decide +kernel
theorem dX7_isCell_10 : decode cX7_isCell 10 = .ok (.invokestatic 64, 3) := by decide +kernel
theorem dX7_isCell_13 : decode cX7_isCell 13 = .ok (.ireturn, 1) := by decide +kernel
theorem dX7_holdsOf_0 : decode cX7_holdsOf 0 = .ok (.aload_n 0, 1) := by decide +kernel
theorem dX7_holdsOf_1 : decode cX7_holdsOf 1 = .ok (.getfield 16, 3) := by decide +kernel
theorem dX7_holdsOf_4 : decode cX7_holdsOf 4 = .ok (.aload_n 0, 1) := by decide +kernel
theorem dX7_holdsOf_5 : decode cX7_holdsOf 5 = .ok (.getfield 25, 3) := by decide +kernel
theorem dX7_holdsOf_8 : decode cX7_holdsOf 8 = .ok (.iload_n 1, 1) := by decide +kernel
theorem dX7_holdsOf_9 : decode cX7_holdsOf 9 = .ok (.iaload, 1) := by decide +kernel
theorem dX7_holdsOf_10 : decode cX7_holdsOf 10 = .ok (.iaload, 1) := by decide +kernel
theorem dX7_holdsOf_11 : decode cX7_holdsOf 11 = .ok (.ireturn, 1) := by decide +kernel
theorem dX7_passesOf_0 : decode cX7_passesOf 0 = .ok (.aload_n 0, 1) := by decide +kernel
theorem dX7_passesOf_1 : decode cX7_passesOf 1 = .ok (.getfield 13, 3) := by decide +kernel
theorem dX7_passesOf_4 : decode cX7_passesOf 4 = .ok (.aload_n 0, 1) := by decide +kernel
theorem dX7_passesOf_5 : decode cX7_passesOf 5 = .ok (.getfield 25, 3) := by decide +kernel
theorem dX7_passesOf_8 : decode cX7_passesOf 8 = .ok (.iload_n 1, 1) := by decide +kernel
theorem dX7_passesOf_9 : decode cX7_passesOf 9 = .ok (.iaload, 1) := by decide +kernel
theorem dX7_passesOf_10 : decode cX7_passesOf 10 = .ok (.iaload, 1) := by decide +kernel
theorem dX7_passesOf_11 : decode cX7_passesOf 11 = .ok (.ireturn, 1) := by decide +kernel
theorem dX7_divisor_0 : decode cX7_divisor 0 = .ok (.lload_n 0, 1) := by decide +kernel
theorem dX7_divisor_1 : decode cX7_divisor 1 = .ok (.lconst 0, 1) := by decide +kernel
theorem dX7_divisor_2 : decode cX7_divisor 2 = .ok (.lcmp, 1) := by decide +kernel
theorem dX7_divisor_3 : decode cX7_divisor 3 = .ok (.ifCond .ge 8, 3) := by decide +kernel
theorem dX7_divisor_6 : decode cX7_divisor 6 = .ok (.lload_n 0, 1) := by decide +kernel
theorem dX7_divisor_7 : decode cX7_divisor 7 = .ok (.lneg, 1) := by decide +kernel
theorem dX7_divisor_8 : decode cX7_divisor 8 = .ok (.goto 4, 3) := by decide +kernel
theorem dX7_divisor_11 : decode cX7_divisor 11 = .ok (.lload_n 0, 1) := by decide +kernel
theorem dX7_divisor_12 : decode cX7_divisor 12 = .ok (.lstore 4, 2) := by decide +kernel
theorem dX7_divisor_14 : decode cX7_divisor 14 = .ok (.lload_n 2, 1) := by decide +kernel
theorem dX7_divisor_15 : decode cX7_divisor 15 = .ok (.lstore 6, 2) := by decide +kernel
theorem dX7_divisor_17 : decode cX7_divisor 17 = .ok (.lload 6, 2) := by decide +kernel
theorem dX7_divisor_19 : decode cX7_divisor 19 = .ok (.lconst 0, 1) := by decide +kernel
theorem dX7_divisor_20 : decode cX7_divisor 20 = .ok (.lcmp, 1) := by decide +kernel
theorem dX7_divisor_21 : decode cX7_divisor 21 = .ok (.ifCond .eq 21, 3) := by decide +kernel
theorem dX7_divisor_24 : decode cX7_divisor 24 = .ok (.lload 4, 2) := by decide +kernel
theorem dX7_divisor_26 : decode cX7_divisor 26 = .ok (.lload 6, 2) := by decide +kernel
theorem dX7_divisor_28 : decode cX7_divisor 28 = .ok (.lrem, 1) := by decide +kernel
theorem dX7_divisor_29 : decode cX7_divisor 29 = .ok (.lstore 8, 2) := by decide +kernel
theorem dX7_divisor_31 : decode cX7_divisor 31 = .ok (.lload 6, 2) := by decide +kernel
theorem dX7_divisor_33 : decode cX7_divisor 33 = .ok (.lstore 4, 2) := by decide +kernel
theorem dX7_divisor_35 : decode cX7_divisor 35 = .ok (.lload 8, 2) := by decide +kernel
theorem dX7_divisor_37 : decode cX7_divisor 37 = .ok (.lstore 6, 2) := by decide +kernel
theorem dX7_divisor_39 : decode cX7_divisor 39 = .ok (.goto (-22), 3) := by decide +kernel
theorem dX7_divisor_42 : decode cX7_divisor 42 = .ok (.lload 4, 2) := by decide +kernel
theorem dX7_divisor_44 : decode cX7_divisor 44 = .ok (.lreturn, 1) := by decide +kernel
theorem dX7_told_0 : decode cX7_told 0 = .ok (.lload_n 0, 1) := by decide +kernel
theorem dX7_told_1 : decode cX7_told 1 = .ok (.lload_n 2, 1) := by decide +kernel
theorem dX7_told_2 : decode cX7_told 2 = .ok (.invokestatic 160, 3) := by decide +kernel
theorem dX7_told_5 : decode cX7_told 5 = .ok (.lstore 5, 2) := by decide +kernel
theorem dX7_told_7 : decode cX7_told 7 = .ok (.iload 4, 2) := by decide +kernel
theorem dX7_told_9 : decode cX7_told 9 = .ok (.ifCond .ne 10, 3) := by decide +kernel
theorem dX7_told_12 : decode cX7_told 12 = .ok (.lload_n 0, 1) := by decide +kernel
theorem dX7_told_13 : decode cX7_told 13 = .ok (.lload 5, 2) := by decide +kernel
theorem dX7_told_15 : decode cX7_told 15 = .ok (.ldiv, 1) := by decide +kernel
theorem dX7_told_16 : decode cX7_told 16 = .ok (.goto 7, 3) := by decide +kernel
theorem dX7_told_19 : decode cX7_told 19 = .ok (.lload_n 2, 1) := by decide +kernel
theorem dX7_told_20 : decode cX7_told 20 = .ok (.lload 5, 2) := by decide +kernel
theorem dX7_told_22 : decode cX7_told 22 = .ok (.ldiv, 1) := by decide +kernel
theorem dX7_told_23 : decode cX7_told 23 = .ok (.lreturn, 1) := by decide +kernel
theorem dX7_cellsOf_0 : decode cX7_cellsOf 0 = .ok (.iconst 0, 1) := by decide +kernel
theorem dX7_cellsOf_1 : decode cX7_cellsOf 1 = .ok (.istore_n 2, 1) := by decide +kernel
theorem dX7_cellsOf_2 : decode cX7_cellsOf 2 = .ok (.iconst 0, 1) := by decide +kernel
theorem dX7_cellsOf_3 : decode cX7_cellsOf 3 = .ok (.istore_n 3, 1) := by decide +kernel
theorem dX7_cellsOf_4 : decode cX7_cellsOf 4 = .ok (.iload_n 3, 1) := by decide +kernel
theorem dX7_cellsOf_5 : decode cX7_cellsOf 5 = .ok (.aload_n 0, 1) := by decide +kernel
theorem dX7_cellsOf_6 : decode cX7_cellsOf 6 = .ok (.getfield 126, 3) := by decide +kernel
theorem dX7_cellsOf_9 : decode cX7_cellsOf 9 = .ok (.if_icmp .ge 29, 3) := by decide +kernel
theorem dX7_cellsOf_12 : decode cX7_cellsOf 12 = .ok (.iload_n 2, 1) := by decide +kernel
theorem dX7_cellsOf_13 : decode cX7_cellsOf 13 = .ok (.aload_n 0, 1) := by decide +kernel
theorem dX7_cellsOf_14 : decode cX7_cellsOf 14 = .ok (.getfield 25, 3) := by decide +kernel
theorem dX7_cellsOf_17 : decode cX7_cellsOf 17 = .ok (.iload_n 3, 1) := by decide +kernel
theorem dX7_cellsOf_18 : decode cX7_cellsOf 18 = .ok (.iaload, 1) := by decide +kernel
theorem dX7_cellsOf_19 : decode cX7_cellsOf 19 = .ok (.iload_n 1, 1) := by decide +kernel
theorem dX7_cellsOf_20 : decode cX7_cellsOf 20 = .ok (.if_icmp .ne 9, 3) := by decide +kernel
theorem dX7_cellsOf_23 : decode cX7_cellsOf 23 = .ok (.iconst 1, 1) := by decide +kernel
theorem dX7_cellsOf_24 : decode cX7_cellsOf 24 = .ok (.iload_n 3, 1) := by decide +kernel
theorem dX7_cellsOf_25 : decode cX7_cellsOf 25 = .ok (.ishl, 1) := by decide +kernel
theorem dX7_cellsOf_26 : decode cX7_cellsOf 26 = .ok (.goto 4, 3) := by decide +kernel
theorem dX7_cellsOf_29 : decode cX7_cellsOf 29 = .ok (.iconst 0, 1) := by decide +kernel
theorem dX7_cellsOf_30 : decode cX7_cellsOf 30 = .ok (.ior, 1) := by decide +kernel
theorem dX7_cellsOf_31 : decode cX7_cellsOf 31 = .ok (.istore_n 2, 1) := by decide +kernel
theorem dX7_cellsOf_32 : decode cX7_cellsOf 32 = .ok (.iinc 3 1, 3) := by decide +kernel
theorem dX7_cellsOf_35 : decode cX7_cellsOf 35 = .ok (.goto (-31), 3) := by decide +kernel
theorem dX7_cellsOf_38 : decode cX7_cellsOf 38 = .ok (.iload_n 2, 1) := by decide +kernel
theorem dX7_cellsOf_39 : decode cX7_cellsOf 39 = .ok (.ireturn, 1) := by decide +kernel
theorem dX7_stuff_0 : decode cX7_stuff 0 = .ok (.aload_n 0, 1) := by decide +kernel
theorem dX7_stuff_1 : decode cX7_stuff 1 = .ok (.iload_n 1, 1) := by decide +kernel
theorem dX7_stuff_2 : decode cX7_stuff 2 = .ok (.invokevirtual 164, 3) := by decide +kernel
theorem dX7_stuff_5 : decode cX7_stuff 5 = .ok (.ifCond .ne 6, 3) := by decide +kernel
theorem dX7_stuff_8 : decode cX7_stuff 8 = .ok (.ldc 167, 2) := by decide +kernel
theorem dX7_stuff_10 : decode cX7_stuff 10 = .ok (.ireturn, 1) := by decide +kernel
theorem dX7_stuff_11 : decode cX7_stuff 11 = .ok (.iload_n 2, 1) := by decide +kernel
theorem dX7_stuff_12 : decode cX7_stuff 12 = .ok (.tableswitch 59 0 3 #[32, 39, 46, 53], 32) := by decide +kernel
theorem dX7_stuff_44 : decode cX7_stuff 44 = .ok (.aload_n 0, 1) := by decide +kernel
theorem dX7_stuff_45 : decode cX7_stuff 45 = .ok (.getfield 13, 3) := by decide +kernel
theorem dX7_stuff_48 : decode cX7_stuff 48 = .ok (.iload_n 1, 1) := by decide +kernel
theorem dX7_stuff_49 : decode cX7_stuff 49 = .ok (.iaload, 1) := by decide +kernel
theorem dX7_stuff_50 : decode cX7_stuff 50 = .ok (.ireturn, 1) := by decide +kernel
theorem dX7_stuff_51 : decode cX7_stuff 51 = .ok (.aload_n 0, 1) := by decide +kernel
theorem dX7_stuff_52 : decode cX7_stuff 52 = .ok (.getfield 16, 3) := by decide +kernel
theorem dX7_stuff_55 : decode cX7_stuff 55 = .ok (.iload_n 1, 1) := by decide +kernel
theorem dX7_stuff_56 : decode cX7_stuff 56 = .ok (.iaload, 1) := by decide +kernel
theorem dX7_stuff_57 : decode cX7_stuff 57 = .ok (.ireturn, 1) := by decide +kernel
theorem dX7_stuff_58 : decode cX7_stuff 58 = .ok (.aload_n 0, 1) := by decide +kernel
theorem dX7_stuff_59 : decode cX7_stuff 59 = .ok (.getfield 22, 3) := by decide +kernel
theorem dX7_stuff_62 : decode cX7_stuff 62 = .ok (.iload_n 1, 1) := by decide +kernel
theorem dX7_stuff_63 : decode cX7_stuff 63 = .ok (.iaload, 1) := by decide +kernel
theorem dX7_stuff_64 : decode cX7_stuff 64 = .ok (.ireturn, 1) := by decide +kernel
theorem dX7_stuff_65 : decode cX7_stuff 65 = .ok (.aload_n 0, 1) := by decide +kernel
theorem dX7_stuff_66 : decode cX7_stuff 66 = .ok (.iload_n 1, 1) := by decide +kernel
theorem dX7_stuff_67 : decode cX7_stuff 67 = .ok (.invokevirtual 168, 3) := by decide +kernel
theorem dX7_stuff_70 : decode cX7_stuff 70 = .ok (.ireturn, 1) := by decide +kernel
theorem dX7_stuff_71 : decode cX7_stuff 71 = .ok (.ldc 68, 2) := by decide +kernel
theorem dX7_stuff_73 : decode cX7_stuff 73 = .ok (.ireturn, 1) := by decide +kernel
theorem dX7_cell_0 : decode cX7_cell 0 = .ok (.aload_n 0, 1) := by decide +kernel
theorem dX7_cell_1 : decode cX7_cell 1 = .ok (.iload_n 1, 1) := by decide +kernel
theorem dX7_cell_2 : decode cX7_cell 2 = .ok (.invokevirtual 172, 3) := by decide +kernel
theorem dX7_cell_5 : decode cX7_cell 5 = .ok (.ifCond .ne 6, 3) := by decide +kernel
theorem dX7_cell_8 : decode cX7_cell 8 = .ok (.ldc 167, 2) := by decide +kernel
theorem dX7_cell_10 : decode cX7_cell 10 = .ok (.ireturn, 1) := by decide +kernel
theorem dX7_cell_11 : decode cX7_cell 11 = .ok (.iload_n 2, 1) := by decide +kernel
theorem dX7_cell_12 : decode cX7_cell 12 = .ok (.tableswitch 71 0 3 #[32, 39, 48, 48], 32) := by decide +kernel
theorem dX7_cell_44 : decode cX7_cell 44 = .ok (.aload_n 0, 1) := by decide +kernel
theorem dX7_cell_45 : decode cX7_cell 45 = .ok (.getfield 25, 3) := by decide +kernel
theorem dX7_cell_48 : decode cX7_cell 48 = .ok (.iload_n 1, 1) := by decide +kernel
theorem dX7_cell_49 : decode cX7_cell 49 = .ok (.iaload, 1) := by decide +kernel
theorem dX7_cell_50 : decode cX7_cell 50 = .ok (.ireturn, 1) := by decide +kernel
theorem dX7_cell_51 : decode cX7_cell 51 = .ok (.aload_n 0, 1) := by decide +kernel
theorem dX7_cell_52 : decode cX7_cell 52 = .ok (.getfield 7, 3) := by decide +kernel
theorem dX7_cell_55 : decode cX7_cell 55 = .ok (.iconst 0, 1) := by decide +kernel
theorem dX7_cell_56 : decode cX7_cell 56 = .ok (.iload_n 1, 1) := by decide +kernel
theorem dX7_cell_57 : decode cX7_cell 57 = .ok (.iadd, 1) := by decide +kernel
theorem dX7_cell_58 : decode cX7_cell 58 = .ok (.iaload, 1) := by decide +kernel
theorem dX7_cell_59 : decode cX7_cell 59 = .ok (.ireturn, 1) := by decide +kernel
theorem dX7_cell_60 : decode cX7_cell 60 = .ok (.aload_n 0, 1) := by decide +kernel
theorem dX7_cell_61 : decode cX7_cell 61 = .ok (.getfield 7, 3) := by decide +kernel
theorem dX7_cell_64 : decode cX7_cell 64 = .ok (.iconst 0, 1) := by decide +kernel
theorem dX7_cell_65 : decode cX7_cell 65 = .ok (.iload_n 1, 1) := by decide +kernel
theorem dX7_cell_66 : decode cX7_cell 66 = .ok (.iadd, 1) := by decide +kernel
theorem dX7_cell_67 : decode cX7_cell 67 = .ok (.iaload, 1) := by decide +kernel
theorem dX7_cell_68 : decode cX7_cell 68 = .ok (.i2l, 1) := by decide +kernel
theorem dX7_cell_69 : decode cX7_cell 69 = .ok (.aload_n 0, 1) := by decide +kernel
theorem dX7_cell_70 : decode cX7_cell 70 = .ok (.iload_n 1, 1) := by decide +kernel
theorem dX7_cell_71 : decode cX7_cell 71 = .ok (.invokevirtual 175, 3) := by decide +kernel
theorem dX7_cell_74 : decode cX7_cell 74 = .ok (.i2l, 1) := by decide +kernel
theorem dX7_cell_75 : decode cX7_cell 75 = .ok (.iload_n 2, 1) := by decide +kernel
theorem dX7_cell_76 : decode cX7_cell 76 = .ok (.iconst 2, 1) := by decide +kernel
theorem dX7_cell_77 : decode cX7_cell 77 = .ok (.isub, 1) := by decide +kernel
theorem dX7_cell_78 : decode cX7_cell 78 = .ok (.invokestatic 178, 3) := by decide +kernel
theorem dX7_cell_81 : decode cX7_cell 81 = .ok (.l2i, 1) := by decide +kernel
theorem dX7_cell_82 : decode cX7_cell 82 = .ok (.ireturn, 1) := by decide +kernel
theorem dX7_cell_83 : decode cX7_cell 83 = .ok (.ldc 68, 2) := by decide +kernel
theorem dX7_cell_85 : decode cX7_cell 85 = .ok (.ireturn, 1) := by decide +kernel
theorem dX7_rest_0 : decode cX7_rest 0 = .ok (.aload_n 0, 1) := by decide +kernel
theorem dX7_rest_1 : decode cX7_rest 1 = .ok (.iload_n 1, 1) := by decide +kernel
theorem dX7_rest_2 : decode cX7_rest 2 = .ok (.invokevirtual 172, 3) := by decide +kernel
theorem dX7_rest_5 : decode cX7_rest 5 = .ok (.ifCond .ne 7, 3) := by decide +kernel
theorem dX7_rest_8 : decode cX7_rest 8 = .ok (.ldc2_w 182, 3) := by decide +kernel
theorem dX7_rest_11 : decode cX7_rest 11 = .ok (.lreturn, 1) := by decide +kernel
theorem dX7_rest_12 : decode cX7_rest 12 = .ok (.iload_n 2, 1) := by decide +kernel
theorem dX7_rest_13 : decode cX7_rest 13 = .ok (.i2l, 1) := by decide +kernel
theorem dX7_rest_14 : decode cX7_rest 14 = .ok (.lconst 0, 1) := by decide +kernel
theorem dX7_rest_15 : decode cX7_rest 15 = .ok (.lconst 1, 1) := by decide +kernel
theorem dX7_rest_16 : decode cX7_rest 16 = .ok (.invokestatic 64, 3) := by decide +kernel
theorem dX7_rest_19 : decode cX7_rest 19 = .ok (.ifCond .ne 7, 3) := by decide +kernel
theorem dX7_rest_22 : decode cX7_rest 22 = .ok (.ldc2_w 184, 3) := by decide +kernel
theorem dX7_rest_25 : decode cX7_rest 25 = .ok (.lreturn, 1) := by decide +kernel
theorem dX7_rest_26 : decode cX7_rest 26 = .ok (.lconst 0, 1) := by decide +kernel
theorem dX7_rest_27 : decode cX7_rest 27 = .ok (.lstore_n 3, 1) := by decide +kernel
theorem dX7_rest_28 : decode cX7_rest 28 = .ok (.lconst 0, 1) := by decide +kernel
theorem dX7_rest_29 : decode cX7_rest 29 = .ok (.lstore 5, 2) := by decide +kernel
theorem dX7_rest_31 : decode cX7_rest 31 = .ok (.iconst 0, 1) := by decide +kernel
theorem dX7_rest_32 : decode cX7_rest 32 = .ok (.istore 7, 2) := by decide +kernel
theorem dX7_rest_34 : decode cX7_rest 34 = .ok (.iload 7, 2) := by decide +kernel
theorem dX7_rest_36 : decode cX7_rest 36 = .ok (.aload_n 0, 1) := by decide +kernel
theorem dX7_rest_37 : decode cX7_rest 37 = .ok (.getfield 126, 3) := by decide +kernel
theorem dX7_rest_40 : decode cX7_rest 40 = .ok (.if_icmp .ge 59, 3) := by decide +kernel
theorem dX7_rest_43 : decode cX7_rest 43 = .ok (.ldc2_w 186, 3) := by decide +kernel
theorem dX7_rest_46 : decode cX7_rest 46 = .ok (.aload_n 0, 1) := by decide +kernel
theorem dX7_rest_47 : decode cX7_rest 47 = .ok (.iload 7, 2) := by decide +kernel
theorem dX7_rest_49 : decode cX7_rest 49 = .ok (.invokevirtual 188, 3) := by decide +kernel
theorem dX7_rest_52 : decode cX7_rest 52 = .ok (.i2l, 1) := by decide +kernel
theorem dX7_rest_53 : decode cX7_rest 53 = .ok (.ldiv, 1) := by decide +kernel
theorem dX7_rest_54 : decode cX7_rest 54 = .ok (.lstore 8, 2) := by decide +kernel
theorem dX7_rest_56 : decode cX7_rest 56 = .ok (.lload_n 3, 1) := by decide +kernel
theorem dX7_rest_57 : decode cX7_rest 57 = .ok (.lload 8, 2) := by decide +kernel
theorem dX7_rest_59 : decode cX7_rest 59 = .ok (.ladd, 1) := by decide +kernel
theorem dX7_rest_60 : decode cX7_rest 60 = .ok (.lstore_n 3, 1) := by decide +kernel
theorem dX7_rest_61 : decode cX7_rest 61 = .ok (.lload 5, 2) := by decide +kernel
theorem dX7_rest_63 : decode cX7_rest 63 = .ok (.iload 7, 2) := by decide +kernel
theorem dX7_rest_65 : decode cX7_rest 65 = .ok (.iload_n 1, 1) := by decide +kernel
theorem dX7_rest_66 : decode cX7_rest 66 = .ok (.if_icmp .le 8, 3) := by decide +kernel
theorem dX7_rest_69 : decode cX7_rest 69 = .ok (.lload 8, 2) := by decide +kernel
theorem dX7_rest_71 : decode cX7_rest 71 = .ok (.goto 19, 3) := by decide +kernel
theorem dX7_rest_74 : decode cX7_rest 74 = .ok (.iload 7, 2) := by decide +kernel
theorem dX7_rest_76 : decode cX7_rest 76 = .ok (.iload_n 1, 1) := by decide +kernel
theorem dX7_rest_77 : decode cX7_rest 77 = .ok (.if_icmp .ne 12, 3) := by decide +kernel
theorem dX7_rest_80 : decode cX7_rest 80 = .ok (.lload 8, 2) := by decide +kernel
theorem dX7_rest_82 : decode cX7_rest 82 = .ok (.ldc2_w 191, 3) := by decide +kernel
theorem dX7_rest_85 : decode cX7_rest 85 = .ok (.ldiv, 1) := by decide +kernel
theorem dX7_rest_86 : decode cX7_rest 86 = .ok (.goto 4, 3) := by decide +kernel
theorem dX7_rest_89 : decode cX7_rest 89 = .ok (.lconst 0, 1) := by decide +kernel
theorem dX7_rest_90 : decode cX7_rest 90 = .ok (.ladd, 1) := by decide +kernel
theorem dX7_rest_91 : decode cX7_rest 91 = .ok (.lstore 5, 2) := by decide +kernel
theorem dX7_rest_93 : decode cX7_rest 93 = .ok (.iinc 7 1, 3) := by decide +kernel
theorem dX7_rest_96 : decode cX7_rest 96 = .ok (.goto (-62), 3) := by decide +kernel
theorem dX7_rest_99 : decode cX7_rest 99 = .ok (.aload_n 0, 1) := by decide +kernel
theorem dX7_rest_100 : decode cX7_rest 100 = .ok (.getfield 7, 3) := by decide +kernel
theorem dX7_rest_103 : decode cX7_rest 103 = .ok (.bipush 11, 2) := by decide +kernel
theorem dX7_rest_105 : decode cX7_rest 105 = .ok (.iaload, 1) := by decide +kernel
theorem dX7_rest_106 : decode cX7_rest 106 = .ok (.i2l, 1) := by decide +kernel
theorem dX7_rest_107 : decode cX7_rest 107 = .ok (.lload_n 3, 1) := by decide +kernel
theorem dX7_rest_108 : decode cX7_rest 108 = .ok (.lmul, 1) := by decide +kernel
theorem dX7_rest_109 : decode cX7_rest 109 = .ok (.aload_n 0, 1) := by decide +kernel
theorem dX7_rest_110 : decode cX7_rest 110 = .ok (.getfield 7, 3) := by decide +kernel
theorem dX7_rest_113 : decode cX7_rest 113 = .ok (.bipush 10, 2) := by decide +kernel
theorem dX7_rest_115 : decode cX7_rest 115 = .ok (.iaload, 1) := by decide +kernel
theorem dX7_rest_116 : decode cX7_rest 116 = .ok (.aload_n 0, 1) := by decide +kernel
theorem dX7_rest_117 : decode cX7_rest 117 = .ok (.getfield 7, 3) := by decide +kernel
theorem dX7_rest_120 : decode cX7_rest 120 = .ok (.bipush 11, 2) := by decide +kernel
theorem dX7_rest_122 : decode cX7_rest 122 = .ok (.iaload, 1) := by decide +kernel
theorem dX7_rest_123 : decode cX7_rest 123 = .ok (.isub, 1) := by decide +kernel
theorem dX7_rest_124 : decode cX7_rest 124 = .ok (.i2l, 1) := by decide +kernel
theorem dX7_rest_125 : decode cX7_rest 125 = .ok (.lload 5, 2) := by decide +kernel
theorem dX7_rest_127 : decode cX7_rest 127 = .ok (.lmul, 1) := by decide +kernel
theorem dX7_rest_128 : decode cX7_rest 128 = .ok (.ladd, 1) := by decide +kernel
theorem dX7_rest_129 : decode cX7_rest 129 = .ok (.lload_n 3, 1) := by decide +kernel
theorem dX7_rest_130 : decode cX7_rest 130 = .ok (.iload_n 2, 1) := by decide +kernel
theorem dX7_rest_131 : decode cX7_rest 131 = .ok (.invokestatic 178, 3) := by decide +kernel
theorem dX7_rest_134 : decode cX7_rest 134 = .ok (.lreturn, 1) := by decide +kernel
theorem dX7_flowAt_0 : decode cX7_flowAt 0 = .ok (.iload_n 2, 1) := by decide +kernel
theorem dX7_flowAt_1 : decode cX7_flowAt 1 = .ok (.ifCond .ne 50, 3) := by decide +kernel
theorem dX7_flowAt_4 : decode cX7_flowAt 4 = .ok (.aload_n 0, 1) := by decide +kernel
theorem dX7_flowAt_5 : decode cX7_flowAt 5 = .ok (.iconst 0, 1) := by decide +kernel
theorem dX7_flowAt_6 : decode cX7_flowAt 6 = .ok (.invokevirtual 175, 3) := by decide +kernel
theorem dX7_flowAt_9 : decode cX7_flowAt 9 = .ok (.istore_n 3, 1) := by decide +kernel
theorem dX7_flowAt_10 : decode cX7_flowAt 10 = .ok (.aload_n 0, 1) := by decide +kernel
theorem dX7_flowAt_11 : decode cX7_flowAt 11 = .ok (.getfield 7, 3) := by decide +kernel
theorem dX7_flowAt_14 : decode cX7_flowAt 14 = .ok (.iload_n 1, 1) := by decide +kernel
theorem dX7_flowAt_15 : decode cX7_flowAt 15 = .ok (.bipush 10, 2) := by decide +kernel
theorem dX7_flowAt_17 : decode cX7_flowAt 17 = .ok (.iadd, 1) := by decide +kernel
theorem dX7_flowAt_18 : decode cX7_flowAt 18 = .ok (.iaload, 1) := by decide +kernel
theorem dX7_flowAt_19 : decode cX7_flowAt 19 = .ok (.iload_n 3, 1) := by decide +kernel
theorem dX7_flowAt_20 : decode cX7_flowAt 20 = .ok (.imul, 1) := by decide +kernel
theorem dX7_flowAt_21 : decode cX7_flowAt 21 = .ok (.aload_n 0, 1) := by decide +kernel
theorem dX7_flowAt_22 : decode cX7_flowAt 22 = .ok (.getfield 7, 3) := by decide +kernel
theorem dX7_flowAt_25 : decode cX7_flowAt 25 = .ok (.iload_n 1, 1) := by decide +kernel
theorem dX7_flowAt_26 : decode cX7_flowAt 26 = .ok (.iconst 0, 1) := by decide +kernel
theorem dX7_flowAt_27 : decode cX7_flowAt 27 = .ok (.iadd, 1) := by decide +kernel
theorem dX7_flowAt_28 : decode cX7_flowAt 28 = .ok (.iaload, 1) := by decide +kernel
theorem dX7_flowAt_29 : decode cX7_flowAt 29 = .ok (.isub, 1) := by decide +kernel
theorem dX7_flowAt_30 : decode cX7_flowAt 30 = .ok (.iconst 2, 1) := by decide +kernel
theorem dX7_flowAt_31 : decode cX7_flowAt 31 = .ok (.imul, 1) := by decide +kernel
theorem dX7_flowAt_32 : decode cX7_flowAt 32 = .ok (.aload_n 0, 1) := by decide +kernel
theorem dX7_flowAt_33 : decode cX7_flowAt 33 = .ok (.iconst 0, 1) := by decide +kernel
theorem dX7_flowAt_34 : decode cX7_flowAt 34 = .ok (.invokevirtual 188, 3) := by decide +kernel
theorem dX7_flowAt_37 : decode cX7_flowAt 37 = .ok (.imul, 1) := by decide +kernel
theorem dX7_flowAt_38 : decode cX7_flowAt 38 = .ok (.iload_n 3, 1) := by decide +kernel
theorem dX7_flowAt_39 : decode cX7_flowAt 39 = .ok (.aload_n 0, 1) := by decide +kernel
theorem dX7_flowAt_40 : decode cX7_flowAt 40 = .ok (.getfield 7, 3) := by decide +kernel
theorem dX7_flowAt_43 : decode cX7_flowAt 43 = .ok (.iload_n 1, 1) := by decide +kernel
theorem dX7_flowAt_44 : decode cX7_flowAt 44 = .ok (.bipush 12, 2) := by decide +kernel
theorem dX7_flowAt_46 : decode cX7_flowAt 46 = .ok (.iadd, 1) := by decide +kernel
theorem dX7_flowAt_47 : decode cX7_flowAt 47 = .ok (.iaload, 1) := by decide +kernel
theorem dX7_flowAt_48 : decode cX7_flowAt 48 = .ok (.imul, 1) := by decide +kernel
theorem dX7_flowAt_49 : decode cX7_flowAt 49 = .ok (.idiv, 1) := by decide +kernel
theorem dX7_flowAt_50 : decode cX7_flowAt 50 = .ok (.ireturn, 1) := by decide +kernel
theorem dX7_flowAt_51 : decode cX7_flowAt 51 = .ok (.aload_n 0, 1) := by decide +kernel
theorem dX7_flowAt_52 : decode cX7_flowAt 52 = .ok (.iload_n 2, 1) := by decide +kernel
theorem dX7_flowAt_53 : decode cX7_flowAt 53 = .ok (.iconst 1, 1) := by decide +kernel
theorem dX7_flowAt_54 : decode cX7_flowAt 54 = .ok (.isub, 1) := by decide +kernel
theorem dX7_flowAt_55 : decode cX7_flowAt 55 = .ok (.invokevirtual 188, 3) := by decide +kernel
theorem dX7_flowAt_58 : decode cX7_flowAt 58 = .ok (.istore_n 3, 1) := by decide +kernel
theorem dX7_flowAt_59 : decode cX7_flowAt 59 = .ok (.aload_n 0, 1) := by decide +kernel
theorem dX7_flowAt_60 : decode cX7_flowAt 60 = .ok (.iload_n 2, 1) := by decide +kernel
theorem dX7_flowAt_61 : decode cX7_flowAt 61 = .ok (.iconst 1, 1) := by decide +kernel
theorem dX7_flowAt_62 : decode cX7_flowAt 62 = .ok (.isub, 1) := by decide +kernel
theorem dX7_flowAt_63 : decode cX7_flowAt 63 = .ok (.invokevirtual 175, 3) := by decide +kernel
theorem dX7_flowAt_66 : decode cX7_flowAt 66 = .ok (.istore 4, 2) := by decide +kernel
theorem dX7_flowAt_68 : decode cX7_flowAt 68 = .ok (.aload_n 0, 1) := by decide +kernel
theorem dX7_flowAt_69 : decode cX7_flowAt 69 = .ok (.getfield 7, 3) := by decide +kernel
theorem dX7_flowAt_72 : decode cX7_flowAt 72 = .ok (.iload_n 1, 1) := by decide +kernel
theorem dX7_flowAt_73 : decode cX7_flowAt 73 = .ok (.iconst 0, 1) := by decide +kernel
theorem dX7_flowAt_74 : decode cX7_flowAt 74 = .ok (.iadd, 1) := by decide +kernel
theorem dX7_flowAt_75 : decode cX7_flowAt 75 = .ok (.iload_n 2, 1) := by decide +kernel
theorem dX7_flowAt_76 : decode cX7_flowAt 76 = .ok (.iadd, 1) := by decide +kernel
theorem dX7_flowAt_77 : decode cX7_flowAt 77 = .ok (.iconst 1, 1) := by decide +kernel
theorem dX7_flowAt_78 : decode cX7_flowAt 78 = .ok (.isub, 1) := by decide +kernel
theorem dX7_flowAt_79 : decode cX7_flowAt 79 = .ok (.iaload, 1) := by decide +kernel
theorem dX7_flowAt_80 : decode cX7_flowAt 80 = .ok (.istore 5, 2) := by decide +kernel
theorem dX7_flowAt_82 : decode cX7_flowAt 82 = .ok (.iload_n 2, 1) := by decide +kernel
theorem dX7_flowAt_83 : decode cX7_flowAt 83 = .ok (.aload_n 0, 1) := by decide +kernel
theorem dX7_flowAt_84 : decode cX7_flowAt 84 = .ok (.getfield 126, 3) := by decide +kernel
theorem dX7_flowAt_87 : decode cX7_flowAt 87 = .ok (.if_icmp .ne 38, 3) := by decide +kernel
theorem dX7_flowAt_90 : decode cX7_flowAt 90 = .ok (.iload 5, 2) := by decide +kernel
theorem dX7_flowAt_92 : decode cX7_flowAt 92 = .ok (.aload_n 0, 1) := by decide +kernel
theorem dX7_flowAt_93 : decode cX7_flowAt 93 = .ok (.getfield 7, 3) := by decide +kernel
theorem dX7_flowAt_96 : decode cX7_flowAt 96 = .ok (.iload_n 1, 1) := by decide +kernel
theorem dX7_flowAt_97 : decode cX7_flowAt 97 = .ok (.bipush 10, 2) := by decide +kernel
theorem dX7_flowAt_99 : decode cX7_flowAt 99 = .ok (.iadd, 1) := by decide +kernel
theorem dX7_flowAt_100 : decode cX7_flowAt 100 = .ok (.iconst 1, 1) := by decide +kernel
theorem dX7_flowAt_101 : decode cX7_flowAt 101 = .ok (.iadd, 1) := by decide +kernel
theorem dX7_flowAt_102 : decode cX7_flowAt 102 = .ok (.iaload, 1) := by decide +kernel
theorem dX7_flowAt_103 : decode cX7_flowAt 103 = .ok (.iload 4, 2) := by decide +kernel
theorem dX7_flowAt_105 : decode cX7_flowAt 105 = .ok (.imul, 1) := by decide +kernel
theorem dX7_flowAt_106 : decode cX7_flowAt 106 = .ok (.isub, 1) := by decide +kernel
theorem dX7_flowAt_107 : decode cX7_flowAt 107 = .ok (.iconst 2, 1) := by decide +kernel
theorem dX7_flowAt_108 : decode cX7_flowAt 108 = .ok (.imul, 1) := by decide +kernel
theorem dX7_flowAt_109 : decode cX7_flowAt 109 = .ok (.iload_n 3, 1) := by decide +kernel
theorem dX7_flowAt_110 : decode cX7_flowAt 110 = .ok (.imul, 1) := by decide +kernel
theorem dX7_flowAt_111 : decode cX7_flowAt 111 = .ok (.iload 4, 2) := by decide +kernel
theorem dX7_flowAt_113 : decode cX7_flowAt 113 = .ok (.aload_n 0, 1) := by decide +kernel
theorem dX7_flowAt_114 : decode cX7_flowAt 114 = .ok (.getfield 7, 3) := by decide +kernel
theorem dX7_flowAt_117 : decode cX7_flowAt 117 = .ok (.iload_n 1, 1) := by decide +kernel
theorem dX7_flowAt_118 : decode cX7_flowAt 118 = .ok (.bipush 12, 2) := by decide +kernel
theorem dX7_flowAt_120 : decode cX7_flowAt 120 = .ok (.iadd, 1) := by decide +kernel
theorem dX7_flowAt_121 : decode cX7_flowAt 121 = .ok (.iaload, 1) := by decide +kernel
theorem dX7_flowAt_122 : decode cX7_flowAt 122 = .ok (.imul, 1) := by decide +kernel
theorem dX7_flowAt_123 : decode cX7_flowAt 123 = .ok (.idiv, 1) := by decide +kernel
theorem dX7_flowAt_124 : decode cX7_flowAt 124 = .ok (.ireturn, 1) := by decide +kernel
theorem dX7_flowAt_125 : decode cX7_flowAt 125 = .ok (.aload_n 0, 1) := by decide +kernel
theorem dX7_flowAt_126 : decode cX7_flowAt 126 = .ok (.iload_n 2, 1) := by decide +kernel
theorem dX7_flowAt_127 : decode cX7_flowAt 127 = .ok (.invokevirtual 188, 3) := by decide +kernel
theorem dX7_flowAt_130 : decode cX7_flowAt 130 = .ok (.istore 6, 2) := by decide +kernel
theorem dX7_flowAt_132 : decode cX7_flowAt 132 = .ok (.aload_n 0, 1) := by decide +kernel
theorem dX7_flowAt_133 : decode cX7_flowAt 133 = .ok (.iload_n 2, 1) := by decide +kernel
theorem dX7_flowAt_134 : decode cX7_flowAt 134 = .ok (.invokevirtual 175, 3) := by decide +kernel
theorem dX7_flowAt_137 : decode cX7_flowAt 137 = .ok (.istore 7, 2) := by decide +kernel
theorem dX7_flowAt_139 : decode cX7_flowAt 139 = .ok (.iload 5, 2) := by decide +kernel
theorem dX7_flowAt_141 : decode cX7_flowAt 141 = .ok (.iload 7, 2) := by decide +kernel
theorem dX7_flowAt_143 : decode cX7_flowAt 143 = .ok (.imul, 1) := by decide +kernel
theorem dX7_flowAt_144 : decode cX7_flowAt 144 = .ok (.aload_n 0, 1) := by decide +kernel
theorem dX7_flowAt_145 : decode cX7_flowAt 145 = .ok (.getfield 7, 3) := by decide +kernel
theorem dX7_flowAt_148 : decode cX7_flowAt 148 = .ok (.iload_n 1, 1) := by decide +kernel
theorem dX7_flowAt_149 : decode cX7_flowAt 149 = .ok (.iconst 0, 1) := by decide +kernel
theorem dX7_flowAt_150 : decode cX7_flowAt 150 = .ok (.iadd, 1) := by decide +kernel
theorem dX7_flowAt_151 : decode cX7_flowAt 151 = .ok (.iload_n 2, 1) := by decide +kernel
theorem dX7_flowAt_152 : decode cX7_flowAt 152 = .ok (.iadd, 1) := by decide +kernel
theorem dX7_flowAt_153 : decode cX7_flowAt 153 = .ok (.iaload, 1) := by decide +kernel
theorem dX7_flowAt_154 : decode cX7_flowAt 154 = .ok (.iload 4, 2) := by decide +kernel
theorem dX7_flowAt_156 : decode cX7_flowAt 156 = .ok (.imul, 1) := by decide +kernel
theorem dX7_flowAt_157 : decode cX7_flowAt 157 = .ok (.isub, 1) := by decide +kernel
theorem dX7_flowAt_158 : decode cX7_flowAt 158 = .ok (.iconst 2, 1) := by decide +kernel
theorem dX7_flowAt_159 : decode cX7_flowAt 159 = .ok (.imul, 1) := by decide +kernel
theorem dX7_flowAt_160 : decode cX7_flowAt 160 = .ok (.iload_n 3, 1) := by decide +kernel
theorem dX7_flowAt_161 : decode cX7_flowAt 161 = .ok (.imul, 1) := by decide +kernel
theorem dX7_flowAt_162 : decode cX7_flowAt 162 = .ok (.iload 6, 2) := by decide +kernel
theorem dX7_flowAt_164 : decode cX7_flowAt 164 = .ok (.imul, 1) := by decide +kernel
theorem dX7_flowAt_165 : decode cX7_flowAt 165 = .ok (.iload 4, 2) := by decide +kernel
theorem dX7_flowAt_167 : decode cX7_flowAt 167 = .ok (.iload 7, 2) := by decide +kernel
theorem dX7_flowAt_169 : decode cX7_flowAt 169 = .ok (.imul, 1) := by decide +kernel
theorem dX7_flowAt_170 : decode cX7_flowAt 170 = .ok (.iload_n 3, 1) := by decide +kernel
theorem dX7_flowAt_171 : decode cX7_flowAt 171 = .ok (.iload 6, 2) := by decide +kernel
theorem dX7_flowAt_173 : decode cX7_flowAt 173 = .ok (.iadd, 1) := by decide +kernel
theorem dX7_flowAt_174 : decode cX7_flowAt 174 = .ok (.imul, 1) := by decide +kernel
theorem dX7_flowAt_175 : decode cX7_flowAt 175 = .ok (.aload_n 0, 1) := by decide +kernel
theorem dX7_flowAt_176 : decode cX7_flowAt 176 = .ok (.getfield 7, 3) := by decide +kernel
theorem dX7_flowAt_179 : decode cX7_flowAt 179 = .ok (.iload_n 1, 1) := by decide +kernel
theorem dX7_flowAt_180 : decode cX7_flowAt 180 = .ok (.bipush 12, 2) := by decide +kernel
theorem dX7_flowAt_182 : decode cX7_flowAt 182 = .ok (.iadd, 1) := by decide +kernel
theorem dX7_flowAt_183 : decode cX7_flowAt 183 = .ok (.iaload, 1) := by decide +kernel
theorem dX7_flowAt_184 : decode cX7_flowAt 184 = .ok (.imul, 1) := by decide +kernel
theorem dX7_flowAt_185 : decode cX7_flowAt 185 = .ok (.idiv, 1) := by decide +kernel
theorem dX7_flowAt_186 : decode cX7_flowAt 186 = .ok (.ireturn, 1) := by decide +kernel
theorem dX7_steps_0 : decode cX7_steps 0 = .ok (.iconst 1, 1) := by decide +kernel
theorem dX7_steps_1 : decode cX7_steps 1 = .ok (.istore_n 2, 1) := by decide +kernel
theorem dX7_steps_2 : decode cX7_steps 2 = .ok (.iconst 0, 1) := by decide +kernel
theorem dX7_steps_3 : decode cX7_steps 3 = .ok (.istore_n 3, 1) := by decide +kernel
theorem dX7_steps_4 : decode cX7_steps 4 = .ok (.iload_n 3, 1) := by decide +kernel
theorem dX7_steps_5 : decode cX7_steps 5 = .ok (.aload_n 0, 1) := by decide +kernel
theorem dX7_steps_6 : decode cX7_steps 6 = .ok (.getfield 126, 3) := by decide +kernel
theorem dX7_steps_9 : decode cX7_steps 9 = .ok (.if_icmp .gt 21, 3) := by decide +kernel
theorem dX7_steps_12 : decode cX7_steps 12 = .ok (.aload_n 0, 1) := by decide +kernel
theorem dX7_steps_13 : decode cX7_steps 13 = .ok (.getfield 59, 3) := by decide +kernel
theorem dX7_steps_16 : decode cX7_steps 16 = .ok (.iload_n 3, 1) := by decide +kernel
theorem dX7_steps_17 : decode cX7_steps 17 = .ok (.aload_n 0, 1) := by decide +kernel
theorem dX7_steps_18 : decode cX7_steps 18 = .ok (.iload_n 1, 1) := by decide +kernel
theorem dX7_steps_19 : decode cX7_steps 19 = .ok (.iload_n 3, 1) := by decide +kernel
theorem dX7_steps_20 : decode cX7_steps 20 = .ok (.invokevirtual 193, 3) := by decide +kernel
theorem dX7_steps_23 : decode cX7_steps 23 = .ok (.iastore, 1) := by decide +kernel
theorem dX7_steps_24 : decode cX7_steps 24 = .ok (.iinc 3 1, 3) := by decide +kernel
theorem dX7_steps_27 : decode cX7_steps 27 = .ok (.goto (-23), 3) := by decide +kernel
theorem dX7_steps_30 : decode cX7_steps 30 = .ok (.iconst 0, 1) := by decide +kernel
theorem dX7_steps_31 : decode cX7_steps 31 = .ok (.istore_n 3, 1) := by decide +kernel
theorem dX7_steps_32 : decode cX7_steps 32 = .ok (.iload_n 3, 1) := by decide +kernel
theorem dX7_steps_33 : decode cX7_steps 33 = .ok (.aload_n 0, 1) := by decide +kernel
theorem dX7_steps_34 : decode cX7_steps 34 = .ok (.getfield 126, 3) := by decide +kernel
theorem dX7_steps_37 : decode cX7_steps 37 = .ok (.if_icmp .ge 56, 3) := by decide +kernel
theorem dX7_steps_40 : decode cX7_steps 40 = .ok (.iload_n 2, 1) := by decide +kernel
theorem dX7_steps_41 : decode cX7_steps 41 = .ok (.ifCond .eq 44, 3) := by decide +kernel
theorem dX7_steps_44 : decode cX7_steps 44 = .ok (.aload_n 0, 1) := by decide +kernel
theorem dX7_steps_45 : decode cX7_steps 45 = .ok (.getfield 7, 3) := by decide +kernel
theorem dX7_steps_48 : decode cX7_steps 48 = .ok (.iload_n 1, 1) := by decide +kernel
theorem dX7_steps_49 : decode cX7_steps 49 = .ok (.iconst 0, 1) := by decide +kernel
theorem dX7_steps_50 : decode cX7_steps 50 = .ok (.iadd, 1) := by decide +kernel
theorem dX7_steps_51 : decode cX7_steps 51 = .ok (.iload_n 3, 1) := by decide +kernel
theorem dX7_steps_52 : decode cX7_steps 52 = .ok (.iadd, 1) := by decide +kernel
theorem dX7_steps_53 : decode cX7_steps 53 = .ok (.iaload, 1) := by decide +kernel
theorem dX7_steps_54 : decode cX7_steps 54 = .ok (.aload_n 0, 1) := by decide +kernel
theorem dX7_steps_55 : decode cX7_steps 55 = .ok (.getfield 59, 3) := by decide +kernel
theorem dX7_steps_58 : decode cX7_steps 58 = .ok (.iload_n 3, 1) := by decide +kernel
theorem dX7_steps_59 : decode cX7_steps 59 = .ok (.iaload, 1) := by decide +kernel
theorem dX7_steps_60 : decode cX7_steps 60 = .ok (.iadd, 1) := by decide +kernel
theorem dX7_steps_61 : decode cX7_steps 61 = .ok (.aload_n 0, 1) := by decide +kernel
theorem dX7_steps_62 : decode cX7_steps 62 = .ok (.getfield 59, 3) := by decide +kernel
theorem dX7_steps_65 : decode cX7_steps 65 = .ok (.iload_n 3, 1) := by decide +kernel
theorem dX7_steps_66 : decode cX7_steps 66 = .ok (.iconst 1, 1) := by decide +kernel
theorem dX7_steps_67 : decode cX7_steps 67 = .ok (.iadd, 1) := by decide +kernel
theorem dX7_steps_68 : decode cX7_steps 68 = .ok (.iaload, 1) := by decide +kernel
theorem dX7_steps_69 : decode cX7_steps 69 = .ok (.isub, 1) := by decide +kernel
theorem dX7_steps_70 : decode cX7_steps 70 = .ok (.i2l, 1) := by decide +kernel
theorem dX7_steps_71 : decode cX7_steps 71 = .ok (.lconst 0, 1) := by decide +kernel
theorem dX7_steps_72 : decode cX7_steps 72 = .ok (.ldc2_w 196, 3) := by decide +kernel
theorem dX7_steps_75 : decode cX7_steps 75 = .ok (.invokestatic 64, 3) := by decide +kernel
theorem dX7_steps_78 : decode cX7_steps 78 = .ok (.ifCond .eq 7, 3) := by decide +kernel
theorem dX7_steps_81 : decode cX7_steps 81 = .ok (.iconst 1, 1) := by decide +kernel
theorem dX7_steps_82 : decode cX7_steps 82 = .ok (.goto 4, 3) := by decide +kernel
theorem dX7_steps_85 : decode cX7_steps 85 = .ok (.iconst 0, 1) := by decide +kernel
theorem dX7_steps_86 : decode cX7_steps 86 = .ok (.istore_n 2, 1) := by decide +kernel
theorem dX7_steps_87 : decode cX7_steps 87 = .ok (.iinc 3 1, 3) := by decide +kernel
theorem dX7_steps_90 : decode cX7_steps 90 = .ok (.goto (-58), 3) := by decide +kernel
theorem dX7_steps_93 : decode cX7_steps 93 = .ok (.iconst 0, 1) := by decide +kernel
theorem dX7_steps_94 : decode cX7_steps 94 = .ok (.istore_n 3, 1) := by decide +kernel
theorem dX7_steps_95 : decode cX7_steps 95 = .ok (.iload_n 3, 1) := by decide +kernel
theorem dX7_steps_96 : decode cX7_steps 96 = .ok (.aload_n 0, 1) := by decide +kernel
theorem dX7_steps_97 : decode cX7_steps 97 = .ok (.getfield 126, 3) := by decide +kernel
theorem dX7_steps_100 : decode cX7_steps 100 = .ok (.if_icmp .ge 41, 3) := by decide +kernel
theorem dX7_steps_103 : decode cX7_steps 103 = .ok (.iload_n 2, 1) := by decide +kernel
theorem dX7_steps_104 : decode cX7_steps 104 = .ok (.ifCond .eq 37, 3) := by decide +kernel
theorem dX7_steps_107 : decode cX7_steps 107 = .ok (.aload_n 0, 1) := by decide +kernel
theorem dX7_steps_108 : decode cX7_steps 108 = .ok (.getfield 7, 3) := by decide +kernel
theorem dX7_steps_111 : decode cX7_steps 111 = .ok (.iload_n 1, 1) := by decide +kernel
theorem dX7_steps_112 : decode cX7_steps 112 = .ok (.iconst 0, 1) := by decide +kernel
theorem dX7_steps_113 : decode cX7_steps 113 = .ok (.iadd, 1) := by decide +kernel
theorem dX7_steps_114 : decode cX7_steps 114 = .ok (.iload_n 3, 1) := by decide +kernel
theorem dX7_steps_115 : decode cX7_steps 115 = .ok (.iadd, 1) := by decide +kernel
theorem dX7_steps_116 : decode cX7_steps 116 = .ok (.dup2, 1) := by decide +kernel
theorem dX7_steps_117 : decode cX7_steps 117 = .ok (.iaload, 1) := by decide +kernel
theorem dX7_steps_118 : decode cX7_steps 118 = .ok (.aload_n 0, 1) := by decide +kernel
theorem dX7_steps_119 : decode cX7_steps 119 = .ok (.getfield 59, 3) := by decide +kernel
theorem dX7_steps_122 : decode cX7_steps 122 = .ok (.iload_n 3, 1) := by decide +kernel
theorem dX7_steps_123 : decode cX7_steps 123 = .ok (.iaload, 1) := by decide +kernel
theorem dX7_steps_124 : decode cX7_steps 124 = .ok (.aload_n 0, 1) := by decide +kernel
theorem dX7_steps_125 : decode cX7_steps 125 = .ok (.getfield 59, 3) := by decide +kernel
theorem dX7_steps_128 : decode cX7_steps 128 = .ok (.iload_n 3, 1) := by decide +kernel
theorem dX7_steps_129 : decode cX7_steps 129 = .ok (.iconst 1, 1) := by decide +kernel
theorem dX7_steps_130 : decode cX7_steps 130 = .ok (.iadd, 1) := by decide +kernel
theorem dX7_steps_131 : decode cX7_steps 131 = .ok (.iaload, 1) := by decide +kernel
theorem dX7_steps_132 : decode cX7_steps 132 = .ok (.isub, 1) := by decide +kernel
theorem dX7_steps_133 : decode cX7_steps 133 = .ok (.iadd, 1) := by decide +kernel
theorem dX7_steps_134 : decode cX7_steps 134 = .ok (.iastore, 1) := by decide +kernel
theorem dX7_steps_135 : decode cX7_steps 135 = .ok (.iinc 3 1, 3) := by decide +kernel
theorem dX7_steps_138 : decode cX7_steps 138 = .ok (.goto (-43), 3) := by decide +kernel
theorem dX7_steps_141 : decode cX7_steps 141 = .ok (.iload_n 2, 1) := by decide +kernel
theorem dX7_steps_142 : decode cX7_steps 142 = .ok (.ifCond .eq 55, 3) := by decide +kernel
theorem dX7_steps_145 : decode cX7_steps 145 = .ok (.aload_n 0, 1) := by decide +kernel
theorem dX7_steps_146 : decode cX7_steps 146 = .ok (.getfield 7, 3) := by decide +kernel
theorem dX7_steps_149 : decode cX7_steps 149 = .ok (.iload_n 1, 1) := by decide +kernel
theorem dX7_steps_150 : decode cX7_steps 150 = .ok (.bipush 13, 2) := by decide +kernel
theorem dX7_steps_152 : decode cX7_steps 152 = .ok (.iadd, 1) := by decide +kernel
theorem dX7_steps_153 : decode cX7_steps 153 = .ok (.dup2, 1) := by decide +kernel
theorem dX7_steps_154 : decode cX7_steps 154 = .ok (.iaload, 1) := by decide +kernel
theorem dX7_steps_155 : decode cX7_steps 155 = .ok (.aload_n 0, 1) := by decide +kernel
theorem dX7_steps_156 : decode cX7_steps 156 = .ok (.getfield 59, 3) := by decide +kernel
theorem dX7_steps_159 : decode cX7_steps 159 = .ok (.iconst 0, 1) := by decide +kernel
theorem dX7_steps_160 : decode cX7_steps 160 = .ok (.iaload, 1) := by decide +kernel
theorem dX7_steps_161 : decode cX7_steps 161 = .ok (.iadd, 1) := by decide +kernel
theorem dX7_steps_162 : decode cX7_steps 162 = .ok (.iastore, 1) := by decide +kernel
theorem dX7_steps_163 : decode cX7_steps 163 = .ok (.aload_n 0, 1) := by decide +kernel
theorem dX7_steps_164 : decode cX7_steps 164 = .ok (.getfield 7, 3) := by decide +kernel
theorem dX7_steps_167 : decode cX7_steps 167 = .ok (.iload_n 1, 1) := by decide +kernel
theorem dX7_steps_168 : decode cX7_steps 168 = .ok (.bipush 14, 2) := by decide +kernel
theorem dX7_steps_170 : decode cX7_steps 170 = .ok (.iadd, 1) := by decide +kernel
theorem dX7_steps_171 : decode cX7_steps 171 = .ok (.dup2, 1) := by decide +kernel
theorem dX7_steps_172 : decode cX7_steps 172 = .ok (.iaload, 1) := by decide +kernel
theorem dX7_steps_173 : decode cX7_steps 173 = .ok (.aload_n 0, 1) := by decide +kernel
theorem dX7_steps_174 : decode cX7_steps 174 = .ok (.getfield 59, 3) := by decide +kernel
theorem dX7_steps_177 : decode cX7_steps 177 = .ok (.aload_n 0, 1) := by decide +kernel
theorem dX7_steps_178 : decode cX7_steps 178 = .ok (.getfield 126, 3) := by decide +kernel
theorem dX7_steps_181 : decode cX7_steps 181 = .ok (.iaload, 1) := by decide +kernel
theorem dX7_steps_182 : decode cX7_steps 182 = .ok (.iadd, 1) := by decide +kernel
theorem dX7_steps_183 : decode cX7_steps 183 = .ok (.iastore, 1) := by decide +kernel
theorem dX7_steps_184 : decode cX7_steps 184 = .ok (.aload_n 0, 1) := by decide +kernel
theorem dX7_steps_185 : decode cX7_steps 185 = .ok (.getfield 7, 3) := by decide +kernel
theorem dX7_steps_188 : decode cX7_steps 188 = .ok (.iload_n 1, 1) := by decide +kernel
theorem dX7_steps_189 : decode cX7_steps 189 = .ok (.bipush 15, 2) := by decide +kernel
theorem dX7_steps_191 : decode cX7_steps 191 = .ok (.iadd, 1) := by decide +kernel
theorem dX7_steps_192 : decode cX7_steps 192 = .ok (.dup2, 1) := by decide +kernel
theorem dX7_steps_193 : decode cX7_steps 193 = .ok (.iaload, 1) := by decide +kernel
theorem dX7_steps_194 : decode cX7_steps 194 = .ok (.iconst 1, 1) := by decide +kernel
theorem dX7_steps_195 : decode cX7_steps 195 = .ok (.iadd, 1) := by decide +kernel
theorem dX7_steps_196 : decode cX7_steps 196 = .ok (.iastore, 1) := by decide +kernel
theorem dX7_steps_197 : decode cX7_steps 197 = .ok (.iload_n 2, 1) := by decide +kernel
theorem dX7_steps_198 : decode cX7_steps 198 = .ok (.ireturn, 1) := by decide +kernel
theorem dX7_allHeat_0 : decode cX7_allHeat 0 = .ok (.iconst 0, 1) := by decide +kernel
theorem dX7_allHeat_1 : decode cX7_allHeat 1 = .ok (.istore_n 1, 1) := by decide +kernel
theorem dX7_allHeat_2 : decode cX7_allHeat 2 = .ok (.iconst 0, 1) := by decide +kernel
theorem dX7_allHeat_3 : decode cX7_allHeat 3 = .ok (.istore_n 2, 1) := by decide +kernel
theorem dX7_allHeat_4 : decode cX7_allHeat 4 = .ok (.iload_n 2, 1) := by decide +kernel
theorem dX7_allHeat_5 : decode cX7_allHeat 5 = .ok (.aload_n 0, 1) := by decide +kernel
theorem dX7_allHeat_6 : decode cX7_allHeat 6 = .ok (.getfield 126, 3) := by decide +kernel
theorem dX7_allHeat_9 : decode cX7_allHeat 9 = .ok (.if_icmp .ge 20, 3) := by decide +kernel
theorem dX7_allHeat_12 : decode cX7_allHeat 12 = .ok (.iload_n 1, 1) := by decide +kernel
theorem dX7_allHeat_13 : decode cX7_allHeat 13 = .ok (.aload_n 0, 1) := by decide +kernel
theorem dX7_allHeat_14 : decode cX7_allHeat 14 = .ok (.getfield 7, 3) := by decide +kernel
theorem dX7_allHeat_17 : decode cX7_allHeat 17 = .ok (.iconst 0, 1) := by decide +kernel
theorem dX7_allHeat_18 : decode cX7_allHeat 18 = .ok (.iload_n 2, 1) := by decide +kernel
theorem dX7_allHeat_19 : decode cX7_allHeat 19 = .ok (.iadd, 1) := by decide +kernel
theorem dX7_allHeat_20 : decode cX7_allHeat 20 = .ok (.iaload, 1) := by decide +kernel
theorem dX7_allHeat_21 : decode cX7_allHeat 21 = .ok (.iadd, 1) := by decide +kernel
theorem dX7_allHeat_22 : decode cX7_allHeat 22 = .ok (.istore_n 1, 1) := by decide +kernel
theorem dX7_allHeat_23 : decode cX7_allHeat 23 = .ok (.iinc 2 1, 3) := by decide +kernel
theorem dX7_allHeat_26 : decode cX7_allHeat 26 = .ok (.goto (-22), 3) := by decide +kernel
theorem dX7_allHeat_29 : decode cX7_allHeat 29 = .ok (.iload_n 1, 1) := by decide +kernel
theorem dX7_allHeat_30 : decode cX7_allHeat 30 = .ok (.ireturn, 1) := by decide +kernel
theorem dX7_safeFor_0 : decode cX7_safeFor 0 = .ok (.aload_n 0, 1) := by decide +kernel
theorem dX7_safeFor_1 : decode cX7_safeFor 1 = .ok (.iload_n 1, 1) := by decide +kernel
theorem dX7_safeFor_2 : decode cX7_safeFor 2 = .ok (.invokevirtual 188, 3) := by decide +kernel
theorem dX7_safeFor_5 : decode cX7_safeFor 5 = .ok (.istore_n 2, 1) := by decide +kernel
theorem dX7_safeFor_6 : decode cX7_safeFor 6 = .ok (.iload_n 1, 1) := by decide +kernel
theorem dX7_safeFor_7 : decode cX7_safeFor 7 = .ok (.ifCond .ne 7, 3) := by decide +kernel
theorem dX7_safeFor_10 : decode cX7_safeFor 10 = .ok (.iconst 1, 1) := by decide +kernel
theorem dX7_safeFor_11 : decode cX7_safeFor 11 = .ok (.goto 12, 3) := by decide +kernel
theorem dX7_safeFor_14 : decode cX7_safeFor 14 = .ok (.iload_n 2, 1) := by decide +kernel
theorem dX7_safeFor_15 : decode cX7_safeFor 15 = .ok (.aload_n 0, 1) := by decide +kernel
theorem dX7_safeFor_16 : decode cX7_safeFor 16 = .ok (.iload_n 1, 1) := by decide +kernel
theorem dX7_safeFor_17 : decode cX7_safeFor 17 = .ok (.iconst 1, 1) := by decide +kernel
theorem dX7_safeFor_18 : decode cX7_safeFor 18 = .ok (.isub, 1) := by decide +kernel
theorem dX7_safeFor_19 : decode cX7_safeFor 19 = .ok (.invokevirtual 188, 3) := by decide +kernel
theorem dX7_safeFor_22 : decode cX7_safeFor 22 = .ok (.iadd, 1) := by decide +kernel
theorem dX7_safeFor_23 : decode cX7_safeFor 23 = .ok (.istore_n 3, 1) := by decide +kernel
theorem dX7_safeFor_24 : decode cX7_safeFor 24 = .ok (.iload_n 1, 1) := by decide +kernel
theorem dX7_safeFor_25 : decode cX7_safeFor 25 = .ok (.aload_n 0, 1) := by decide +kernel
theorem dX7_safeFor_26 : decode cX7_safeFor 26 = .ok (.getfield 126, 3) := by decide +kernel
theorem dX7_safeFor_29 : decode cX7_safeFor 29 = .ok (.iconst 1, 1) := by decide +kernel
theorem dX7_safeFor_30 : decode cX7_safeFor 30 = .ok (.isub, 1) := by decide +kernel
theorem dX7_safeFor_31 : decode cX7_safeFor 31 = .ok (.if_icmp .ne 7, 3) := by decide +kernel
theorem dX7_safeFor_34 : decode cX7_safeFor 34 = .ok (.iconst 1, 1) := by decide +kernel
theorem dX7_safeFor_35 : decode cX7_safeFor 35 = .ok (.goto 12, 3) := by decide +kernel
theorem dX7_safeFor_38 : decode cX7_safeFor 38 = .ok (.iload_n 2, 1) := by decide +kernel
theorem dX7_safeFor_39 : decode cX7_safeFor 39 = .ok (.aload_n 0, 1) := by decide +kernel
theorem dX7_safeFor_40 : decode cX7_safeFor 40 = .ok (.iload_n 1, 1) := by decide +kernel
theorem dX7_safeFor_41 : decode cX7_safeFor 41 = .ok (.iconst 1, 1) := by decide +kernel
theorem dX7_safeFor_42 : decode cX7_safeFor 42 = .ok (.iadd, 1) := by decide +kernel
theorem dX7_safeFor_43 : decode cX7_safeFor 43 = .ok (.invokevirtual 188, 3) := by decide +kernel
theorem dX7_safeFor_46 : decode cX7_safeFor 46 = .ok (.iadd, 1) := by decide +kernel
theorem dX7_safeFor_47 : decode cX7_safeFor 47 = .ok (.istore 4, 2) := by decide +kernel
theorem dX7_safeFor_49 : decode cX7_safeFor 49 = .ok (.iconst 2, 1) := by decide +kernel
theorem dX7_safeFor_50 : decode cX7_safeFor 50 = .ok (.iload_n 2, 1) := by decide +kernel
theorem dX7_safeFor_51 : decode cX7_safeFor 51 = .ok (.imul, 1) := by decide +kernel
theorem dX7_safeFor_52 : decode cX7_safeFor 52 = .ok (.iload_n 1, 1) := by decide +kernel
theorem dX7_safeFor_53 : decode cX7_safeFor 53 = .ok (.ifCond .ne 7, 3) := by decide +kernel
theorem dX7_safeFor_56 : decode cX7_safeFor 56 = .ok (.iconst 1, 1) := by decide +kernel
theorem dX7_safeFor_57 : decode cX7_safeFor 57 = .ok (.goto 10, 3) := by decide +kernel
theorem dX7_safeFor_60 : decode cX7_safeFor 60 = .ok (.aload_n 0, 1) := by decide +kernel
theorem dX7_safeFor_61 : decode cX7_safeFor 61 = .ok (.iload_n 1, 1) := by decide +kernel
theorem dX7_safeFor_62 : decode cX7_safeFor 62 = .ok (.iconst 1, 1) := by decide +kernel
theorem dX7_safeFor_63 : decode cX7_safeFor 63 = .ok (.isub, 1) := by decide +kernel
theorem dX7_safeFor_64 : decode cX7_safeFor 64 = .ok (.invokevirtual 188, 3) := by decide +kernel
theorem dX7_safeFor_67 : decode cX7_safeFor 67 = .ok (.imul, 1) := by decide +kernel
theorem dX7_safeFor_68 : decode cX7_safeFor 68 = .ok (.iload 4, 2) := by decide +kernel
theorem dX7_safeFor_70 : decode cX7_safeFor 70 = .ok (.imul, 1) := by decide +kernel
theorem dX7_safeFor_71 : decode cX7_safeFor 71 = .ok (.iconst 2, 1) := by decide +kernel
theorem dX7_safeFor_72 : decode cX7_safeFor 72 = .ok (.iload_n 2, 1) := by decide +kernel
theorem dX7_safeFor_73 : decode cX7_safeFor 73 = .ok (.imul, 1) := by decide +kernel
theorem dX7_safeFor_74 : decode cX7_safeFor 74 = .ok (.iload_n 1, 1) := by decide +kernel
theorem dX7_safeFor_75 : decode cX7_safeFor 75 = .ok (.aload_n 0, 1) := by decide +kernel
theorem dX7_safeFor_76 : decode cX7_safeFor 76 = .ok (.getfield 126, 3) := by decide +kernel
theorem dX7_safeFor_79 : decode cX7_safeFor 79 = .ok (.iconst 1, 1) := by decide +kernel
theorem dX7_safeFor_80 : decode cX7_safeFor 80 = .ok (.isub, 1) := by decide +kernel
theorem dX7_safeFor_81 : decode cX7_safeFor 81 = .ok (.if_icmp .ne 7, 3) := by decide +kernel
theorem dX7_safeFor_84 : decode cX7_safeFor 84 = .ok (.iconst 1, 1) := by decide +kernel
theorem dX7_safeFor_85 : decode cX7_safeFor 85 = .ok (.goto 10, 3) := by decide +kernel
theorem dX7_safeFor_88 : decode cX7_safeFor 88 = .ok (.aload_n 0, 1) := by decide +kernel
theorem dX7_safeFor_89 : decode cX7_safeFor 89 = .ok (.iload_n 1, 1) := by decide +kernel
theorem dX7_safeFor_90 : decode cX7_safeFor 90 = .ok (.iconst 1, 1) := by decide +kernel
theorem dX7_safeFor_91 : decode cX7_safeFor 91 = .ok (.iadd, 1) := by decide +kernel
theorem dX7_safeFor_92 : decode cX7_safeFor 92 = .ok (.invokevirtual 188, 3) := by decide +kernel
theorem dX7_safeFor_95 : decode cX7_safeFor 95 = .ok (.imul, 1) := by decide +kernel
theorem dX7_safeFor_96 : decode cX7_safeFor 96 = .ok (.iload_n 3, 1) := by decide +kernel
theorem dX7_safeFor_97 : decode cX7_safeFor 97 = .ok (.imul, 1) := by decide +kernel
theorem dX7_safeFor_98 : decode cX7_safeFor 98 = .ok (.iadd, 1) := by decide +kernel
theorem dX7_safeFor_99 : decode cX7_safeFor 99 = .ok (.istore 5, 2) := by decide +kernel
theorem dX7_safeFor_101 : decode cX7_safeFor 101 = .ok (.iload_n 3, 1) := by decide +kernel
theorem dX7_safeFor_102 : decode cX7_safeFor 102 = .ok (.iload 4, 2) := by decide +kernel
theorem dX7_safeFor_104 : decode cX7_safeFor 104 = .ok (.imul, 1) := by decide +kernel
theorem dX7_safeFor_105 : decode cX7_safeFor 105 = .ok (.aload_n 0, 1) := by decide +kernel
theorem dX7_safeFor_106 : decode cX7_safeFor 106 = .ok (.iload_n 1, 1) := by decide +kernel
theorem dX7_safeFor_107 : decode cX7_safeFor 107 = .ok (.invokevirtual 175, 3) := by decide +kernel
theorem dX7_safeFor_110 : decode cX7_safeFor 110 = .ok (.imul, 1) := by decide +kernel
theorem dX7_safeFor_111 : decode cX7_safeFor 111 = .ok (.istore 6, 2) := by decide +kernel
theorem dX7_safeFor_113 : decode cX7_safeFor 113 = .ok (.iload 5, 2) := by decide +kernel
theorem dX7_safeFor_115 : decode cX7_safeFor 115 = .ok (.iload 6, 2) := by decide +kernel
theorem dX7_safeFor_117 : decode cX7_safeFor 117 = .ok (.iadd, 1) := by decide +kernel
theorem dX7_safeFor_118 : decode cX7_safeFor 118 = .ok (.iconst 1, 1) := by decide +kernel
theorem dX7_safeFor_119 : decode cX7_safeFor 119 = .ok (.isub, 1) := by decide +kernel
theorem dX7_safeFor_120 : decode cX7_safeFor 120 = .ok (.iload 6, 2) := by decide +kernel
theorem dX7_safeFor_122 : decode cX7_safeFor 122 = .ok (.idiv, 1) := by decide +kernel
theorem dX7_safeFor_123 : decode cX7_safeFor 123 = .ok (.ireturn, 1) := by decide +kernel
theorem dX7_safe_0 : decode cX7_safe 0 = .ok (.iconst 1, 1) := by decide +kernel
theorem dX7_safe_1 : decode cX7_safe 1 = .ok (.istore_n 1, 1) := by decide +kernel
theorem dX7_safe_2 : decode cX7_safe 2 = .ok (.iconst 0, 1) := by decide +kernel
theorem dX7_safe_3 : decode cX7_safe 3 = .ok (.istore_n 2, 1) := by decide +kernel
theorem dX7_safe_4 : decode cX7_safe 4 = .ok (.iload_n 2, 1) := by decide +kernel
theorem dX7_safe_5 : decode cX7_safe 5 = .ok (.aload_n 0, 1) := by decide +kernel
theorem dX7_safe_6 : decode cX7_safe 6 = .ok (.getfield 126, 3) := by decide +kernel
theorem dX7_safe_9 : decode cX7_safe 9 = .ok (.if_icmp .ge 28, 3) := by decide +kernel
theorem dX7_safe_12 : decode cX7_safe 12 = .ok (.aload_n 0, 1) := by decide +kernel
theorem dX7_safe_13 : decode cX7_safe 13 = .ok (.iload_n 2, 1) := by decide +kernel
theorem dX7_safe_14 : decode cX7_safe 14 = .ok (.invokevirtual 198, 3) := by decide +kernel
theorem dX7_safe_17 : decode cX7_safe 17 = .ok (.iload_n 1, 1) := by decide +kernel
theorem dX7_safe_18 : decode cX7_safe 18 = .ok (.if_icmp .le 11, 3) := by decide +kernel
theorem dX7_safe_21 : decode cX7_safe 21 = .ok (.aload_n 0, 1) := by decide +kernel
theorem dX7_safe_22 : decode cX7_safe 22 = .ok (.iload_n 2, 1) := by decide +kernel
theorem dX7_safe_23 : decode cX7_safe 23 = .ok (.invokevirtual 198, 3) := by decide +kernel
theorem dX7_safe_26 : decode cX7_safe 26 = .ok (.goto 4, 3) := by decide +kernel
theorem dX7_safe_29 : decode cX7_safe 29 = .ok (.iload_n 1, 1) := by decide +kernel
theorem dX7_safe_30 : decode cX7_safe 30 = .ok (.istore_n 1, 1) := by decide +kernel
theorem dX7_safe_31 : decode cX7_safe 31 = .ok (.iinc 2 1, 3) := by decide +kernel
theorem dX7_safe_34 : decode cX7_safe 34 = .ok (.goto (-30), 3) := by decide +kernel
theorem dX7_safe_37 : decode cX7_safe 37 = .ok (.iload_n 1, 1) := by decide +kernel
theorem dX7_safe_38 : decode cX7_safe 38 = .ok (.ireturn, 1) := by decide +kernel
theorem dX7_keepPast_0 : decode cX7_keepPast 0 = .ok (.iconst 0, 1) := by decide +kernel
theorem dX7_keepPast_1 : decode cX7_keepPast 1 = .ok (.istore_n 1, 1) := by decide +kernel
theorem dX7_keepPast_2 : decode cX7_keepPast 2 = .ok (.iload_n 1, 1) := by decide +kernel
theorem dX7_keepPast_3 : decode cX7_keepPast 3 = .ok (.bipush 112, 2) := by decide +kernel
theorem dX7_keepPast_5 : decode cX7_keepPast 5 = .ok (.if_icmp .ge 36, 3) := by decide +kernel
theorem dX7_keepPast_8 : decode cX7_keepPast 8 = .ok (.aload_n 0, 1) := by decide +kernel
theorem dX7_keepPast_9 : decode cX7_keepPast 9 = .ok (.getfield 157, 3) := by decide +kernel
theorem dX7_keepPast_12 : decode cX7_keepPast 12 = .ok (.bipush 8, 2) := by decide +kernel
theorem dX7_keepPast_14 : decode cX7_keepPast 14 = .ok (.if_icmp .ne 27, 3) := by decide +kernel
theorem dX7_keepPast_17 : decode cX7_keepPast 17 = .ok (.aload_n 0, 1) := by decide +kernel
theorem dX7_keepPast_18 : decode cX7_keepPast 18 = .ok (.getfield 7, 3) := by decide +kernel
theorem dX7_keepPast_21 : decode cX7_keepPast 21 = .ok (.bipush 16, 2) := by decide +kernel
theorem dX7_keepPast_23 : decode cX7_keepPast 23 = .ok (.iload_n 1, 1) := by decide +kernel
theorem dX7_keepPast_24 : decode cX7_keepPast 24 = .ok (.iadd, 1) := by decide +kernel
theorem dX7_keepPast_25 : decode cX7_keepPast 25 = .ok (.aload_n 0, 1) := by decide +kernel
theorem dX7_keepPast_26 : decode cX7_keepPast 26 = .ok (.getfield 7, 3) := by decide +kernel
theorem dX7_keepPast_29 : decode cX7_keepPast 29 = .ok (.bipush 32, 2) := by decide +kernel
theorem dX7_keepPast_31 : decode cX7_keepPast 31 = .ok (.iload_n 1, 1) := by decide +kernel
theorem dX7_keepPast_32 : decode cX7_keepPast 32 = .ok (.iadd, 1) := by decide +kernel
theorem dX7_keepPast_33 : decode cX7_keepPast 33 = .ok (.iaload, 1) := by decide +kernel
theorem dX7_keepPast_34 : decode cX7_keepPast 34 = .ok (.iastore, 1) := by decide +kernel
theorem dX7_keepPast_35 : decode cX7_keepPast 35 = .ok (.iinc 1 1, 3) := by decide +kernel
theorem dX7_keepPast_38 : decode cX7_keepPast 38 = .ok (.goto (-36), 3) := by decide +kernel
theorem dX7_keepPast_41 : decode cX7_keepPast 41 = .ok (.aload_n 0, 1) := by decide +kernel
theorem dX7_keepPast_42 : decode cX7_keepPast 42 = .ok (.dup, 1) := by decide +kernel
theorem dX7_keepPast_43 : decode cX7_keepPast 43 = .ok (.getfield 157, 3) := by decide +kernel
theorem dX7_keepPast_46 : decode cX7_keepPast 46 = .ok (.aload_n 0, 1) := by decide +kernel
theorem dX7_keepPast_47 : decode cX7_keepPast 47 = .ok (.getfield 157, 3) := by decide +kernel
theorem dX7_keepPast_50 : decode cX7_keepPast 50 = .ok (.bipush 8, 2) := by decide +kernel
theorem dX7_keepPast_52 : decode cX7_keepPast 52 = .ok (.if_icmp .ne 7, 3) := by decide +kernel
theorem dX7_keepPast_55 : decode cX7_keepPast 55 = .ok (.iconst 1, 1) := by decide +kernel
theorem dX7_keepPast_56 : decode cX7_keepPast 56 = .ok (.goto 4, 3) := by decide +kernel
theorem dX7_keepPast_59 : decode cX7_keepPast 59 = .ok (.iconst 0, 1) := by decide +kernel
theorem dX7_keepPast_60 : decode cX7_keepPast 60 = .ok (.isub, 1) := by decide +kernel
theorem dX7_keepPast_61 : decode cX7_keepPast 61 = .ok (.putfield 157, 3) := by decide +kernel
theorem dX7_keepPast_64 : decode cX7_keepPast 64 = .ok (.aload_n 0, 1) := by decide +kernel
theorem dX7_keepPast_65 : decode cX7_keepPast 65 = .ok (.iconst 0, 1) := by decide +kernel
theorem dX7_keepPast_66 : decode cX7_keepPast 66 = .ok (.bipush 16, 2) := by decide +kernel
theorem dX7_keepPast_68 : decode cX7_keepPast 68 = .ok (.bipush 16, 2) := by decide +kernel
theorem dX7_keepPast_70 : decode cX7_keepPast 70 = .ok (.aload_n 0, 1) := by decide +kernel
theorem dX7_keepPast_71 : decode cX7_keepPast 71 = .ok (.getfield 157, 3) := by decide +kernel
theorem dX7_keepPast_74 : decode cX7_keepPast 74 = .ok (.imul, 1) := by decide +kernel
theorem dX7_keepPast_75 : decode cX7_keepPast 75 = .ok (.iadd, 1) := by decide +kernel
theorem dX7_keepPast_76 : decode cX7_keepPast 76 = .ok (.invokevirtual 201, 3) := by decide +kernel
theorem dX7_keepPast_79 : decode cX7_keepPast 79 = .ok (.aload_n 0, 1) := by decide +kernel
theorem dX7_keepPast_80 : decode cX7_keepPast 80 = .ok (.dup, 1) := by decide +kernel
theorem dX7_keepPast_81 : decode cX7_keepPast 81 = .ok (.getfield 157, 3) := by decide +kernel
theorem dX7_keepPast_84 : decode cX7_keepPast 84 = .ok (.iconst 1, 1) := by decide +kernel
theorem dX7_keepPast_85 : decode cX7_keepPast 85 = .ok (.iadd, 1) := by decide +kernel
theorem dX7_keepPast_86 : decode cX7_keepPast 86 = .ok (.putfield 157, 3) := by decide +kernel
theorem dX7_keepPast_89 : decode cX7_keepPast 89 = .ok (.return_, 1) := by decide +kernel
theorem dX7_step_0 : decode cX7_step 0 = .ok (.iload_n 1, 1) := by decide +kernel
theorem dX7_step_1 : decode cX7_step 1 = .ok (.i2l, 1) := by decide +kernel
theorem dX7_step_2 : decode cX7_step 2 = .ok (.lconst 1, 1) := by decide +kernel
theorem dX7_step_3 : decode cX7_step 3 = .ok (.ldc2_w 205, 3) := by decide +kernel
theorem dX7_step_6 : decode cX7_step 6 = .ok (.invokestatic 64, 3) := by decide +kernel
theorem dX7_step_9 : decode cX7_step 9 = .ok (.ifCond .ne 6, 3) := by decide +kernel
theorem dX7_step_12 : decode cX7_step 12 = .ok (.ldc 68, 2) := by decide +kernel
theorem dX7_step_14 : decode cX7_step 14 = .ok (.ireturn, 1) := by decide +kernel
theorem dX7_step_15 : decode cX7_step 15 = .ok (.aload_n 0, 1) := by decide +kernel
theorem dX7_step_16 : decode cX7_step 16 = .ok (.getfield 126, 3) := by decide +kernel
theorem dX7_step_19 : decode cX7_step 19 = .ok (.ifCond .ne 6, 3) := by decide +kernel
theorem dX7_step_22 : decode cX7_step 22 = .ok (.ldc 156, 2) := by decide +kernel
theorem dX7_step_24 : decode cX7_step 24 = .ok (.ireturn, 1) := by decide +kernel
theorem dX7_step_25 : decode cX7_step 25 = .ok (.aload_n 0, 1) := by decide +kernel
theorem dX7_step_26 : decode cX7_step 26 = .ok (.invokevirtual 207, 3) := by decide +kernel
theorem dX7_step_29 : decode cX7_step 29 = .ok (.iconst 0, 1) := by decide +kernel
theorem dX7_step_30 : decode cX7_step 30 = .ok (.istore_n 2, 1) := by decide +kernel
theorem dX7_step_31 : decode cX7_step 31 = .ok (.iload_n 2, 1) := by decide +kernel
theorem dX7_step_32 : decode cX7_step 32 = .ok (.iload_n 1, 1) := by decide +kernel
theorem dX7_step_33 : decode cX7_step 33 = .ok (.if_icmp .ge 17, 3) := by decide +kernel
theorem dX7_step_36 : decode cX7_step 36 = .ok (.aload_n 0, 1) := by decide +kernel
theorem dX7_step_37 : decode cX7_step 37 = .ok (.iconst 0, 1) := by decide +kernel
theorem dX7_step_38 : decode cX7_step 38 = .ok (.invokevirtual 210, 3) := by decide +kernel
theorem dX7_step_41 : decode cX7_step 41 = .ok (.ifCond .eq 9, 3) := by decide +kernel
theorem dX7_step_44 : decode cX7_step 44 = .ok (.iinc 2 1, 3) := by decide +kernel
theorem dX7_step_47 : decode cX7_step 47 = .ok (.goto (-16), 3) := by decide +kernel
theorem dX7_step_50 : decode cX7_step 50 = .ok (.iload_n 2, 1) := by decide +kernel
theorem dX7_step_51 : decode cX7_step 51 = .ok (.ireturn, 1) := by decide +kernel
theorem dX7_heat_0 : decode cX7_heat 0 = .ok (.aload_n 0, 1) := by decide +kernel
theorem dX7_heat_1 : decode cX7_heat 1 = .ok (.iload_n 1, 1) := by decide +kernel
theorem dX7_heat_2 : decode cX7_heat 2 = .ok (.invokevirtual 172, 3) := by decide +kernel
theorem dX7_heat_5 : decode cX7_heat 5 = .ok (.ifCond .ne 6, 3) := by decide +kernel
theorem dX7_heat_8 : decode cX7_heat 8 = .ok (.ldc 167, 2) := by decide +kernel
theorem dX7_heat_10 : decode cX7_heat 10 = .ok (.ireturn, 1) := by decide +kernel
theorem dX7_heat_11 : decode cX7_heat 11 = .ok (.iload_n 2, 1) := by decide +kernel
theorem dX7_heat_12 : decode cX7_heat 12 = .ok (.i2l, 1) := by decide +kernel
theorem dX7_heat_13 : decode cX7_heat 13 = .ok (.ldc2_w 213, 3) := by decide +kernel
theorem dX7_heat_16 : decode cX7_heat 16 = .ok (.ldc2_w 215, 3) := by decide +kernel
theorem dX7_heat_19 : decode cX7_heat 19 = .ok (.invokestatic 64, 3) := by decide +kernel
theorem dX7_heat_22 : decode cX7_heat 22 = .ok (.ifCond .ne 6, 3) := by decide +kernel
theorem dX7_heat_25 : decode cX7_heat 25 = .ok (.ldc 68, 2) := by decide +kernel
theorem dX7_heat_27 : decode cX7_heat 27 = .ok (.ireturn, 1) := by decide +kernel
theorem dX7_heat_28 : decode cX7_heat 28 = .ok (.aload_n 0, 1) := by decide +kernel
theorem dX7_heat_29 : decode cX7_heat 29 = .ok (.getfield 7, 3) := by decide +kernel
theorem dX7_heat_32 : decode cX7_heat 32 = .ok (.iconst 0, 1) := by decide +kernel
theorem dX7_heat_33 : decode cX7_heat 33 = .ok (.iload_n 1, 1) := by decide +kernel
theorem dX7_heat_34 : decode cX7_heat 34 = .ok (.iadd, 1) := by decide +kernel
theorem dX7_heat_35 : decode cX7_heat 35 = .ok (.iaload, 1) := by decide +kernel
theorem dX7_heat_36 : decode cX7_heat 36 = .ok (.iload_n 2, 1) := by decide +kernel
theorem dX7_heat_37 : decode cX7_heat 37 = .ok (.iadd, 1) := by decide +kernel
theorem dX7_heat_38 : decode cX7_heat 38 = .ok (.istore_n 3, 1) := by decide +kernel
theorem dX7_heat_39 : decode cX7_heat 39 = .ok (.iload_n 3, 1) := by decide +kernel
theorem dX7_heat_40 : decode cX7_heat 40 = .ok (.i2l, 1) := by decide +kernel
theorem dX7_heat_41 : decode cX7_heat 41 = .ok (.lconst 0, 1) := by decide +kernel
theorem dX7_heat_42 : decode cX7_heat 42 = .ok (.ldc2_w 196, 3) := by decide +kernel
theorem dX7_heat_45 : decode cX7_heat 45 = .ok (.invokestatic 64, 3) := by decide +kernel
theorem dX7_heat_48 : decode cX7_heat 48 = .ok (.ifCond .ne 6, 3) := by decide +kernel
theorem dX7_heat_51 : decode cX7_heat 51 = .ok (.ldc 156, 2) := by decide +kernel
theorem dX7_heat_53 : decode cX7_heat 53 = .ok (.ireturn, 1) := by decide +kernel
theorem dX7_heat_54 : decode cX7_heat 54 = .ok (.aload_n 0, 1) := by decide +kernel
theorem dX7_heat_55 : decode cX7_heat 55 = .ok (.invokevirtual 207, 3) := by decide +kernel
theorem dX7_heat_58 : decode cX7_heat 58 = .ok (.aload_n 0, 1) := by decide +kernel
theorem dX7_heat_59 : decode cX7_heat 59 = .ok (.getfield 7, 3) := by decide +kernel
theorem dX7_heat_62 : decode cX7_heat 62 = .ok (.iconst 0, 1) := by decide +kernel
theorem dX7_heat_63 : decode cX7_heat 63 = .ok (.iload_n 1, 1) := by decide +kernel
theorem dX7_heat_64 : decode cX7_heat 64 = .ok (.iadd, 1) := by decide +kernel
theorem dX7_heat_65 : decode cX7_heat 65 = .ok (.iload_n 3, 1) := by decide +kernel
theorem dX7_heat_66 : decode cX7_heat 66 = .ok (.iastore, 1) := by decide +kernel
theorem dX7_heat_67 : decode cX7_heat 67 = .ok (.iload_n 3, 1) := by decide +kernel
theorem dX7_heat_68 : decode cX7_heat 68 = .ok (.ireturn, 1) := by decide +kernel
theorem dX7_air_0 : decode cX7_air 0 = .ok (.iload_n 1, 1) := by decide +kernel
theorem dX7_air_1 : decode cX7_air 1 = .ok (.i2l, 1) := by decide +kernel
theorem dX7_air_2 : decode cX7_air 2 = .ok (.lconst 0, 1) := by decide +kernel
theorem dX7_air_3 : decode cX7_air 3 = .ok (.lconst 1, 1) := by decide +kernel
theorem dX7_air_4 : decode cX7_air 4 = .ok (.invokestatic 64, 3) := by decide +kernel
theorem dX7_air_7 : decode cX7_air 7 = .ok (.ifCond .eq 15, 3) := by decide +kernel
theorem dX7_air_10 : decode cX7_air 10 = .ok (.iload_n 2, 1) := by decide +kernel
theorem dX7_air_11 : decode cX7_air 11 = .ok (.i2l, 1) := by decide +kernel
theorem dX7_air_12 : decode cX7_air 12 = .ok (.lconst 0, 1) := by decide +kernel
theorem dX7_air_13 : decode cX7_air 13 = .ok (.ldc2_w 217, 3) := by decide +kernel
theorem dX7_air_16 : decode cX7_air 16 = .ok (.invokestatic 64, 3) := by decide +kernel
theorem dX7_air_19 : decode cX7_air 19 = .ok (.ifCond .ne 6, 3) := by decide +kernel
theorem dX7_air_22 : decode cX7_air 22 = .ok (.ldc 68, 2) := by decide +kernel
theorem dX7_air_24 : decode cX7_air 24 = .ok (.ireturn, 1) := by decide +kernel
theorem dX7_air_25 : decode cX7_air 25 = .ok (.aload_n 0, 1) := by decide +kernel
theorem dX7_air_26 : decode cX7_air 26 = .ok (.invokevirtual 207, 3) := by decide +kernel
theorem dX7_air_29 : decode cX7_air 29 = .ok (.aload_n 0, 1) := by decide +kernel
theorem dX7_air_30 : decode cX7_air 30 = .ok (.getfield 7, 3) := by decide +kernel
theorem dX7_air_33 : decode cX7_air 33 = .ok (.bipush 10, 2) := by decide +kernel
theorem dX7_air_35 : decode cX7_air 35 = .ok (.iload_n 1, 1) := by decide +kernel
theorem dX7_air_36 : decode cX7_air 36 = .ok (.iadd, 1) := by decide +kernel
theorem dX7_air_37 : decode cX7_air 37 = .ok (.iaload, 1) := by decide +kernel
theorem dX7_air_38 : decode cX7_air 38 = .ok (.istore_n 3, 1) := by decide +kernel
theorem dX7_air_39 : decode cX7_air 39 = .ok (.aload_n 0, 1) := by decide +kernel
theorem dX7_air_40 : decode cX7_air 40 = .ok (.getfield 7, 3) := by decide +kernel
theorem dX7_air_43 : decode cX7_air 43 = .ok (.bipush 10, 2) := by decide +kernel
theorem dX7_air_45 : decode cX7_air 45 = .ok (.iload_n 1, 1) := by decide +kernel
theorem dX7_air_46 : decode cX7_air 46 = .ok (.iadd, 1) := by decide +kernel
theorem dX7_air_47 : decode cX7_air 47 = .ok (.iload_n 2, 1) := by decide +kernel
theorem dX7_air_48 : decode cX7_air 48 = .ok (.iastore, 1) := by decide +kernel
theorem dX7_air_49 : decode cX7_air 49 = .ok (.iload_n 3, 1) := by decide +kernel
theorem dX7_air_50 : decode cX7_air 50 = .ok (.ireturn, 1) := by decide +kernel
theorem dX7_pace_0 : decode cX7_pace 0 = .ok (.iload_n 1, 1) := by decide +kernel
theorem dX7_pace_1 : decode cX7_pace 1 = .ok (.i2l, 1) := by decide +kernel
theorem dX7_pace_2 : decode cX7_pace 2 = .ok (.lconst 1, 1) := by decide +kernel
theorem dX7_pace_3 : decode cX7_pace 3 = .ok (.ldc2_w 217, 3) := by decide +kernel
theorem dX7_pace_6 : decode cX7_pace 6 = .ok (.invokestatic 64, 3) := by decide +kernel
theorem dX7_pace_9 : decode cX7_pace 9 = .ok (.ifCond .ne 6, 3) := by decide +kernel
theorem dX7_pace_12 : decode cX7_pace 12 = .ok (.ldc 68, 2) := by decide +kernel
theorem dX7_pace_14 : decode cX7_pace 14 = .ok (.ireturn, 1) := by decide +kernel
theorem dX7_pace_15 : decode cX7_pace 15 = .ok (.aload_n 0, 1) := by decide +kernel
theorem dX7_pace_16 : decode cX7_pace 16 = .ok (.invokevirtual 207, 3) := by decide +kernel
theorem dX7_pace_19 : decode cX7_pace 19 = .ok (.aload_n 0, 1) := by decide +kernel
theorem dX7_pace_20 : decode cX7_pace 20 = .ok (.getfield 7, 3) := by decide +kernel
theorem dX7_pace_23 : decode cX7_pace 23 = .ok (.bipush 12, 2) := by decide +kernel
theorem dX7_pace_25 : decode cX7_pace 25 = .ok (.iload_n 1, 1) := by decide +kernel
theorem dX7_pace_26 : decode cX7_pace 26 = .ok (.iastore, 1) := by decide +kernel
theorem dX7_pace_27 : decode cX7_pace 27 = .ok (.aload_n 0, 1) := by decide +kernel
theorem dX7_pace_28 : decode cX7_pace 28 = .ok (.invokevirtual 219, 3) := by decide +kernel
theorem dX7_pace_31 : decode cX7_pace 31 = .ok (.ireturn, 1) := by decide +kernel
theorem dX7_undo_0 : decode cX7_undo 0 = .ok (.aload_n 0, 1) := by decide +kernel
theorem dX7_undo_1 : decode cX7_undo 1 = .ok (.getfield 157, 3) := by decide +kernel
theorem dX7_undo_4 : decode cX7_undo 4 = .ok (.ifCond .ne 6, 3) := by decide +kernel
theorem dX7_undo_7 : decode cX7_undo 7 = .ok (.ldc 156, 2) := by decide +kernel
theorem dX7_undo_9 : decode cX7_undo 9 = .ok (.ireturn, 1) := by decide +kernel
theorem dX7_undo_10 : decode cX7_undo 10 = .ok (.aload_n 0, 1) := by decide +kernel
theorem dX7_undo_11 : decode cX7_undo 11 = .ok (.dup, 1) := by decide +kernel
theorem dX7_undo_12 : decode cX7_undo 12 = .ok (.getfield 157, 3) := by decide +kernel
theorem dX7_undo_15 : decode cX7_undo 15 = .ok (.iconst 1, 1) := by decide +kernel
theorem dX7_undo_16 : decode cX7_undo 16 = .ok (.isub, 1) := by decide +kernel
theorem dX7_undo_17 : decode cX7_undo 17 = .ok (.putfield 157, 3) := by decide +kernel
theorem dX7_undo_20 : decode cX7_undo 20 = .ok (.aload_n 0, 1) := by decide +kernel
theorem dX7_undo_21 : decode cX7_undo 21 = .ok (.bipush 16, 2) := by decide +kernel
theorem dX7_undo_23 : decode cX7_undo 23 = .ok (.bipush 16, 2) := by decide +kernel
theorem dX7_undo_25 : decode cX7_undo 25 = .ok (.aload_n 0, 1) := by decide +kernel
theorem dX7_undo_26 : decode cX7_undo 26 = .ok (.getfield 157, 3) := by decide +kernel
theorem dX7_undo_29 : decode cX7_undo 29 = .ok (.imul, 1) := by decide +kernel
theorem dX7_undo_30 : decode cX7_undo 30 = .ok (.iadd, 1) := by decide +kernel
theorem dX7_undo_31 : decode cX7_undo 31 = .ok (.iconst 0, 1) := by decide +kernel
theorem dX7_undo_32 : decode cX7_undo 32 = .ok (.invokevirtual 201, 3) := by decide +kernel
theorem dX7_undo_35 : decode cX7_undo 35 = .ok (.aload_n 0, 1) := by decide +kernel
theorem dX7_undo_36 : decode cX7_undo 36 = .ok (.getfield 157, 3) := by decide +kernel
theorem dX7_undo_39 : decode cX7_undo 39 = .ok (.ireturn, 1) := by decide +kernel
theorem dX7_keep_0 : decode cX7_keep 0 = .ok (.iload_n 1, 1) := by decide +kernel
theorem dX7_keep_1 : decode cX7_keep 1 = .ok (.i2l, 1) := by decide +kernel
theorem dX7_keep_2 : decode cX7_keep 2 = .ok (.lconst 0, 1) := by decide +kernel
theorem dX7_keep_3 : decode cX7_keep 3 = .ok (.lconst 1, 1) := by decide +kernel
theorem dX7_keep_4 : decode cX7_keep 4 = .ok (.invokestatic 64, 3) := by decide +kernel
theorem dX7_keep_7 : decode cX7_keep 7 = .ok (.ifCond .ne 6, 3) := by decide +kernel
theorem dX7_keep_10 : decode cX7_keep 10 = .ok (.ldc 167, 2) := by decide +kernel
theorem dX7_keep_12 : decode cX7_keep 12 = .ok (.ireturn, 1) := by decide +kernel
theorem dX7_keep_13 : decode cX7_keep 13 = .ok (.aload_n 0, 1) := by decide +kernel
theorem dX7_keep_14 : decode cX7_keep 14 = .ok (.iconst 0, 1) := by decide +kernel
theorem dX7_keep_15 : decode cX7_keep 15 = .ok (.sipush 144, 3) := by decide +kernel
theorem dX7_keep_18 : decode cX7_keep 18 = .ok (.bipush 16, 2) := by decide +kernel
theorem dX7_keep_20 : decode cX7_keep 20 = .ok (.iload_n 1, 1) := by decide +kernel
theorem dX7_keep_21 : decode cX7_keep 21 = .ok (.imul, 1) := by decide +kernel
theorem dX7_keep_22 : decode cX7_keep 22 = .ok (.iadd, 1) := by decide +kernel
theorem dX7_keep_23 : decode cX7_keep 23 = .ok (.invokevirtual 201, 3) := by decide +kernel
theorem dX7_keep_26 : decode cX7_keep 26 = .ok (.aload_n 0, 1) := by decide +kernel
theorem dX7_keep_27 : decode cX7_keep 27 = .ok (.getfield 28, 3) := by decide +kernel
theorem dX7_keep_30 : decode cX7_keep 30 = .ok (.iload_n 1, 1) := by decide +kernel
theorem dX7_keep_31 : decode cX7_keep 31 = .ok (.iconst 1, 1) := by decide +kernel
theorem dX7_keep_32 : decode cX7_keep 32 = .ok (.bastore, 1) := by decide +kernel
theorem dX7_keep_33 : decode cX7_keep 33 = .ok (.aload_n 0, 1) := by decide +kernel
theorem dX7_keep_34 : decode cX7_keep 34 = .ok (.invokevirtual 222, 3) := by decide +kernel
theorem dX7_keep_37 : decode cX7_keep 37 = .ok (.ireturn, 1) := by decide +kernel
theorem dX7_back_0 : decode cX7_back 0 = .ok (.iload_n 1, 1) := by decide +kernel
theorem dX7_back_1 : decode cX7_back 1 = .ok (.i2l, 1) := by decide +kernel
theorem dX7_back_2 : decode cX7_back 2 = .ok (.lconst 0, 1) := by decide +kernel
theorem dX7_back_3 : decode cX7_back 3 = .ok (.lconst 1, 1) := by decide +kernel
theorem dX7_back_4 : decode cX7_back 4 = .ok (.invokestatic 64, 3) := by decide +kernel
theorem dX7_back_7 : decode cX7_back 7 = .ok (.ifCond .ne 6, 3) := by decide +kernel
theorem dX7_back_10 : decode cX7_back 10 = .ok (.ldc 167, 2) := by decide +kernel
theorem dX7_back_12 : decode cX7_back 12 = .ok (.ireturn, 1) := by decide +kernel
theorem dX7_back_13 : decode cX7_back 13 = .ok (.aload_n 0, 1) := by decide +kernel
theorem dX7_back_14 : decode cX7_back 14 = .ok (.getfield 28, 3) := by decide +kernel
theorem dX7_back_17 : decode cX7_back 17 = .ok (.iload_n 1, 1) := by decide +kernel
theorem dX7_back_18 : decode cX7_back 18 = .ok (.baload, 1) := by decide +kernel
theorem dX7_back_19 : decode cX7_back 19 = .ok (.ifCond .ne 6, 3) := by decide +kernel
theorem dX7_back_22 : decode cX7_back 22 = .ok (.ldc 156, 2) := by decide +kernel
theorem dX7_back_24 : decode cX7_back 24 = .ok (.ireturn, 1) := by decide +kernel
theorem dX7_back_25 : decode cX7_back 25 = .ok (.aload_n 0, 1) := by decide +kernel
theorem dX7_back_26 : decode cX7_back 26 = .ok (.sipush 144, 3) := by decide +kernel
theorem dX7_back_29 : decode cX7_back 29 = .ok (.bipush 16, 2) := by decide +kernel
theorem dX7_back_31 : decode cX7_back 31 = .ok (.iload_n 1, 1) := by decide +kernel
theorem dX7_back_32 : decode cX7_back 32 = .ok (.imul, 1) := by decide +kernel
theorem dX7_back_33 : decode cX7_back 33 = .ok (.iadd, 1) := by decide +kernel
theorem dX7_back_34 : decode cX7_back 34 = .ok (.iconst 0, 1) := by decide +kernel
theorem dX7_back_35 : decode cX7_back 35 = .ok (.invokevirtual 201, 3) := by decide +kernel
theorem dX7_back_38 : decode cX7_back 38 = .ok (.aload_n 0, 1) := by decide +kernel
theorem dX7_back_39 : decode cX7_back 39 = .ok (.iconst 0, 1) := by decide +kernel
theorem dX7_back_40 : decode cX7_back 40 = .ok (.putfield 157, 3) := by decide +kernel
theorem dX7_back_43 : decode cX7_back 43 = .ok (.aload_n 0, 1) := by decide +kernel
theorem dX7_back_44 : decode cX7_back 44 = .ok (.invokevirtual 222, 3) := by decide +kernel
theorem dX7_back_47 : decode cX7_back 47 = .ok (.ireturn, 1) := by decide +kernel
theorem dX7_flow_0 : decode cX7_flow 0 = .ok (.iload_n 1, 1) := by decide +kernel
theorem dX7_flow_1 : decode cX7_flow 1 = .ok (.i2l, 1) := by decide +kernel
theorem dX7_flow_2 : decode cX7_flow 2 = .ok (.lconst 0, 1) := by decide +kernel
theorem dX7_flow_3 : decode cX7_flow 3 = .ok (.aload_n 0, 1) := by decide +kernel
theorem dX7_flow_4 : decode cX7_flow 4 = .ok (.getfield 126, 3) := by decide +kernel
theorem dX7_flow_7 : decode cX7_flow 7 = .ok (.i2l, 1) := by decide +kernel
theorem dX7_flow_8 : decode cX7_flow 8 = .ok (.invokestatic 64, 3) := by decide +kernel
theorem dX7_flow_11 : decode cX7_flow 11 = .ok (.ifCond .ne 8, 3) := by decide +kernel
theorem dX7_flow_14 : decode cX7_flow 14 = .ok (.ldc 68, 2) := by decide +kernel
theorem dX7_flow_16 : decode cX7_flow 16 = .ok (.goto 21, 3) := by decide +kernel
theorem dX7_flow_19 : decode cX7_flow 19 = .ok (.aload_n 0, 1) := by decide +kernel
theorem dX7_flow_20 : decode cX7_flow 20 = .ok (.getfield 126, 3) := by decide +kernel
theorem dX7_flow_23 : decode cX7_flow 23 = .ok (.ifCond .ne 8, 3) := by decide +kernel
theorem dX7_flow_26 : decode cX7_flow 26 = .ok (.ldc 156, 2) := by decide +kernel
theorem dX7_flow_28 : decode cX7_flow 28 = .ok (.goto 9, 3) := by decide +kernel
theorem dX7_flow_31 : decode cX7_flow 31 = .ok (.aload_n 0, 1) := by decide +kernel
theorem dX7_flow_32 : decode cX7_flow 32 = .ok (.iconst 0, 1) := by decide +kernel
theorem dX7_flow_33 : decode cX7_flow 33 = .ok (.iload_n 1, 1) := by decide +kernel
theorem dX7_flow_34 : decode cX7_flow 34 = .ok (.invokevirtual 193, 3) := by decide +kernel
theorem dX7_flow_37 : decode cX7_flow 37 = .ok (.ireturn, 1) := by decide +kernel
theorem dX7_until_0 : decode cX7_until 0 = .ok (.aload_n 0, 1) := by decide +kernel
theorem dX7_until_1 : decode cX7_until 1 = .ok (.iload_n 1, 1) := by decide +kernel
theorem dX7_until_2 : decode cX7_until 2 = .ok (.invokevirtual 172, 3) := by decide +kernel
theorem dX7_until_5 : decode cX7_until 5 = .ok (.ifCond .ne 6, 3) := by decide +kernel
theorem dX7_until_8 : decode cX7_until 8 = .ok (.ldc 167, 2) := by decide +kernel
theorem dX7_until_10 : decode cX7_until 10 = .ok (.ireturn, 1) := by decide +kernel
theorem dX7_until_11 : decode cX7_until 11 = .ok (.iload_n 2, 1) := by decide +kernel
theorem dX7_until_12 : decode cX7_until 12 = .ok (.i2l, 1) := by decide +kernel
theorem dX7_until_13 : decode cX7_until 13 = .ok (.lconst 0, 1) := by decide +kernel
theorem dX7_until_14 : decode cX7_until 14 = .ok (.ldc2_w 217, 3) := by decide +kernel
theorem dX7_until_17 : decode cX7_until 17 = .ok (.invokestatic 64, 3) := by decide +kernel
theorem dX7_until_20 : decode cX7_until 20 = .ok (.ifCond .ne 6, 3) := by decide +kernel
theorem dX7_until_23 : decode cX7_until 23 = .ok (.ldc 68, 2) := by decide +kernel
theorem dX7_until_25 : decode cX7_until 25 = .ok (.ireturn, 1) := by decide +kernel
theorem dX7_until_26 : decode cX7_until 26 = .ok (.aload_n 0, 1) := by decide +kernel
theorem dX7_until_27 : decode cX7_until 27 = .ok (.iconst 0, 1) := by decide +kernel
theorem dX7_until_28 : decode cX7_until 28 = .ok (.sipush 176, 3) := by decide +kernel
theorem dX7_until_31 : decode cX7_until 31 = .ok (.invokevirtual 201, 3) := by decide +kernel
theorem dX7_until_34 : decode cX7_until 34 = .ok (.iconst 0, 1) := by decide +kernel
theorem dX7_until_35 : decode cX7_until 35 = .ok (.istore_n 3, 1) := by decide +kernel
theorem dX7_until_36 : decode cX7_until 36 = .ok (.iconst 1, 1) := by decide +kernel
theorem dX7_until_37 : decode cX7_until 37 = .ok (.istore 4, 2) := by decide +kernel
theorem dX7_until_39 : decode cX7_until 39 = .ok (.iload 4, 2) := by decide +kernel
theorem dX7_until_41 : decode cX7_until 41 = .ok (.ifCond .eq 45, 3) := by decide +kernel
theorem dX7_until_44 : decode cX7_until 44 = .ok (.iload_n 3, 1) := by decide +kernel
theorem dX7_until_45 : decode cX7_until 45 = .ok (.sipush 200, 3) := by decide +kernel
theorem dX7_until_48 : decode cX7_until 48 = .ok (.if_icmp .ge 38, 3) := by decide +kernel
theorem dX7_until_51 : decode cX7_until 51 = .ok (.aload_n 0, 1) := by decide +kernel
theorem dX7_until_52 : decode cX7_until 52 = .ok (.getfield 7, 3) := by decide +kernel
theorem dX7_until_55 : decode cX7_until 55 = .ok (.sipush 176, 3) := by decide +kernel
theorem dX7_until_58 : decode cX7_until 58 = .ok (.iload_n 1, 1) := by decide +kernel
theorem dX7_until_59 : decode cX7_until 59 = .ok (.iadd, 1) := by decide +kernel
theorem dX7_until_60 : decode cX7_until 60 = .ok (.iaload, 1) := by decide +kernel
theorem dX7_until_61 : decode cX7_until 61 = .ok (.iload_n 2, 1) := by decide +kernel
theorem dX7_until_62 : decode cX7_until 62 = .ok (.aload_n 0, 1) := by decide +kernel
theorem dX7_until_63 : decode cX7_until 63 = .ok (.iload_n 1, 1) := by decide +kernel
theorem dX7_until_64 : decode cX7_until 64 = .ok (.invokevirtual 175, 3) := by decide +kernel
theorem dX7_until_67 : decode cX7_until 67 = .ok (.imul, 1) := by decide +kernel
theorem dX7_until_68 : decode cX7_until 68 = .ok (.if_icmp .ge 18, 3) := by decide +kernel
theorem dX7_until_71 : decode cX7_until 71 = .ok (.aload_n 0, 1) := by decide +kernel
theorem dX7_until_72 : decode cX7_until 72 = .ok (.sipush 176, 3) := by decide +kernel
theorem dX7_until_75 : decode cX7_until 75 = .ok (.invokevirtual 210, 3) := by decide +kernel
theorem dX7_until_78 : decode cX7_until 78 = .ok (.istore 4, 2) := by decide +kernel
theorem dX7_until_80 : decode cX7_until 80 = .ok (.iinc 3 1, 3) := by decide +kernel
theorem dX7_until_83 : decode cX7_until 83 = .ok (.goto (-44), 3) := by decide +kernel
theorem dX7_until_86 : decode cX7_until 86 = .ok (.iload 4, 2) := by decide +kernel
theorem dX7_until_88 : decode cX7_until 88 = .ok (.ifCond .eq 27, 3) := by decide +kernel
theorem dX7_until_91 : decode cX7_until 91 = .ok (.aload_n 0, 1) := by decide +kernel
theorem dX7_until_92 : decode cX7_until 92 = .ok (.getfield 7, 3) := by decide +kernel
theorem dX7_until_95 : decode cX7_until 95 = .ok (.sipush 176, 3) := by decide +kernel
theorem dX7_until_98 : decode cX7_until 98 = .ok (.iload_n 1, 1) := by decide +kernel
theorem dX7_until_99 : decode cX7_until 99 = .ok (.iadd, 1) := by decide +kernel
theorem dX7_until_100 : decode cX7_until 100 = .ok (.iaload, 1) := by decide +kernel
theorem dX7_until_101 : decode cX7_until 101 = .ok (.iload_n 2, 1) := by decide +kernel
theorem dX7_until_102 : decode cX7_until 102 = .ok (.aload_n 0, 1) := by decide +kernel
theorem dX7_until_103 : decode cX7_until 103 = .ok (.iload_n 1, 1) := by decide +kernel
theorem dX7_until_104 : decode cX7_until 104 = .ok (.invokevirtual 175, 3) := by decide +kernel
theorem dX7_until_107 : decode cX7_until 107 = .ok (.imul, 1) := by decide +kernel
theorem dX7_until_108 : decode cX7_until 108 = .ok (.if_icmp .lt 7, 3) := by decide +kernel
theorem dX7_until_111 : decode cX7_until 111 = .ok (.iload_n 3, 1) := by decide +kernel
theorem dX7_until_112 : decode cX7_until 112 = .ok (.goto 4, 3) := by decide +kernel
theorem dX7_until_115 : decode cX7_until 115 = .ok (.iconst (-1), 1) := by decide +kernel
theorem dX7_until_116 : decode cX7_until 116 = .ok (.ireturn, 1) := by decide +kernel
theorem dX7_resistance_0 : decode cX7_resistance 0 = .ok (.lconst 0, 1) := by decide +kernel
theorem dX7_resistance_1 : decode cX7_resistance 1 = .ok (.lstore_n 3, 1) := by decide +kernel
theorem dX7_resistance_2 : decode cX7_resistance 2 = .ok (.iconst 0, 1) := by decide +kernel
theorem dX7_resistance_3 : decode cX7_resistance 3 = .ok (.istore 5, 2) := by decide +kernel
theorem dX7_resistance_5 : decode cX7_resistance 5 = .ok (.iload 5, 2) := by decide +kernel
theorem dX7_resistance_7 : decode cX7_resistance 7 = .ok (.aload_n 0, 1) := by decide +kernel
theorem dX7_resistance_8 : decode cX7_resistance 8 = .ok (.getfield 126, 3) := by decide +kernel
theorem dX7_resistance_11 : decode cX7_resistance 11 = .ok (.if_icmp .ge 39, 3) := by decide +kernel
theorem dX7_resistance_14 : decode cX7_resistance 14 = .ok (.lload_n 3, 1) := by decide +kernel
theorem dX7_resistance_15 : decode cX7_resistance 15 = .ok (.ldc2_w 225, 3) := by decide +kernel
theorem dX7_resistance_18 : decode cX7_resistance 18 = .ok (.aload_n 0, 1) := by decide +kernel
theorem dX7_resistance_19 : decode cX7_resistance 19 = .ok (.getfield 13, 3) := by decide +kernel
theorem dX7_resistance_22 : decode cX7_resistance 22 = .ok (.iload 5, 2) := by decide +kernel
theorem dX7_resistance_24 : decode cX7_resistance 24 = .ok (.iload_n 1, 1) := by decide +kernel
theorem dX7_resistance_25 : decode cX7_resistance 25 = .ok (.if_icmp .ne 7, 3) := by decide +kernel
theorem dX7_resistance_28 : decode cX7_resistance 28 = .ok (.iload_n 2, 1) := by decide +kernel
theorem dX7_resistance_29 : decode cX7_resistance 29 = .ok (.goto 10, 3) := by decide +kernel
theorem dX7_resistance_32 : decode cX7_resistance 32 = .ok (.aload_n 0, 1) := by decide +kernel
theorem dX7_resistance_33 : decode cX7_resistance 33 = .ok (.getfield 25, 3) := by decide +kernel
theorem dX7_resistance_36 : decode cX7_resistance 36 = .ok (.iload 5, 2) := by decide +kernel
theorem dX7_resistance_38 : decode cX7_resistance 38 = .ok (.iaload, 1) := by decide +kernel
theorem dX7_resistance_39 : decode cX7_resistance 39 = .ok (.iaload, 1) := by decide +kernel
theorem dX7_resistance_40 : decode cX7_resistance 40 = .ok (.i2l, 1) := by decide +kernel
theorem dX7_resistance_41 : decode cX7_resistance 41 = .ok (.ldiv, 1) := by decide +kernel
theorem dX7_resistance_42 : decode cX7_resistance 42 = .ok (.ladd, 1) := by decide +kernel
theorem dX7_resistance_43 : decode cX7_resistance 43 = .ok (.lstore_n 3, 1) := by decide +kernel
theorem dX7_resistance_44 : decode cX7_resistance 44 = .ok (.iinc 5 1, 3) := by decide +kernel
theorem dX7_resistance_47 : decode cX7_resistance 47 = .ok (.goto (-42), 3) := by decide +kernel
theorem dX7_resistance_50 : decode cX7_resistance 50 = .ok (.lload_n 3, 1) := by decide +kernel
theorem dX7_resistance_51 : decode cX7_resistance 51 = .ok (.lreturn, 1) := by decide +kernel
theorem dX7_resists_0 : decode cX7_resists 0 = .ok (.iload_n 1, 1) := by decide +kernel
theorem dX7_resists_1 : decode cX7_resists 1 = .ok (.i2l, 1) := by decide +kernel
theorem dX7_resists_2 : decode cX7_resists 2 = .ok (.lconst 0, 1) := by decide +kernel
theorem dX7_resists_3 : decode cX7_resists 3 = .ok (.lconst 1, 1) := by decide +kernel
theorem dX7_resists_4 : decode cX7_resists 4 = .ok (.invokestatic 64, 3) := by decide +kernel
theorem dX7_resists_7 : decode cX7_resists 7 = .ok (.ifCond .ne 6, 3) := by decide +kernel
theorem dX7_resists_10 : decode cX7_resists 10 = .ok (.ldc 68, 2) := by decide +kernel
theorem dX7_resists_12 : decode cX7_resists 12 = .ok (.ireturn, 1) := by decide +kernel
theorem dX7_resists_13 : decode cX7_resists 13 = .ok (.aload_n 0, 1) := by decide +kernel
theorem dX7_resists_14 : decode cX7_resists 14 = .ok (.getfield 126, 3) := by decide +kernel
theorem dX7_resists_17 : decode cX7_resists 17 = .ok (.ifCond .ne 8, 3) := by decide +kernel
theorem dX7_resists_20 : decode cX7_resists 20 = .ok (.ldc 156, 2) := by decide +kernel
theorem dX7_resists_22 : decode cX7_resists 22 = .ok (.goto 17, 3) := by decide +kernel
theorem dX7_resists_25 : decode cX7_resists 25 = .ok (.aload_n 0, 1) := by decide +kernel
theorem dX7_resists_26 : decode cX7_resists 26 = .ok (.iconst (-1), 1) := by decide +kernel
theorem dX7_resists_27 : decode cX7_resists 27 = .ok (.iconst 0, 1) := by decide +kernel
theorem dX7_resists_28 : decode cX7_resists 28 = .ok (.invokevirtual 227, 3) := by decide +kernel
theorem dX7_resists_31 : decode cX7_resists 31 = .ok (.ldc2_w 225, 3) := by decide +kernel
theorem dX7_resists_34 : decode cX7_resists 34 = .ok (.iload_n 1, 1) := by decide +kernel
theorem dX7_resists_35 : decode cX7_resists 35 = .ok (.invokestatic 178, 3) := by decide +kernel
theorem dX7_resists_38 : decode cX7_resists 38 = .ok (.l2i, 1) := by decide +kernel
theorem dX7_resists_39 : decode cX7_resists 39 = .ok (.ireturn, 1) := by decide +kernel
theorem dX7_swapped_0 : decode cX7_swapped 0 = .ok (.aload_n 0, 1) := by decide +kernel
theorem dX7_swapped_1 : decode cX7_swapped 1 = .ok (.iload_n 1, 1) := by decide +kernel
theorem dX7_swapped_2 : decode cX7_swapped 2 = .ok (.invokevirtual 172, 3) := by decide +kernel
theorem dX7_swapped_5 : decode cX7_swapped 5 = .ok (.ifCond .eq 11, 3) := by decide +kernel
theorem dX7_swapped_8 : decode cX7_swapped 8 = .ok (.aload_n 0, 1) := by decide +kernel
theorem dX7_swapped_9 : decode cX7_swapped 9 = .ok (.iload_n 2, 1) := by decide +kernel
theorem dX7_swapped_10 : decode cX7_swapped 10 = .ok (.invokevirtual 164, 3) := by decide +kernel
theorem dX7_swapped_13 : decode cX7_swapped 13 = .ok (.ifCond .ne 6, 3) := by decide +kernel
theorem dX7_swapped_16 : decode cX7_swapped 16 = .ok (.ldc 167, 2) := by decide +kernel
theorem dX7_swapped_18 : decode cX7_swapped 18 = .ok (.ireturn, 1) := by decide +kernel
theorem dX7_swapped_19 : decode cX7_swapped 19 = .ok (.iload_n 3, 1) := by decide +kernel
theorem dX7_swapped_20 : decode cX7_swapped 20 = .ok (.i2l, 1) := by decide +kernel
theorem dX7_swapped_21 : decode cX7_swapped 21 = .ok (.lconst 0, 1) := by decide +kernel
theorem dX7_swapped_22 : decode cX7_swapped 22 = .ok (.lconst 1, 1) := by decide +kernel
theorem dX7_swapped_23 : decode cX7_swapped 23 = .ok (.invokestatic 64, 3) := by decide +kernel
theorem dX7_swapped_26 : decode cX7_swapped 26 = .ok (.ifCond .eq 20, 3) := by decide +kernel
theorem dX7_swapped_29 : decode cX7_swapped 29 = .ok (.aload_n 0, 1) := by decide +kernel
theorem dX7_swapped_30 : decode cX7_swapped 30 = .ok (.iload_n 1, 1) := by decide +kernel
theorem dX7_swapped_31 : decode cX7_swapped 31 = .ok (.iload_n 2, 1) := by decide +kernel
theorem dX7_swapped_32 : decode cX7_swapped 32 = .ok (.invokevirtual 227, 3) := by decide +kernel
theorem dX7_swapped_35 : decode cX7_swapped 35 = .ok (.ldc2_w 225, 3) := by decide +kernel
theorem dX7_swapped_38 : decode cX7_swapped 38 = .ok (.iload_n 3, 1) := by decide +kernel
theorem dX7_swapped_39 : decode cX7_swapped 39 = .ok (.invokestatic 178, 3) := by decide +kernel
theorem dX7_swapped_42 : decode cX7_swapped 42 = .ok (.l2i, 1) := by decide +kernel
theorem dX7_swapped_43 : decode cX7_swapped 43 = .ok (.goto 5, 3) := by decide +kernel
theorem dX7_swapped_46 : decode cX7_swapped 46 = .ok (.ldc 68, 2) := by decide +kernel
theorem dX7_swapped_48 : decode cX7_swapped 48 = .ok (.ireturn, 1) := by decide +kernel
theorem dX7_gain_0 : decode cX7_gain 0 = .ok (.aload_n 0, 1) := by decide +kernel
theorem dX7_gain_1 : decode cX7_gain 1 = .ok (.iload_n 1, 1) := by decide +kernel
theorem dX7_gain_2 : decode cX7_gain 2 = .ok (.invokevirtual 172, 3) := by decide +kernel
theorem dX7_gain_5 : decode cX7_gain 5 = .ok (.ifCond .ne 6, 3) := by decide +kernel
theorem dX7_gain_8 : decode cX7_gain 8 = .ok (.ldc 167, 2) := by decide +kernel
theorem dX7_gain_10 : decode cX7_gain 10 = .ok (.ireturn, 1) := by decide +kernel
theorem dX7_gain_11 : decode cX7_gain 11 = .ok (.aload_n 0, 1) := by decide +kernel
theorem dX7_gain_12 : decode cX7_gain 12 = .ok (.iconst 0, 1) := by decide +kernel
theorem dX7_gain_13 : decode cX7_gain 13 = .ok (.sipush 176, 3) := by decide +kernel
theorem dX7_gain_16 : decode cX7_gain 16 = .ok (.invokevirtual 201, 3) := by decide +kernel
theorem dX7_gain_19 : decode cX7_gain 19 = .ok (.aload_n 0, 1) := by decide +kernel
theorem dX7_gain_20 : decode cX7_gain 20 = .ok (.sipush 176, 3) := by decide +kernel
theorem dX7_gain_23 : decode cX7_gain 23 = .ok (.invokevirtual 210, 3) := by decide +kernel
theorem dX7_gain_26 : decode cX7_gain 26 = .ok (.ifCond .eq 25, 3) := by decide +kernel
theorem dX7_gain_29 : decode cX7_gain 29 = .ok (.aload_n 0, 1) := by decide +kernel
theorem dX7_gain_30 : decode cX7_gain 30 = .ok (.getfield 7, 3) := by decide +kernel
theorem dX7_gain_33 : decode cX7_gain 33 = .ok (.sipush 176, 3) := by decide +kernel
theorem dX7_gain_36 : decode cX7_gain 36 = .ok (.iload_n 1, 1) := by decide +kernel
theorem dX7_gain_37 : decode cX7_gain 37 = .ok (.iadd, 1) := by decide +kernel
theorem dX7_gain_38 : decode cX7_gain 38 = .ok (.iaload, 1) := by decide +kernel
theorem dX7_gain_39 : decode cX7_gain 39 = .ok (.aload_n 0, 1) := by decide +kernel
theorem dX7_gain_40 : decode cX7_gain 40 = .ok (.getfield 7, 3) := by decide +kernel
theorem dX7_gain_43 : decode cX7_gain 43 = .ok (.iconst 0, 1) := by decide +kernel
theorem dX7_gain_44 : decode cX7_gain 44 = .ok (.iload_n 1, 1) := by decide +kernel
theorem dX7_gain_45 : decode cX7_gain 45 = .ok (.iadd, 1) := by decide +kernel
theorem dX7_gain_46 : decode cX7_gain 46 = .ok (.iaload, 1) := by decide +kernel
theorem dX7_gain_47 : decode cX7_gain 47 = .ok (.isub, 1) := by decide +kernel
theorem dX7_gain_48 : decode cX7_gain 48 = .ok (.goto 5, 3) := by decide +kernel
theorem dX7_gain_51 : decode cX7_gain 51 = .ok (.ldc 156, 2) := by decide +kernel
theorem dX7_gain_53 : decode cX7_gain 53 = .ok (.ireturn, 1) := by decide +kernel
theorem dX7_isPage_0 : decode cX7_isPage 0 = .ok (.iload_n 0, 1) := by decide +kernel
theorem dX7_isPage_1 : decode cX7_isPage 1 = .ok (.i2l, 1) := by decide +kernel
theorem dX7_isPage_2 : decode cX7_isPage 2 = .ok (.lconst 0, 1) := by decide +kernel
theorem dX7_isPage_3 : decode cX7_isPage 3 = .ok (.ldc2_w 191, 3) := by decide +kernel
theorem dX7_isPage_6 : decode cX7_isPage 6 = .ok (.invokestatic 64, 3) := by decide +kernel
theorem dX7_isPage_9 : decode cX7_isPage 9 = .ok (.ireturn, 1) := by decide +kernel
theorem dX7_isKey_0 : decode cX7_isKey 0 = .ok (.iload_n 0, 1) := by decide +kernel
theorem dX7_isKey_1 : decode cX7_isKey 1 = .ok (.i2l, 1) := by decide +kernel
theorem dX7_isKey_2 : decode cX7_isKey 2 = .ok (.lconst 0, 1) := by decide +kernel
theorem dX7_isKey_3 : decode cX7_isKey 3 = .ok (.ldc2_w 231, 3) := by decide +kernel
theorem dX7_isKey_6 : decode cX7_isKey 6 = .ok (.invokestatic 64, 3) := by decide +kernel
theorem dX7_isKey_9 : decode cX7_isKey 9 = .ok (.ifCond .eq 21, 3) := by decide +kernel
theorem dX7_isKey_12 : decode cX7_isKey 12 = .ok (.iload_n 1, 1) := by decide +kernel
theorem dX7_isKey_13 : decode cX7_isKey 13 = .ok (.i2l, 1) := by decide +kernel
theorem dX7_isKey_14 : decode cX7_isKey 14 = .ok (.ldc2_w 233, 3) := by decide +kernel
theorem dX7_isKey_17 : decode cX7_isKey 17 = .ok (.ldc2_w 235, 3) := by decide +kernel
theorem dX7_isKey_20 : decode cX7_isKey 20 = .ok (.invokestatic 64, 3) := by decide +kernel
theorem dX7_isKey_23 : decode cX7_isKey 23 = .ok (.ifCond .eq 7, 3) := by decide +kernel
theorem dX7_isKey_26 : decode cX7_isKey 26 = .ok (.iconst 1, 1) := by decide +kernel
theorem dX7_isKey_27 : decode cX7_isKey 27 = .ok (.goto 4, 3) := by decide +kernel
theorem dX7_isKey_30 : decode cX7_isKey 30 = .ok (.iconst 0, 1) := by decide +kernel
theorem dX7_isKey_31 : decode cX7_isKey 31 = .ok (.ireturn, 1) := by decide +kernel
theorem dX7_placeOf_0 : decode cX7_placeOf 0 = .ok (.bipush 8, 2) := by decide +kernel
theorem dX7_placeOf_2 : decode cX7_placeOf 2 = .ok (.iload_n 1, 1) := by decide +kernel
theorem dX7_placeOf_3 : decode cX7_placeOf 3 = .ok (.imul, 1) := by decide +kernel
theorem dX7_placeOf_4 : decode cX7_placeOf 4 = .ok (.istore 4, 2) := by decide +kernel
theorem dX7_placeOf_6 : decode cX7_placeOf 6 = .ok (.iload 4, 2) := by decide +kernel
theorem dX7_placeOf_8 : decode cX7_placeOf 8 = .ok (.bipush 8, 2) := by decide +kernel
theorem dX7_placeOf_10 : decode cX7_placeOf 10 = .ok (.iload_n 1, 1) := by decide +kernel
theorem dX7_placeOf_11 : decode cX7_placeOf 11 = .ok (.imul, 1) := by decide +kernel
theorem dX7_placeOf_12 : decode cX7_placeOf 12 = .ok (.aload_n 0, 1) := by decide +kernel
theorem dX7_placeOf_13 : decode cX7_placeOf 13 = .ok (.getfield 35, 3) := by decide +kernel
theorem dX7_placeOf_16 : decode cX7_placeOf 16 = .ok (.iload_n 1, 1) := by decide +kernel
theorem dX7_placeOf_17 : decode cX7_placeOf 17 = .ok (.iaload, 1) := by decide +kernel
theorem dX7_placeOf_18 : decode cX7_placeOf 18 = .ok (.iadd, 1) := by decide +kernel
theorem dX7_placeOf_19 : decode cX7_placeOf 19 = .ok (.if_icmp .ge 34, 3) := by decide +kernel
theorem dX7_placeOf_22 : decode cX7_placeOf 22 = .ok (.aload_n 0, 1) := by decide +kernel
theorem dX7_placeOf_23 : decode cX7_placeOf 23 = .ok (.getfield 38, 3) := by decide +kernel
theorem dX7_placeOf_26 : decode cX7_placeOf 26 = .ok (.iload 4, 2) := by decide +kernel
theorem dX7_placeOf_28 : decode cX7_placeOf 28 = .ok (.iaload, 1) := by decide +kernel
theorem dX7_placeOf_29 : decode cX7_placeOf 29 = .ok (.iload_n 2, 1) := by decide +kernel
theorem dX7_placeOf_30 : decode cX7_placeOf 30 = .ok (.if_icmp .ne 17, 3) := by decide +kernel
theorem dX7_placeOf_33 : decode cX7_placeOf 33 = .ok (.aload_n 0, 1) := by decide +kernel
theorem dX7_placeOf_34 : decode cX7_placeOf 34 = .ok (.getfield 41, 3) := by decide +kernel
theorem dX7_placeOf_37 : decode cX7_placeOf 37 = .ok (.iload 4, 2) := by decide +kernel
theorem dX7_placeOf_39 : decode cX7_placeOf 39 = .ok (.iaload, 1) := by decide +kernel
theorem dX7_placeOf_40 : decode cX7_placeOf 40 = .ok (.iload_n 3, 1) := by decide +kernel
theorem dX7_placeOf_41 : decode cX7_placeOf 41 = .ok (.if_icmp .ne 6, 3) := by decide +kernel
theorem dX7_placeOf_44 : decode cX7_placeOf 44 = .ok (.iload 4, 2) := by decide +kernel
theorem dX7_placeOf_46 : decode cX7_placeOf 46 = .ok (.ireturn, 1) := by decide +kernel
theorem dX7_placeOf_47 : decode cX7_placeOf 47 = .ok (.iinc 4 1, 3) := by decide +kernel
theorem dX7_placeOf_50 : decode cX7_placeOf 50 = .ok (.goto (-44), 3) := by decide +kernel
theorem dX7_placeOf_53 : decode cX7_placeOf 53 = .ok (.iconst (-1), 1) := by decide +kernel
theorem dX7_placeOf_54 : decode cX7_placeOf 54 = .ok (.ireturn, 1) := by decide +kernel
theorem dX7_page_0 : decode cX7_page 0 = .ok (.iload_n 1, 1) := by decide +kernel
theorem dX7_page_1 : decode cX7_page 1 = .ok (.invokestatic 237, 3) := by decide +kernel
theorem dX7_page_4 : decode cX7_page 4 = .ok (.ifCond .ne 6, 3) := by decide +kernel
theorem dX7_page_7 : decode cX7_page 7 = .ok (.ldc 167, 2) := by decide +kernel
theorem dX7_page_9 : decode cX7_page 9 = .ok (.ireturn, 1) := by decide +kernel
theorem dX7_page_10 : decode cX7_page 10 = .ok (.aload_n 0, 1) := by decide +kernel
theorem dX7_page_11 : decode cX7_page 11 = .ok (.getfield 35, 3) := by decide +kernel
theorem dX7_page_14 : decode cX7_page 14 = .ok (.iload_n 1, 1) := by decide +kernel
theorem dX7_page_15 : decode cX7_page 15 = .ok (.iconst 0, 1) := by decide +kernel
theorem dX7_page_16 : decode cX7_page 16 = .ok (.iastore, 1) := by decide +kernel
theorem dX7_page_17 : decode cX7_page 17 = .ok (.iconst 0, 1) := by decide +kernel
theorem dX7_page_18 : decode cX7_page 18 = .ok (.ireturn, 1) := by decide +kernel
theorem dX7_put_0 : decode cX7_put 0 = .ok (.iload_n 1, 1) := by decide +kernel
theorem dX7_put_1 : decode cX7_put 1 = .ok (.invokestatic 237, 3) := by decide +kernel
theorem dX7_put_4 : decode cX7_put 4 = .ok (.ifCond .ne 6, 3) := by decide +kernel
theorem dX7_put_7 : decode cX7_put 7 = .ok (.ldc 167, 2) := by decide +kernel
theorem dX7_put_9 : decode cX7_put 9 = .ok (.ireturn, 1) := by decide +kernel
theorem dX7_put_10 : decode cX7_put 10 = .ok (.iload_n 2, 1) := by decide +kernel
theorem dX7_put_11 : decode cX7_put 11 = .ok (.iload_n 3, 1) := by decide +kernel
theorem dX7_put_12 : decode cX7_put 12 = .ok (.invokestatic 240, 3) := by decide +kernel
theorem dX7_put_15 : decode cX7_put 15 = .ok (.ifCond .eq 18, 3) := by decide +kernel
theorem dX7_put_18 : decode cX7_put 18 = .ok (.iload 4, 2) := by decide +kernel
theorem dX7_put_20 : decode cX7_put 20 = .ok (.i2l, 1) := by decide +kernel
theorem dX7_put_21 : decode cX7_put 21 = .ok (.ldc2_w 244, 3) := by decide +kernel
theorem dX7_put_24 : decode cX7_put 24 = .ok (.ldc2_w 217, 3) := by decide +kernel
theorem dX7_put_27 : decode cX7_put 27 = .ok (.invokestatic 64, 3) := by decide +kernel
theorem dX7_put_30 : decode cX7_put 30 = .ok (.ifCond .ne 6, 3) := by decide +kernel
theorem dX7_put_33 : decode cX7_put 33 = .ok (.ldc 68, 2) := by decide +kernel
theorem dX7_put_35 : decode cX7_put 35 = .ok (.ireturn, 1) := by decide +kernel
theorem dX7_put_36 : decode cX7_put 36 = .ok (.aload_n 0, 1) := by decide +kernel
theorem dX7_put_37 : decode cX7_put 37 = .ok (.getfield 35, 3) := by decide +kernel
theorem dX7_put_40 : decode cX7_put 40 = .ok (.iload_n 1, 1) := by decide +kernel
theorem dX7_put_41 : decode cX7_put 41 = .ok (.iaload, 1) := by decide +kernel
theorem dX7_put_42 : decode cX7_put 42 = .ok (.ifCond .ge 6, 3) := by decide +kernel
theorem dX7_put_45 : decode cX7_put 45 = .ok (.ldc 246, 2) := by decide +kernel
theorem dX7_put_47 : decode cX7_put 47 = .ok (.ireturn, 1) := by decide +kernel
theorem dX7_put_48 : decode cX7_put 48 = .ok (.aload_n 0, 1) := by decide +kernel
theorem dX7_put_49 : decode cX7_put 49 = .ok (.iload_n 1, 1) := by decide +kernel
theorem dX7_put_50 : decode cX7_put 50 = .ok (.iload_n 2, 1) := by decide +kernel
theorem dX7_put_51 : decode cX7_put 51 = .ok (.iload_n 3, 1) := by decide +kernel
theorem dX7_put_52 : decode cX7_put 52 = .ok (.invokevirtual 247, 3) := by decide +kernel
theorem dX7_put_55 : decode cX7_put 55 = .ok (.istore 5, 2) := by decide +kernel
theorem dX7_put_57 : decode cX7_put 57 = .ok (.iload 5, 2) := by decide +kernel
theorem dX7_put_59 : decode cX7_put 59 = .ok (.iconst (-1), 1) := by decide +kernel
theorem dX7_put_60 : decode cX7_put 60 = .ok (.if_icmp .ne 17, 3) := by decide +kernel
theorem dX7_put_63 : decode cX7_put 63 = .ok (.aload_n 0, 1) := by decide +kernel
theorem dX7_put_64 : decode cX7_put 64 = .ok (.getfield 35, 3) := by decide +kernel
theorem dX7_put_67 : decode cX7_put 67 = .ok (.iload_n 1, 1) := by decide +kernel
theorem dX7_put_68 : decode cX7_put 68 = .ok (.iaload, 1) := by decide +kernel
theorem dX7_put_69 : decode cX7_put 69 = .ok (.bipush 8, 2) := by decide +kernel
theorem dX7_put_71 : decode cX7_put 71 = .ok (.if_icmp .ne 6, 3) := by decide +kernel
theorem dX7_put_74 : decode cX7_put 74 = .ok (.ldc 251, 2) := by decide +kernel
theorem dX7_put_76 : decode cX7_put 76 = .ok (.ireturn, 1) := by decide +kernel
theorem dX7_put_77 : decode cX7_put 77 = .ok (.iload 5, 2) := by decide +kernel
theorem dX7_put_79 : decode cX7_put 79 = .ok (.iconst (-1), 1) := by decide +kernel
theorem dX7_put_80 : decode cX7_put 80 = .ok (.if_icmp .ne 7, 3) := by decide +kernel
theorem dX7_put_83 : decode cX7_put 83 = .ok (.iconst 0, 1) := by decide +kernel
theorem dX7_put_84 : decode cX7_put 84 = .ok (.goto 10, 3) := by decide +kernel
theorem dX7_put_87 : decode cX7_put 87 = .ok (.aload_n 0, 1) := by decide +kernel
theorem dX7_put_88 : decode cX7_put 88 = .ok (.getfield 44, 3) := by decide +kernel
theorem dX7_put_91 : decode cX7_put 91 = .ok (.iload 5, 2) := by decide +kernel
theorem dX7_put_93 : decode cX7_put 93 = .ok (.iaload, 1) := by decide +kernel
theorem dX7_put_94 : decode cX7_put 94 = .ok (.istore 6, 2) := by decide +kernel
theorem dX7_put_96 : decode cX7_put 96 = .ok (.iload 5, 2) := by decide +kernel
theorem dX7_put_98 : decode cX7_put 98 = .ok (.iconst (-1), 1) := by decide +kernel
theorem dX7_put_99 : decode cX7_put 99 = .ok (.if_icmp .ne 42, 3) := by decide +kernel
theorem dX7_put_102 : decode cX7_put 102 = .ok (.bipush 8, 2) := by decide +kernel
theorem dX7_put_104 : decode cX7_put 104 = .ok (.iload_n 1, 1) := by decide +kernel
theorem dX7_put_105 : decode cX7_put 105 = .ok (.imul, 1) := by decide +kernel
theorem dX7_put_106 : decode cX7_put 106 = .ok (.aload_n 0, 1) := by decide +kernel
theorem dX7_put_107 : decode cX7_put 107 = .ok (.getfield 35, 3) := by decide +kernel
theorem dX7_put_110 : decode cX7_put 110 = .ok (.iload_n 1, 1) := by decide +kernel
theorem dX7_put_111 : decode cX7_put 111 = .ok (.iaload, 1) := by decide +kernel
theorem dX7_put_112 : decode cX7_put 112 = .ok (.iadd, 1) := by decide +kernel
theorem dX7_put_113 : decode cX7_put 113 = .ok (.istore 5, 2) := by decide +kernel
theorem dX7_put_115 : decode cX7_put 115 = .ok (.aload_n 0, 1) := by decide +kernel
theorem dX7_put_116 : decode cX7_put 116 = .ok (.getfield 38, 3) := by decide +kernel
theorem dX7_put_119 : decode cX7_put 119 = .ok (.iload 5, 2) := by decide +kernel
theorem dX7_put_121 : decode cX7_put 121 = .ok (.iload_n 2, 1) := by decide +kernel
theorem dX7_put_122 : decode cX7_put 122 = .ok (.iastore, 1) := by decide +kernel
theorem dX7_put_123 : decode cX7_put 123 = .ok (.aload_n 0, 1) := by decide +kernel
theorem dX7_put_124 : decode cX7_put 124 = .ok (.getfield 41, 3) := by decide +kernel
theorem dX7_put_127 : decode cX7_put 127 = .ok (.iload 5, 2) := by decide +kernel
theorem dX7_put_129 : decode cX7_put 129 = .ok (.iload_n 3, 1) := by decide +kernel
theorem dX7_put_130 : decode cX7_put 130 = .ok (.iastore, 1) := by decide +kernel
theorem dX7_put_131 : decode cX7_put 131 = .ok (.aload_n 0, 1) := by decide +kernel
theorem dX7_put_132 : decode cX7_put 132 = .ok (.getfield 35, 3) := by decide +kernel
theorem dX7_put_135 : decode cX7_put 135 = .ok (.iload_n 1, 1) := by decide +kernel
theorem dX7_put_136 : decode cX7_put 136 = .ok (.dup2, 1) := by decide +kernel
theorem dX7_put_137 : decode cX7_put 137 = .ok (.iaload, 1) := by decide +kernel
theorem dX7_put_138 : decode cX7_put 138 = .ok (.iconst 1, 1) := by decide +kernel
theorem dX7_put_139 : decode cX7_put 139 = .ok (.iadd, 1) := by decide +kernel
theorem dX7_put_140 : decode cX7_put 140 = .ok (.iastore, 1) := by decide +kernel
theorem dX7_put_141 : decode cX7_put 141 = .ok (.aload_n 0, 1) := by decide +kernel
theorem dX7_put_142 : decode cX7_put 142 = .ok (.getfield 44, 3) := by decide +kernel
theorem dX7_put_145 : decode cX7_put 145 = .ok (.iload 5, 2) := by decide +kernel
theorem dX7_put_147 : decode cX7_put 147 = .ok (.iload 4, 2) := by decide +kernel
theorem dX7_put_149 : decode cX7_put 149 = .ok (.iastore, 1) := by decide +kernel
theorem dX7_put_150 : decode cX7_put 150 = .ok (.iload 6, 2) := by decide +kernel
theorem dX7_put_152 : decode cX7_put 152 = .ok (.ireturn, 1) := by decide +kernel
theorem dX7_get_0 : decode cX7_get 0 = .ok (.iload_n 1, 1) := by decide +kernel
theorem dX7_get_1 : decode cX7_get 1 = .ok (.invokestatic 237, 3) := by decide +kernel
theorem dX7_get_4 : decode cX7_get 4 = .ok (.ifCond .ne 6, 3) := by decide +kernel
theorem dX7_get_7 : decode cX7_get 7 = .ok (.ldc 167, 2) := by decide +kernel
theorem dX7_get_9 : decode cX7_get 9 = .ok (.ireturn, 1) := by decide +kernel
theorem dX7_get_10 : decode cX7_get 10 = .ok (.iload_n 2, 1) := by decide +kernel
theorem dX7_get_11 : decode cX7_get 11 = .ok (.iload_n 3, 1) := by decide +kernel
theorem dX7_get_12 : decode cX7_get 12 = .ok (.invokestatic 240, 3) := by decide +kernel
theorem dX7_get_15 : decode cX7_get 15 = .ok (.ifCond .ne 6, 3) := by decide +kernel
theorem dX7_get_18 : decode cX7_get 18 = .ok (.ldc 68, 2) := by decide +kernel
theorem dX7_get_20 : decode cX7_get 20 = .ok (.ireturn, 1) := by decide +kernel
theorem dX7_get_21 : decode cX7_get 21 = .ok (.aload_n 0, 1) := by decide +kernel
theorem dX7_get_22 : decode cX7_get 22 = .ok (.getfield 35, 3) := by decide +kernel
theorem dX7_get_25 : decode cX7_get 25 = .ok (.iload_n 1, 1) := by decide +kernel
theorem dX7_get_26 : decode cX7_get 26 = .ok (.iaload, 1) := by decide +kernel
theorem dX7_get_27 : decode cX7_get 27 = .ok (.ifCond .ge 6, 3) := by decide +kernel
theorem dX7_get_30 : decode cX7_get 30 = .ok (.ldc 246, 2) := by decide +kernel
theorem dX7_get_32 : decode cX7_get 32 = .ok (.ireturn, 1) := by decide +kernel
theorem dX7_get_33 : decode cX7_get 33 = .ok (.aload_n 0, 1) := by decide +kernel
theorem dX7_get_34 : decode cX7_get 34 = .ok (.iload_n 1, 1) := by decide +kernel
theorem dX7_get_35 : decode cX7_get 35 = .ok (.iload_n 2, 1) := by decide +kernel
theorem dX7_get_36 : decode cX7_get 36 = .ok (.iload_n 3, 1) := by decide +kernel
theorem dX7_get_37 : decode cX7_get 37 = .ok (.invokevirtual 247, 3) := by decide +kernel
theorem dX7_get_40 : decode cX7_get 40 = .ok (.istore 4, 2) := by decide +kernel
theorem dX7_get_42 : decode cX7_get 42 = .ok (.iload 4, 2) := by decide +kernel
theorem dX7_get_44 : decode cX7_get 44 = .ok (.iconst (-1), 1) := by decide +kernel
theorem dX7_get_45 : decode cX7_get 45 = .ok (.if_icmp .ne 8, 3) := by decide +kernel
theorem dX7_get_48 : decode cX7_get 48 = .ok (.ldc 252, 2) := by decide +kernel
theorem dX7_get_50 : decode cX7_get 50 = .ok (.goto 10, 3) := by decide +kernel
theorem dX7_get_53 : decode cX7_get 53 = .ok (.aload_n 0, 1) := by decide +kernel
theorem dX7_get_54 : decode cX7_get 54 = .ok (.getfield 44, 3) := by decide +kernel
theorem dX7_get_57 : decode cX7_get 57 = .ok (.iload 4, 2) := by decide +kernel
theorem dX7_get_59 : decode cX7_get 59 = .ok (.iaload, 1) := by decide +kernel
theorem dX7_get_60 : decode cX7_get 60 = .ok (.ireturn, 1) := by decide +kernel
theorem dX7_strike_0 : decode cX7_strike 0 = .ok (.aload_n 0, 1) := by decide +kernel
theorem dX7_strike_1 : decode cX7_strike 1 = .ok (.iload_n 1, 1) := by decide +kernel
theorem dX7_strike_2 : decode cX7_strike 2 = .ok (.iload_n 2, 1) := by decide +kernel
theorem dX7_strike_3 : decode cX7_strike 3 = .ok (.iload_n 3, 1) := by decide +kernel
theorem dX7_strike_4 : decode cX7_strike 4 = .ok (.invokevirtual 253, 3) := by decide +kernel
theorem dX7_strike_7 : decode cX7_strike 7 = .ok (.istore 4, 2) := by decide +kernel
theorem dX7_strike_9 : decode cX7_strike 9 = .ok (.iload 4, 2) := by decide +kernel
theorem dX7_strike_11 : decode cX7_strike 11 = .ok (.sipush (-999), 3) := by decide +kernel
theorem dX7_strike_14 : decode cX7_strike 14 = .ok (.if_icmp .ge 6, 3) := by decide +kernel
theorem dX7_strike_17 : decode cX7_strike 17 = .ok (.iload 4, 2) := by decide +kernel
theorem dX7_strike_19 : decode cX7_strike 19 = .ok (.ireturn, 1) := by decide +kernel
theorem dX7_strike_20 : decode cX7_strike 20 = .ok (.aload_n 0, 1) := by decide +kernel
theorem dX7_strike_21 : decode cX7_strike 21 = .ok (.iload_n 1, 1) := by decide +kernel
theorem dX7_strike_22 : decode cX7_strike 22 = .ok (.iload_n 2, 1) := by decide +kernel
theorem dX7_strike_23 : decode cX7_strike 23 = .ok (.iload_n 3, 1) := by decide +kernel
theorem dX7_strike_24 : decode cX7_strike 24 = .ok (.invokevirtual 247, 3) := by decide +kernel
theorem dX7_strike_27 : decode cX7_strike 27 = .ok (.istore 5, 2) := by decide +kernel
theorem dX7_strike_29 : decode cX7_strike 29 = .ok (.aload_n 0, 1) := by decide +kernel
theorem dX7_strike_30 : decode cX7_strike 30 = .ok (.getfield 35, 3) := by decide +kernel
theorem dX7_strike_33 : decode cX7_strike 33 = .ok (.iload_n 1, 1) := by decide +kernel
theorem dX7_strike_34 : decode cX7_strike 34 = .ok (.dup2, 1) := by decide +kernel
theorem dX7_strike_35 : decode cX7_strike 35 = .ok (.iaload, 1) := by decide +kernel
theorem dX7_strike_36 : decode cX7_strike 36 = .ok (.iconst 1, 1) := by decide +kernel
theorem dX7_strike_37 : decode cX7_strike 37 = .ok (.isub, 1) := by decide +kernel
theorem dX7_strike_38 : decode cX7_strike 38 = .ok (.iastore, 1) := by decide +kernel
theorem dX7_strike_39 : decode cX7_strike 39 = .ok (.iload 5, 2) := by decide +kernel
theorem dX7_strike_41 : decode cX7_strike 41 = .ok (.istore 6, 2) := by decide +kernel
theorem dX7_strike_43 : decode cX7_strike 43 = .ok (.iload 6, 2) := by decide +kernel
theorem dX7_strike_45 : decode cX7_strike 45 = .ok (.bipush 8, 2) := by decide +kernel
theorem dX7_strike_47 : decode cX7_strike 47 = .ok (.iload_n 1, 1) := by decide +kernel
theorem dX7_strike_48 : decode cX7_strike 48 = .ok (.imul, 1) := by decide +kernel
theorem dX7_strike_49 : decode cX7_strike 49 = .ok (.aload_n 0, 1) := by decide +kernel
theorem dX7_strike_50 : decode cX7_strike 50 = .ok (.getfield 35, 3) := by decide +kernel
theorem dX7_strike_53 : decode cX7_strike 53 = .ok (.iload_n 1, 1) := by decide +kernel
theorem dX7_strike_54 : decode cX7_strike 54 = .ok (.iaload, 1) := by decide +kernel
theorem dX7_strike_55 : decode cX7_strike 55 = .ok (.iadd, 1) := by decide +kernel
theorem dX7_strike_56 : decode cX7_strike 56 = .ok (.if_icmp .ge 57, 3) := by decide +kernel
theorem dX7_strike_59 : decode cX7_strike 59 = .ok (.aload_n 0, 1) := by decide +kernel
theorem dX7_strike_60 : decode cX7_strike 60 = .ok (.getfield 38, 3) := by decide +kernel
theorem dX7_strike_63 : decode cX7_strike 63 = .ok (.iload 6, 2) := by decide +kernel
theorem dX7_strike_65 : decode cX7_strike 65 = .ok (.aload_n 0, 1) := by decide +kernel
theorem dX7_strike_66 : decode cX7_strike 66 = .ok (.getfield 38, 3) := by decide +kernel
theorem dX7_strike_69 : decode cX7_strike 69 = .ok (.iload 6, 2) := by decide +kernel
theorem dX7_strike_71 : decode cX7_strike 71 = .ok (.iconst 1, 1) := by decide +kernel
theorem dX7_strike_72 : decode cX7_strike 72 = .ok (.iadd, 1) := by decide +kernel
theorem dX7_strike_73 : decode cX7_strike 73 = .ok (.iaload, 1) := by decide +kernel
theorem dX7_strike_74 : decode cX7_strike 74 = .ok (.iastore, 1) := by decide +kernel
theorem dX7_strike_75 : decode cX7_strike 75 = .ok (.aload_n 0, 1) := by decide +kernel
theorem dX7_strike_76 : decode cX7_strike 76 = .ok (.getfield 41, 3) := by decide +kernel
theorem dX7_strike_79 : decode cX7_strike 79 = .ok (.iload 6, 2) := by decide +kernel
theorem dX7_strike_81 : decode cX7_strike 81 = .ok (.aload_n 0, 1) := by decide +kernel
theorem dX7_strike_82 : decode cX7_strike 82 = .ok (.getfield 41, 3) := by decide +kernel
theorem dX7_strike_85 : decode cX7_strike 85 = .ok (.iload 6, 2) := by decide +kernel
theorem dX7_strike_87 : decode cX7_strike 87 = .ok (.iconst 1, 1) := by decide +kernel
theorem dX7_strike_88 : decode cX7_strike 88 = .ok (.iadd, 1) := by decide +kernel
theorem dX7_strike_89 : decode cX7_strike 89 = .ok (.iaload, 1) := by decide +kernel
theorem dX7_strike_90 : decode cX7_strike 90 = .ok (.iastore, 1) := by decide +kernel
theorem dX7_strike_91 : decode cX7_strike 91 = .ok (.aload_n 0, 1) := by decide +kernel
theorem dX7_strike_92 : decode cX7_strike 92 = .ok (.getfield 44, 3) := by decide +kernel
theorem dX7_strike_95 : decode cX7_strike 95 = .ok (.iload 6, 2) := by decide +kernel
theorem dX7_strike_97 : decode cX7_strike 97 = .ok (.aload_n 0, 1) := by decide +kernel
theorem dX7_strike_98 : decode cX7_strike 98 = .ok (.getfield 44, 3) := by decide +kernel
theorem dX7_strike_101 : decode cX7_strike 101 = .ok (.iload 6, 2) := by decide +kernel
theorem dX7_strike_103 : decode cX7_strike 103 = .ok (.iconst 1, 1) := by decide +kernel
theorem dX7_strike_104 : decode cX7_strike 104 = .ok (.iadd, 1) := by decide +kernel
theorem dX7_strike_105 : decode cX7_strike 105 = .ok (.iaload, 1) := by decide +kernel
theorem dX7_strike_106 : decode cX7_strike 106 = .ok (.iastore, 1) := by decide +kernel
theorem dX7_strike_107 : decode cX7_strike 107 = .ok (.iinc 6 1, 3) := by decide +kernel
theorem dX7_strike_110 : decode cX7_strike 110 = .ok (.goto (-67), 3) := by decide +kernel
theorem dX7_strike_113 : decode cX7_strike 113 = .ok (.iload 4, 2) := by decide +kernel
theorem dX7_strike_115 : decode cX7_strike 115 = .ok (.ireturn, 1) := by decide +kernel
theorem dX7_common_0 : decode cX7_common 0 = .ok (.iload_n 1, 1) := by decide +kernel
theorem dX7_common_1 : decode cX7_common 1 = .ok (.invokestatic 237, 3) := by decide +kernel
theorem dX7_common_4 : decode cX7_common 4 = .ok (.ifCond .eq 10, 3) := by decide +kernel
theorem dX7_common_7 : decode cX7_common 7 = .ok (.iload_n 2, 1) := by decide +kernel
theorem dX7_common_8 : decode cX7_common 8 = .ok (.invokestatic 237, 3) := by decide +kernel
theorem dX7_common_11 : decode cX7_common 11 = .ok (.ifCond .ne 6, 3) := by decide +kernel
theorem dX7_common_14 : decode cX7_common 14 = .ok (.ldc 167, 2) := by decide +kernel
theorem dX7_common_16 : decode cX7_common 16 = .ok (.ireturn, 1) := by decide +kernel
theorem dX7_common_17 : decode cX7_common 17 = .ok (.aload_n 0, 1) := by decide +kernel
theorem dX7_common_18 : decode cX7_common 18 = .ok (.getfield 35, 3) := by decide +kernel
theorem dX7_common_21 : decode cX7_common 21 = .ok (.iload_n 1, 1) := by decide +kernel
theorem dX7_common_22 : decode cX7_common 22 = .ok (.iaload, 1) := by decide +kernel
theorem dX7_common_23 : decode cX7_common 23 = .ok (.ifCond .lt 12, 3) := by decide +kernel
theorem dX7_common_26 : decode cX7_common 26 = .ok (.aload_n 0, 1) := by decide +kernel
theorem dX7_common_27 : decode cX7_common 27 = .ok (.getfield 35, 3) := by decide +kernel
theorem dX7_common_30 : decode cX7_common 30 = .ok (.iload_n 2, 1) := by decide +kernel
theorem dX7_common_31 : decode cX7_common 31 = .ok (.iaload, 1) := by decide +kernel
theorem dX7_common_32 : decode cX7_common 32 = .ok (.ifCond .ge 6, 3) := by decide +kernel
theorem dX7_common_35 : decode cX7_common 35 = .ok (.ldc 246, 2) := by decide +kernel
theorem dX7_common_37 : decode cX7_common 37 = .ok (.ireturn, 1) := by decide +kernel
theorem dX7_common_38 : decode cX7_common 38 = .ok (.iconst 0, 1) := by decide +kernel
theorem dX7_common_39 : decode cX7_common 39 = .ok (.istore_n 3, 1) := by decide +kernel
theorem dX7_common_40 : decode cX7_common 40 = .ok (.bipush 8, 2) := by decide +kernel
theorem dX7_common_42 : decode cX7_common 42 = .ok (.iload_n 1, 1) := by decide +kernel
theorem dX7_common_43 : decode cX7_common 43 = .ok (.imul, 1) := by decide +kernel
theorem dX7_common_44 : decode cX7_common 44 = .ok (.istore 4, 2) := by decide +kernel
theorem dX7_common_46 : decode cX7_common 46 = .ok (.iload 4, 2) := by decide +kernel
theorem dX7_common_48 : decode cX7_common 48 = .ok (.bipush 8, 2) := by decide +kernel
theorem dX7_common_50 : decode cX7_common 50 = .ok (.iload_n 1, 1) := by decide +kernel
theorem dX7_common_51 : decode cX7_common 51 = .ok (.imul, 1) := by decide +kernel
theorem dX7_common_52 : decode cX7_common 52 = .ok (.aload_n 0, 1) := by decide +kernel
theorem dX7_common_53 : decode cX7_common 53 = .ok (.getfield 35, 3) := by decide +kernel
theorem dX7_common_56 : decode cX7_common 56 = .ok (.iload_n 1, 1) := by decide +kernel
theorem dX7_common_57 : decode cX7_common 57 = .ok (.iaload, 1) := by decide +kernel
theorem dX7_common_58 : decode cX7_common 58 = .ok (.iadd, 1) := by decide +kernel
theorem dX7_common_59 : decode cX7_common 59 = .ok (.if_icmp .ge 61, 3) := by decide +kernel
theorem dX7_common_62 : decode cX7_common 62 = .ok (.aload_n 0, 1) := by decide +kernel
theorem dX7_common_63 : decode cX7_common 63 = .ok (.iload_n 2, 1) := by decide +kernel
theorem dX7_common_64 : decode cX7_common 64 = .ok (.aload_n 0, 1) := by decide +kernel
theorem dX7_common_65 : decode cX7_common 65 = .ok (.getfield 38, 3) := by decide +kernel
theorem dX7_common_68 : decode cX7_common 68 = .ok (.iload 4, 2) := by decide +kernel
theorem dX7_common_70 : decode cX7_common 70 = .ok (.iaload, 1) := by decide +kernel
theorem dX7_common_71 : decode cX7_common 71 = .ok (.aload_n 0, 1) := by decide +kernel
theorem dX7_common_72 : decode cX7_common 72 = .ok (.getfield 41, 3) := by decide +kernel
theorem dX7_common_75 : decode cX7_common 75 = .ok (.iload 4, 2) := by decide +kernel
theorem dX7_common_77 : decode cX7_common 77 = .ok (.iaload, 1) := by decide +kernel
theorem dX7_common_78 : decode cX7_common 78 = .ok (.invokevirtual 247, 3) := by decide +kernel
theorem dX7_common_81 : decode cX7_common 81 = .ok (.istore 5, 2) := by decide +kernel
theorem dX7_common_83 : decode cX7_common 83 = .ok (.iload_n 3, 1) := by decide +kernel
theorem dX7_common_84 : decode cX7_common 84 = .ok (.iload 5, 2) := by decide +kernel
theorem dX7_common_86 : decode cX7_common 86 = .ok (.iconst (-1), 1) := by decide +kernel
theorem dX7_common_87 : decode cX7_common 87 = .ok (.if_icmp .eq 24, 3) := by decide +kernel
theorem dX7_common_90 : decode cX7_common 90 = .ok (.aload_n 0, 1) := by decide +kernel
theorem dX7_common_91 : decode cX7_common 91 = .ok (.getfield 44, 3) := by decide +kernel
theorem dX7_common_94 : decode cX7_common 94 = .ok (.iload 5, 2) := by decide +kernel
theorem dX7_common_96 : decode cX7_common 96 = .ok (.iaload, 1) := by decide +kernel
theorem dX7_common_97 : decode cX7_common 97 = .ok (.aload_n 0, 1) := by decide +kernel
theorem dX7_common_98 : decode cX7_common 98 = .ok (.getfield 44, 3) := by decide +kernel
theorem dX7_common_101 : decode cX7_common 101 = .ok (.iload 4, 2) := by decide +kernel
theorem dX7_common_103 : decode cX7_common 103 = .ok (.iaload, 1) := by decide +kernel
theorem dX7_common_104 : decode cX7_common 104 = .ok (.if_icmp .ne 7, 3) := by decide +kernel
theorem dX7_common_107 : decode cX7_common 107 = .ok (.iconst 1, 1) := by decide +kernel
theorem dX7_common_108 : decode cX7_common 108 = .ok (.goto 4, 3) := by decide +kernel
theorem dX7_common_111 : decode cX7_common 111 = .ok (.iconst 0, 1) := by decide +kernel
theorem dX7_common_112 : decode cX7_common 112 = .ok (.iadd, 1) := by decide +kernel
theorem dX7_common_113 : decode cX7_common 113 = .ok (.istore_n 3, 1) := by decide +kernel
theorem dX7_common_114 : decode cX7_common 114 = .ok (.iinc 4 1, 3) := by decide +kernel
theorem dX7_common_117 : decode cX7_common 117 = .ok (.goto (-71), 3) := by decide +kernel
theorem dX7_common_120 : decode cX7_common 120 = .ok (.iload_n 3, 1) := by decide +kernel
theorem dX7_common_121 : decode cX7_common 121 = .ok (.ireturn, 1) := by decide +kernel
theorem dX7_sum_0 : decode cX7_sum 0 = .ok (.iload_n 1, 1) := by decide +kernel
theorem dX7_sum_1 : decode cX7_sum 1 = .ok (.invokestatic 237, 3) := by decide +kernel
theorem dX7_sum_4 : decode cX7_sum 4 = .ok (.ifCond .ne 6, 3) := by decide +kernel
theorem dX7_sum_7 : decode cX7_sum 7 = .ok (.ldc 167, 2) := by decide +kernel
theorem dX7_sum_9 : decode cX7_sum 9 = .ok (.ireturn, 1) := by decide +kernel
theorem dX7_sum_10 : decode cX7_sum 10 = .ok (.iload_n 2, 1) := by decide +kernel
theorem dX7_sum_11 : decode cX7_sum 11 = .ok (.i2l, 1) := by decide +kernel
theorem dX7_sum_12 : decode cX7_sum 12 = .ok (.lconst 0, 1) := by decide +kernel
theorem dX7_sum_13 : decode cX7_sum 13 = .ok (.ldc2_w 191, 3) := by decide +kernel
theorem dX7_sum_16 : decode cX7_sum 16 = .ok (.invokestatic 64, 3) := by decide +kernel
theorem dX7_sum_19 : decode cX7_sum 19 = .ok (.ifCond .ne 6, 3) := by decide +kernel
theorem dX7_sum_22 : decode cX7_sum 22 = .ok (.ldc 68, 2) := by decide +kernel
theorem dX7_sum_24 : decode cX7_sum 24 = .ok (.ireturn, 1) := by decide +kernel
theorem dX7_sum_25 : decode cX7_sum 25 = .ok (.aload_n 0, 1) := by decide +kernel
theorem dX7_sum_26 : decode cX7_sum 26 = .ok (.getfield 35, 3) := by decide +kernel
theorem dX7_sum_29 : decode cX7_sum 29 = .ok (.iload_n 1, 1) := by decide +kernel
theorem dX7_sum_30 : decode cX7_sum 30 = .ok (.iaload, 1) := by decide +kernel
theorem dX7_sum_31 : decode cX7_sum 31 = .ok (.ifCond .ge 6, 3) := by decide +kernel
theorem dX7_sum_34 : decode cX7_sum 34 = .ok (.ldc 246, 2) := by decide +kernel
theorem dX7_sum_36 : decode cX7_sum 36 = .ok (.ireturn, 1) := by decide +kernel
theorem dX7_sum_37 : decode cX7_sum 37 = .ok (.iconst 0, 1) := by decide +kernel
theorem dX7_sum_38 : decode cX7_sum 38 = .ok (.istore_n 3, 1) := by decide +kernel
theorem dX7_sum_39 : decode cX7_sum 39 = .ok (.bipush 8, 2) := by decide +kernel
theorem dX7_sum_41 : decode cX7_sum 41 = .ok (.iload_n 1, 1) := by decide +kernel
theorem dX7_sum_42 : decode cX7_sum 42 = .ok (.imul, 1) := by decide +kernel
theorem dX7_sum_43 : decode cX7_sum 43 = .ok (.istore 4, 2) := by decide +kernel
theorem dX7_sum_45 : decode cX7_sum 45 = .ok (.iload 4, 2) := by decide +kernel
theorem dX7_sum_47 : decode cX7_sum 47 = .ok (.bipush 8, 2) := by decide +kernel
theorem dX7_sum_49 : decode cX7_sum 49 = .ok (.iload_n 1, 1) := by decide +kernel
theorem dX7_sum_50 : decode cX7_sum 50 = .ok (.imul, 1) := by decide +kernel
theorem dX7_sum_51 : decode cX7_sum 51 = .ok (.aload_n 0, 1) := by decide +kernel
theorem dX7_sum_52 : decode cX7_sum 52 = .ok (.getfield 35, 3) := by decide +kernel
theorem dX7_sum_55 : decode cX7_sum 55 = .ok (.iload_n 1, 1) := by decide +kernel
theorem dX7_sum_56 : decode cX7_sum 56 = .ok (.iaload, 1) := by decide +kernel
theorem dX7_sum_57 : decode cX7_sum 57 = .ok (.iadd, 1) := by decide +kernel
theorem dX7_sum_58 : decode cX7_sum 58 = .ok (.if_icmp .ge 42, 3) := by decide +kernel
theorem dX7_sum_61 : decode cX7_sum 61 = .ok (.iload_n 3, 1) := by decide +kernel
theorem dX7_sum_62 : decode cX7_sum 62 = .ok (.iload_n 2, 1) := by decide +kernel
theorem dX7_sum_63 : decode cX7_sum 63 = .ok (.ifCond .ne 13, 3) := by decide +kernel
theorem dX7_sum_66 : decode cX7_sum 66 = .ok (.aload_n 0, 1) := by decide +kernel
theorem dX7_sum_67 : decode cX7_sum 67 = .ok (.getfield 44, 3) := by decide +kernel
theorem dX7_sum_70 : decode cX7_sum 70 = .ok (.iload 4, 2) := by decide +kernel
theorem dX7_sum_72 : decode cX7_sum 72 = .ok (.iaload, 1) := by decide +kernel
theorem dX7_sum_73 : decode cX7_sum 73 = .ok (.goto 19, 3) := by decide +kernel
theorem dX7_sum_76 : decode cX7_sum 76 = .ok (.iload_n 2, 1) := by decide +kernel
theorem dX7_sum_77 : decode cX7_sum 77 = .ok (.iconst 1, 1) := by decide +kernel
theorem dX7_sum_78 : decode cX7_sum 78 = .ok (.if_icmp .ne 7, 3) := by decide +kernel
theorem dX7_sum_81 : decode cX7_sum 81 = .ok (.iconst 1, 1) := by decide +kernel
theorem dX7_sum_82 : decode cX7_sum 82 = .ok (.goto 10, 3) := by decide +kernel
theorem dX7_sum_85 : decode cX7_sum 85 = .ok (.aload_n 0, 1) := by decide +kernel
theorem dX7_sum_86 : decode cX7_sum 86 = .ok (.getfield 41, 3) := by decide +kernel
theorem dX7_sum_89 : decode cX7_sum 89 = .ok (.iload 4, 2) := by decide +kernel
theorem dX7_sum_91 : decode cX7_sum 91 = .ok (.iaload, 1) := by decide +kernel
theorem dX7_sum_92 : decode cX7_sum 92 = .ok (.iadd, 1) := by decide +kernel
theorem dX7_sum_93 : decode cX7_sum 93 = .ok (.istore_n 3, 1) := by decide +kernel
theorem dX7_sum_94 : decode cX7_sum 94 = .ok (.iinc 4 1, 3) := by decide +kernel
theorem dX7_sum_97 : decode cX7_sum 97 = .ok (.goto (-52), 3) := by decide +kernel
theorem dX7_sum_100 : decode cX7_sum 100 = .ok (.iload_n 3, 1) := by decide +kernel
theorem dX7_sum_101 : decode cX7_sum 101 = .ok (.ireturn, 1) := by decide +kernel
theorem dX7_drop_0 : decode cX7_drop 0 = .ok (.iload_n 1, 1) := by decide +kernel
theorem dX7_drop_1 : decode cX7_drop 1 = .ok (.invokestatic 237, 3) := by decide +kernel
theorem dX7_drop_4 : decode cX7_drop 4 = .ok (.ifCond .ne 6, 3) := by decide +kernel
theorem dX7_drop_7 : decode cX7_drop 7 = .ok (.ldc 167, 2) := by decide +kernel
theorem dX7_drop_9 : decode cX7_drop 9 = .ok (.ireturn, 1) := by decide +kernel
theorem dX7_drop_10 : decode cX7_drop 10 = .ok (.aload_n 0, 1) := by decide +kernel
theorem dX7_drop_11 : decode cX7_drop 11 = .ok (.getfield 35, 3) := by decide +kernel
theorem dX7_drop_14 : decode cX7_drop 14 = .ok (.iload_n 1, 1) := by decide +kernel
theorem dX7_drop_15 : decode cX7_drop 15 = .ok (.iaload, 1) := by decide +kernel
theorem dX7_drop_16 : decode cX7_drop 16 = .ok (.istore_n 2, 1) := by decide +kernel
theorem dX7_drop_17 : decode cX7_drop 17 = .ok (.aload_n 0, 1) := by decide +kernel
theorem dX7_drop_18 : decode cX7_drop 18 = .ok (.getfield 35, 3) := by decide +kernel
theorem dX7_drop_21 : decode cX7_drop 21 = .ok (.iload_n 1, 1) := by decide +kernel
theorem dX7_drop_22 : decode cX7_drop 22 = .ok (.iconst (-1), 1) := by decide +kernel
theorem dX7_drop_23 : decode cX7_drop 23 = .ok (.iastore, 1) := by decide +kernel
theorem dX7_drop_24 : decode cX7_drop 24 = .ok (.iload_n 2, 1) := by decide +kernel
theorem dX7_drop_25 : decode cX7_drop 25 = .ok (.ifCond .ge 8, 3) := by decide +kernel
theorem dX7_drop_28 : decode cX7_drop 28 = .ok (.ldc 246, 2) := by decide +kernel
theorem dX7_drop_30 : decode cX7_drop 30 = .ok (.goto 4, 3) := by decide +kernel
theorem dX7_drop_33 : decode cX7_drop 33 = .ok (.iload_n 2, 1) := by decide +kernel
theorem dX7_drop_34 : decode cX7_drop 34 = .ok (.ireturn, 1) := by decide +kernel
theorem dX7_extreme_0 : decode cX7_extreme 0 = .ok (.iconst (-1), 1) := by decide +kernel
theorem dX7_extreme_1 : decode cX7_extreme 1 = .ok (.istore_n 2, 1) := by decide +kernel
theorem dX7_extreme_2 : decode cX7_extreme 2 = .ok (.iconst 0, 1) := by decide +kernel
theorem dX7_extreme_3 : decode cX7_extreme 3 = .ok (.istore_n 3, 1) := by decide +kernel
theorem dX7_extreme_4 : decode cX7_extreme 4 = .ok (.iload_n 3, 1) := by decide +kernel
theorem dX7_extreme_5 : decode cX7_extreme 5 = .ok (.aload_n 0, 1) := by decide +kernel
theorem dX7_extreme_6 : decode cX7_extreme 6 = .ok (.getfield 126, 3) := by decide +kernel
theorem dX7_extreme_9 : decode cX7_extreme 9 = .ok (.if_icmp .ge 91, 3) := by decide +kernel
theorem dX7_extreme_12 : decode cX7_extreme 12 = .ok (.iload_n 2, 1) := by decide +kernel
theorem dX7_extreme_13 : decode cX7_extreme 13 = .ok (.iconst (-1), 1) := by decide +kernel
theorem dX7_extreme_14 : decode cX7_extreme 14 = .ok (.if_icmp .ne 7, 3) := by decide +kernel
theorem dX7_extreme_17 : decode cX7_extreme 17 = .ok (.iconst 0, 1) := by decide +kernel
theorem dX7_extreme_18 : decode cX7_extreme 18 = .ok (.goto 17, 3) := by decide +kernel
theorem dX7_extreme_21 : decode cX7_extreme 21 = .ok (.aload_n 0, 1) := by decide +kernel
theorem dX7_extreme_22 : decode cX7_extreme 22 = .ok (.getfield 7, 3) := by decide +kernel
theorem dX7_extreme_25 : decode cX7_extreme 25 = .ok (.iconst 0, 1) := by decide +kernel
theorem dX7_extreme_26 : decode cX7_extreme 26 = .ok (.iload_n 3, 1) := by decide +kernel
theorem dX7_extreme_27 : decode cX7_extreme 27 = .ok (.iadd, 1) := by decide +kernel
theorem dX7_extreme_28 : decode cX7_extreme 28 = .ok (.iaload, 1) := by decide +kernel
theorem dX7_extreme_29 : decode cX7_extreme 29 = .ok (.aload_n 0, 1) := by decide +kernel
theorem dX7_extreme_30 : decode cX7_extreme 30 = .ok (.iload_n 2, 1) := by decide +kernel
theorem dX7_extreme_31 : decode cX7_extreme 31 = .ok (.invokevirtual 175, 3) := by decide +kernel
theorem dX7_extreme_34 : decode cX7_extreme 34 = .ok (.imul, 1) := by decide +kernel
theorem dX7_extreme_35 : decode cX7_extreme 35 = .ok (.istore 4, 2) := by decide +kernel
theorem dX7_extreme_37 : decode cX7_extreme 37 = .ok (.iload_n 2, 1) := by decide +kernel
theorem dX7_extreme_38 : decode cX7_extreme 38 = .ok (.iconst (-1), 1) := by decide +kernel
theorem dX7_extreme_39 : decode cX7_extreme 39 = .ok (.if_icmp .ne 7, 3) := by decide +kernel
theorem dX7_extreme_42 : decode cX7_extreme 42 = .ok (.iconst 0, 1) := by decide +kernel
theorem dX7_extreme_43 : decode cX7_extreme 43 = .ok (.goto 17, 3) := by decide +kernel
theorem dX7_extreme_46 : decode cX7_extreme 46 = .ok (.aload_n 0, 1) := by decide +kernel
theorem dX7_extreme_47 : decode cX7_extreme 47 = .ok (.getfield 7, 3) := by decide +kernel
theorem dX7_extreme_50 : decode cX7_extreme 50 = .ok (.iconst 0, 1) := by decide +kernel
theorem dX7_extreme_51 : decode cX7_extreme 51 = .ok (.iload_n 2, 1) := by decide +kernel
theorem dX7_extreme_52 : decode cX7_extreme 52 = .ok (.iadd, 1) := by decide +kernel
theorem dX7_extreme_53 : decode cX7_extreme 53 = .ok (.iaload, 1) := by decide +kernel
theorem dX7_extreme_54 : decode cX7_extreme 54 = .ok (.aload_n 0, 1) := by decide +kernel
theorem dX7_extreme_55 : decode cX7_extreme 55 = .ok (.iload_n 3, 1) := by decide +kernel
theorem dX7_extreme_56 : decode cX7_extreme 56 = .ok (.invokevirtual 175, 3) := by decide +kernel
theorem dX7_extreme_59 : decode cX7_extreme 59 = .ok (.imul, 1) := by decide +kernel
theorem dX7_extreme_60 : decode cX7_extreme 60 = .ok (.istore 5, 2) := by decide +kernel
theorem dX7_extreme_62 : decode cX7_extreme 62 = .ok (.iload_n 2, 1) := by decide +kernel
theorem dX7_extreme_63 : decode cX7_extreme 63 = .ok (.iconst (-1), 1) := by decide +kernel
theorem dX7_extreme_64 : decode cX7_extreme 64 = .ok (.if_icmp .eq 24, 3) := by decide +kernel
theorem dX7_extreme_67 : decode cX7_extreme 67 = .ok (.iload_n 1, 1) := by decide +kernel
theorem dX7_extreme_68 : decode cX7_extreme 68 = .ok (.ifCond .eq 13, 3) := by decide +kernel
theorem dX7_extreme_71 : decode cX7_extreme 71 = .ok (.iload 4, 2) := by decide +kernel
theorem dX7_extreme_73 : decode cX7_extreme 73 = .ok (.iload 5, 2) := by decide +kernel
theorem dX7_extreme_75 : decode cX7_extreme 75 = .ok (.if_icmp .le 17, 3) := by decide +kernel
theorem dX7_extreme_78 : decode cX7_extreme 78 = .ok (.goto 10, 3) := by decide +kernel
theorem dX7_extreme_81 : decode cX7_extreme 81 = .ok (.iload 4, 2) := by decide +kernel
theorem dX7_extreme_83 : decode cX7_extreme 83 = .ok (.iload 5, 2) := by decide +kernel
theorem dX7_extreme_85 : decode cX7_extreme 85 = .ok (.if_icmp .ge 7, 3) := by decide +kernel
theorem dX7_extreme_88 : decode cX7_extreme 88 = .ok (.iload_n 3, 1) := by decide +kernel
theorem dX7_extreme_89 : decode cX7_extreme 89 = .ok (.goto 4, 3) := by decide +kernel
theorem dX7_extreme_92 : decode cX7_extreme 92 = .ok (.iload_n 2, 1) := by decide +kernel
theorem dX7_extreme_93 : decode cX7_extreme 93 = .ok (.istore_n 2, 1) := by decide +kernel
theorem dX7_extreme_94 : decode cX7_extreme 94 = .ok (.iinc 3 1, 3) := by decide +kernel
theorem dX7_extreme_97 : decode cX7_extreme 97 = .ok (.goto (-93), 3) := by decide +kernel
theorem dX7_extreme_100 : decode cX7_extreme 100 = .ok (.iload_n 2, 1) := by decide +kernel
theorem dX7_extreme_101 : decode cX7_extreme 101 = .ok (.ireturn, 1) := by decide +kernel
theorem dX7_alike_0 : decode cX7_alike 0 = .ok (.iconst 0, 1) := by decide +kernel
theorem dX7_alike_1 : decode cX7_alike 1 = .ok (.istore_n 1, 1) := by decide +kernel
theorem dX7_alike_2 : decode cX7_alike 2 = .ok (.iconst 0, 1) := by decide +kernel
theorem dX7_alike_3 : decode cX7_alike 3 = .ok (.istore_n 2, 1) := by decide +kernel
theorem dX7_alike_4 : decode cX7_alike 4 = .ok (.iload_n 2, 1) := by decide +kernel
theorem dX7_alike_5 : decode cX7_alike 5 = .ok (.aload_n 0, 1) := by decide +kernel
theorem dX7_alike_6 : decode cX7_alike 6 = .ok (.getfield 126, 3) := by decide +kernel
theorem dX7_alike_9 : decode cX7_alike 9 = .ok (.if_icmp .ge 64, 3) := by decide +kernel
theorem dX7_alike_12 : decode cX7_alike 12 = .ok (.iconst 0, 1) := by decide +kernel
theorem dX7_alike_13 : decode cX7_alike 13 = .ok (.istore_n 3, 1) := by decide +kernel
theorem dX7_alike_14 : decode cX7_alike 14 = .ok (.iload_n 3, 1) := by decide +kernel
theorem dX7_alike_15 : decode cX7_alike 15 = .ok (.iload_n 2, 1) := by decide +kernel
theorem dX7_alike_16 : decode cX7_alike 16 = .ok (.if_icmp .ge 51, 3) := by decide +kernel
theorem dX7_alike_19 : decode cX7_alike 19 = .ok (.iload_n 1, 1) := by decide +kernel
theorem dX7_alike_20 : decode cX7_alike 20 = .ok (.aload_n 0, 1) := by decide +kernel
theorem dX7_alike_21 : decode cX7_alike 21 = .ok (.getfield 25, 3) := by decide +kernel
theorem dX7_alike_24 : decode cX7_alike 24 = .ok (.iload_n 2, 1) := by decide +kernel
theorem dX7_alike_25 : decode cX7_alike 25 = .ok (.iaload, 1) := by decide +kernel
theorem dX7_alike_26 : decode cX7_alike 26 = .ok (.aload_n 0, 1) := by decide +kernel
theorem dX7_alike_27 : decode cX7_alike 27 = .ok (.getfield 25, 3) := by decide +kernel
theorem dX7_alike_30 : decode cX7_alike 30 = .ok (.iload_n 3, 1) := by decide +kernel
theorem dX7_alike_31 : decode cX7_alike 31 = .ok (.iaload, 1) := by decide +kernel
theorem dX7_alike_32 : decode cX7_alike 32 = .ok (.if_icmp .ne 26, 3) := by decide +kernel
theorem dX7_alike_35 : decode cX7_alike 35 = .ok (.aload_n 0, 1) := by decide +kernel
theorem dX7_alike_36 : decode cX7_alike 36 = .ok (.getfield 7, 3) := by decide +kernel
theorem dX7_alike_39 : decode cX7_alike 39 = .ok (.iconst 0, 1) := by decide +kernel
theorem dX7_alike_40 : decode cX7_alike 40 = .ok (.iload_n 2, 1) := by decide +kernel
theorem dX7_alike_41 : decode cX7_alike 41 = .ok (.iadd, 1) := by decide +kernel
theorem dX7_alike_42 : decode cX7_alike 42 = .ok (.iaload, 1) := by decide +kernel
theorem dX7_alike_43 : decode cX7_alike 43 = .ok (.aload_n 0, 1) := by decide +kernel
theorem dX7_alike_44 : decode cX7_alike 44 = .ok (.getfield 7, 3) := by decide +kernel
theorem dX7_alike_47 : decode cX7_alike 47 = .ok (.iconst 0, 1) := by decide +kernel
theorem dX7_alike_48 : decode cX7_alike 48 = .ok (.iload_n 3, 1) := by decide +kernel
theorem dX7_alike_49 : decode cX7_alike 49 = .ok (.iadd, 1) := by decide +kernel
theorem dX7_alike_50 : decode cX7_alike 50 = .ok (.iaload, 1) := by decide +kernel
theorem dX7_alike_51 : decode cX7_alike 51 = .ok (.if_icmp .ne 7, 3) := by decide +kernel
theorem dX7_alike_54 : decode cX7_alike 54 = .ok (.iconst 1, 1) := by decide +kernel
theorem dX7_alike_55 : decode cX7_alike 55 = .ok (.goto 4, 3) := by decide +kernel
theorem dX7_alike_58 : decode cX7_alike 58 = .ok (.iconst 0, 1) := by decide +kernel
theorem dX7_alike_59 : decode cX7_alike 59 = .ok (.iadd, 1) := by decide +kernel
theorem dX7_alike_60 : decode cX7_alike 60 = .ok (.istore_n 1, 1) := by decide +kernel
theorem dX7_alike_61 : decode cX7_alike 61 = .ok (.iinc 3 1, 3) := by decide +kernel
theorem dX7_alike_64 : decode cX7_alike 64 = .ok (.goto (-50), 3) := by decide +kernel
theorem dX7_alike_67 : decode cX7_alike 67 = .ok (.iinc 2 1, 3) := by decide +kernel
theorem dX7_alike_70 : decode cX7_alike 70 = .ok (.goto (-66), 3) := by decide +kernel
theorem dX7_alike_73 : decode cX7_alike 73 = .ok (.iload_n 1, 1) := by decide +kernel
theorem dX7_alike_74 : decode cX7_alike 74 = .ok (.ireturn, 1) := by decide +kernel
theorem dX7_allKeys_0 : decode cX7_allKeys 0 = .ok (.iconst 0, 1) := by decide +kernel
theorem dX7_allKeys_1 : decode cX7_allKeys 1 = .ok (.istore_n 1, 1) := by decide +kernel
theorem dX7_allKeys_2 : decode cX7_allKeys 2 = .ok (.iconst 0, 1) := by decide +kernel
theorem dX7_allKeys_3 : decode cX7_allKeys 3 = .ok (.istore_n 2, 1) := by decide +kernel
theorem dX7_allKeys_4 : decode cX7_allKeys 4 = .ok (.iload_n 2, 1) := by decide +kernel
theorem dX7_allKeys_5 : decode cX7_allKeys 5 = .ok (.iconst 3, 1) := by decide +kernel
theorem dX7_allKeys_6 : decode cX7_allKeys 6 = .ok (.if_icmp .ge 31, 3) := by decide +kernel
theorem dX7_allKeys_9 : decode cX7_allKeys 9 = .ok (.iload_n 1, 1) := by decide +kernel
theorem dX7_allKeys_10 : decode cX7_allKeys 10 = .ok (.aload_n 0, 1) := by decide +kernel
theorem dX7_allKeys_11 : decode cX7_allKeys 11 = .ok (.getfield 35, 3) := by decide +kernel
theorem dX7_allKeys_14 : decode cX7_allKeys 14 = .ok (.iload_n 2, 1) := by decide +kernel
theorem dX7_allKeys_15 : decode cX7_allKeys 15 = .ok (.iaload, 1) := by decide +kernel
theorem dX7_allKeys_16 : decode cX7_allKeys 16 = .ok (.ifCond .ge 7, 3) := by decide +kernel
theorem dX7_allKeys_19 : decode cX7_allKeys 19 = .ok (.iconst 0, 1) := by decide +kernel
theorem dX7_allKeys_20 : decode cX7_allKeys 20 = .ok (.goto 9, 3) := by decide +kernel
theorem dX7_allKeys_23 : decode cX7_allKeys 23 = .ok (.aload_n 0, 1) := by decide +kernel
theorem dX7_allKeys_24 : decode cX7_allKeys 24 = .ok (.getfield 35, 3) := by decide +kernel
theorem dX7_allKeys_27 : decode cX7_allKeys 27 = .ok (.iload_n 2, 1) := by decide +kernel
theorem dX7_allKeys_28 : decode cX7_allKeys 28 = .ok (.iaload, 1) := by decide +kernel
theorem dX7_allKeys_29 : decode cX7_allKeys 29 = .ok (.iadd, 1) := by decide +kernel
theorem dX7_allKeys_30 : decode cX7_allKeys 30 = .ok (.istore_n 1, 1) := by decide +kernel
theorem dX7_allKeys_31 : decode cX7_allKeys 31 = .ok (.iinc 2 1, 3) := by decide +kernel
theorem dX7_allKeys_34 : decode cX7_allKeys 34 = .ok (.goto (-30), 3) := by decide +kernel
theorem dX7_allKeys_37 : decode cX7_allKeys 37 = .ok (.iload_n 1, 1) := by decide +kernel
theorem dX7_allKeys_38 : decode cX7_allKeys 38 = .ok (.ireturn, 1) := by decide +kernel
theorem dX7_count_0 : decode cX7_count 0 = .ok (.iload_n 1, 1) := by decide +kernel
theorem dX7_count_1 : decode cX7_count 1 = .ok (.tableswitch 179 0 15 #[79, 84, 89, 97, 105, 113, 118, 123, 131, 139, 145, 151, 156, 164, 169, 174], 79) := by decide +kernel
theorem dX7_count_80 : decode cX7_count 80 = .ok (.aload_n 0, 1) := by decide +kernel
theorem dX7_count_81 : decode cX7_count 81 = .ok (.getfield 123, 3) := by decide +kernel
theorem dX7_count_84 : decode cX7_count 84 = .ok (.ireturn, 1) := by decide +kernel
theorem dX7_count_85 : decode cX7_count 85 = .ok (.aload_n 0, 1) := by decide +kernel
theorem dX7_count_86 : decode cX7_count 86 = .ok (.getfield 126, 3) := by decide +kernel
theorem dX7_count_89 : decode cX7_count 89 = .ok (.ireturn, 1) := by decide +kernel
theorem dX7_count_90 : decode cX7_count 90 = .ok (.aload_n 0, 1) := by decide +kernel
theorem dX7_count_91 : decode cX7_count 91 = .ok (.getfield 7, 3) := by decide +kernel
theorem dX7_count_94 : decode cX7_count 94 = .ok (.bipush 10, 2) := by decide +kernel
theorem dX7_count_96 : decode cX7_count 96 = .ok (.iaload, 1) := by decide +kernel
theorem dX7_count_97 : decode cX7_count 97 = .ok (.ireturn, 1) := by decide +kernel
theorem dX7_count_98 : decode cX7_count 98 = .ok (.aload_n 0, 1) := by decide +kernel
theorem dX7_count_99 : decode cX7_count 99 = .ok (.getfield 7, 3) := by decide +kernel
theorem dX7_count_102 : decode cX7_count 102 = .ok (.bipush 11, 2) := by decide +kernel
theorem dX7_count_104 : decode cX7_count 104 = .ok (.iaload, 1) := by decide +kernel
theorem dX7_count_105 : decode cX7_count 105 = .ok (.ireturn, 1) := by decide +kernel
theorem dX7_count_106 : decode cX7_count 106 = .ok (.aload_n 0, 1) := by decide +kernel
theorem dX7_count_107 : decode cX7_count 107 = .ok (.getfield 7, 3) := by decide +kernel
theorem dX7_count_110 : decode cX7_count 110 = .ok (.bipush 12, 2) := by decide +kernel
theorem dX7_count_112 : decode cX7_count 112 = .ok (.iaload, 1) := by decide +kernel
theorem dX7_count_113 : decode cX7_count 113 = .ok (.ireturn, 1) := by decide +kernel
theorem dX7_count_114 : decode cX7_count 114 = .ok (.aload_n 0, 1) := by decide +kernel
theorem dX7_count_115 : decode cX7_count 115 = .ok (.invokevirtual 219, 3) := by decide +kernel
theorem dX7_count_118 : decode cX7_count 118 = .ok (.ireturn, 1) := by decide +kernel
theorem dX7_count_119 : decode cX7_count 119 = .ok (.aload_n 0, 1) := by decide +kernel
theorem dX7_count_120 : decode cX7_count 120 = .ok (.invokevirtual 222, 3) := by decide +kernel
theorem dX7_count_123 : decode cX7_count 123 = .ok (.ireturn, 1) := by decide +kernel
theorem dX7_count_124 : decode cX7_count 124 = .ok (.aload_n 0, 1) := by decide +kernel
theorem dX7_count_125 : decode cX7_count 125 = .ok (.getfield 7, 3) := by decide +kernel
theorem dX7_count_128 : decode cX7_count 128 = .ok (.bipush 13, 2) := by decide +kernel
theorem dX7_count_130 : decode cX7_count 130 = .ok (.iaload, 1) := by decide +kernel
theorem dX7_count_131 : decode cX7_count 131 = .ok (.ireturn, 1) := by decide +kernel
theorem dX7_count_132 : decode cX7_count 132 = .ok (.aload_n 0, 1) := by decide +kernel
theorem dX7_count_133 : decode cX7_count 133 = .ok (.getfield 7, 3) := by decide +kernel
theorem dX7_count_136 : decode cX7_count 136 = .ok (.bipush 14, 2) := by decide +kernel
theorem dX7_count_138 : decode cX7_count 138 = .ok (.iaload, 1) := by decide +kernel
theorem dX7_count_139 : decode cX7_count 139 = .ok (.ireturn, 1) := by decide +kernel
theorem dX7_count_140 : decode cX7_count 140 = .ok (.aload_n 0, 1) := by decide +kernel
theorem dX7_count_141 : decode cX7_count 141 = .ok (.iconst 1, 1) := by decide +kernel
theorem dX7_count_142 : decode cX7_count 142 = .ok (.invokevirtual 256, 3) := by decide +kernel
theorem dX7_count_145 : decode cX7_count 145 = .ok (.ireturn, 1) := by decide +kernel
theorem dX7_count_146 : decode cX7_count 146 = .ok (.aload_n 0, 1) := by decide +kernel
theorem dX7_count_147 : decode cX7_count 147 = .ok (.iconst 0, 1) := by decide +kernel
theorem dX7_count_148 : decode cX7_count 148 = .ok (.invokevirtual 256, 3) := by decide +kernel
theorem dX7_count_151 : decode cX7_count 151 = .ok (.ireturn, 1) := by decide +kernel
theorem dX7_count_152 : decode cX7_count 152 = .ok (.aload_n 0, 1) := by decide +kernel
theorem dX7_count_153 : decode cX7_count 153 = .ok (.invokevirtual 260, 3) := by decide +kernel
theorem dX7_count_156 : decode cX7_count 156 = .ok (.ireturn, 1) := by decide +kernel
theorem dX7_count_157 : decode cX7_count 157 = .ok (.aload_n 0, 1) := by decide +kernel
theorem dX7_count_158 : decode cX7_count 158 = .ok (.getfield 7, 3) := by decide +kernel
theorem dX7_count_161 : decode cX7_count 161 = .ok (.bipush 15, 2) := by decide +kernel
theorem dX7_count_163 : decode cX7_count 163 = .ok (.iaload, 1) := by decide +kernel
theorem dX7_count_164 : decode cX7_count 164 = .ok (.ireturn, 1) := by decide +kernel
theorem dX7_count_165 : decode cX7_count 165 = .ok (.aload_n 0, 1) := by decide +kernel
theorem dX7_count_166 : decode cX7_count 166 = .ok (.invokevirtual 263, 3) := by decide +kernel
theorem dX7_count_169 : decode cX7_count 169 = .ok (.ireturn, 1) := by decide +kernel
theorem dX7_count_170 : decode cX7_count 170 = .ok (.aload_n 0, 1) := by decide +kernel
theorem dX7_count_171 : decode cX7_count 171 = .ok (.getfield 157, 3) := by decide +kernel
theorem dX7_count_174 : decode cX7_count 174 = .ok (.ireturn, 1) := by decide +kernel
theorem dX7_count_175 : decode cX7_count 175 = .ok (.aload_n 0, 1) := by decide +kernel
theorem dX7_count_176 : decode cX7_count 176 = .ok (.getfield 69, 3) := by decide +kernel
theorem dX7_count_179 : decode cX7_count 179 = .ok (.ireturn, 1) := by decide +kernel
theorem dX7_count_180 : decode cX7_count 180 = .ok (.ldc 68, 2) := by decide +kernel
theorem dX7_count_182 : decode cX7_count 182 = .ok (.ireturn, 1) := by decide +kernel
theorem dJ6_compare_7cf53_0 : decode cJ6_compare_7cf53 0 = .ok (.iload_n 0, 1) := by decide +kernel
theorem dJ6_compare_7cf53_1 : decode cJ6_compare_7cf53 1 = .ok (.iload_n 1, 1) := by decide +kernel
theorem dJ6_compare_7cf53_2 : decode cJ6_compare_7cf53 2 = .ok (.if_icmp .ge 7, 3) := by decide +kernel
theorem dJ6_compare_7cf53_5 : decode cJ6_compare_7cf53 5 = .ok (.iconst (-1), 1) := by decide +kernel
theorem dJ6_compare_7cf53_6 : decode cJ6_compare_7cf53 6 = .ok (.goto 13, 3) := by decide +kernel
theorem dJ6_compare_7cf53_9 : decode cJ6_compare_7cf53 9 = .ok (.iload_n 0, 1) := by decide +kernel
theorem dJ6_compare_7cf53_10 : decode cJ6_compare_7cf53 10 = .ok (.iload_n 1, 1) := by decide +kernel
theorem dJ6_compare_7cf53_11 : decode cJ6_compare_7cf53 11 = .ok (.if_icmp .ne 7, 3) := by decide +kernel
theorem dJ6_compare_7cf53_14 : decode cJ6_compare_7cf53 14 = .ok (.iconst 0, 1) := by decide +kernel
theorem dJ6_compare_7cf53_15 : decode cJ6_compare_7cf53 15 = .ok (.goto 4, 3) := by decide +kernel
theorem dJ6_compare_7cf53_18 : decode cJ6_compare_7cf53 18 = .ok (.iconst 1, 1) := by decide +kernel
theorem dJ6_compare_7cf53_19 : decode cJ6_compare_7cf53 19 = .ok (.ireturn, 1) := by decide +kernel
theorem dJ9_abs_067f4_0 : decode cJ9_abs_067f4 0 = .ok (.lload_n 0, 1) := by decide +kernel
theorem dJ9_abs_067f4_1 : decode cJ9_abs_067f4 1 = .ok (.lconst 0, 1) := by decide +kernel
theorem dJ9_abs_067f4_2 : decode cJ9_abs_067f4 2 = .ok (.lcmp, 1) := by decide +kernel
theorem dJ9_abs_067f4_3 : decode cJ9_abs_067f4 3 = .ok (.ifCond .ge 8, 3) := by decide +kernel
theorem dJ9_abs_067f4_6 : decode cJ9_abs_067f4 6 = .ok (.lload_n 0, 1) := by decide +kernel
theorem dJ9_abs_067f4_7 : decode cJ9_abs_067f4 7 = .ok (.lneg, 1) := by decide +kernel
theorem dJ9_abs_067f4_8 : decode cJ9_abs_067f4 8 = .ok (.goto 4, 3) := by decide +kernel
theorem dJ9_abs_067f4_11 : decode cJ9_abs_067f4 11 = .ok (.lload_n 0, 1) := by decide +kernel
theorem dJ9_abs_067f4_12 : decode cJ9_abs_067f4 12 = .ok (.lreturn, 1) := by decide +kernel
theorem dJ9_max_f86c9_0 : decode cJ9_max_f86c9 0 = .ok (.lload_n 0, 1) := by decide +kernel
theorem dJ9_max_f86c9_1 : decode cJ9_max_f86c9 1 = .ok (.lload_n 2, 1) := by decide +kernel
theorem dJ9_max_f86c9_2 : decode cJ9_max_f86c9 2 = .ok (.lcmp, 1) := by decide +kernel
theorem dJ9_max_f86c9_3 : decode cJ9_max_f86c9 3 = .ok (.ifCond .lt 7, 3) := by decide +kernel
theorem dJ9_max_f86c9_6 : decode cJ9_max_f86c9 6 = .ok (.lload_n 0, 1) := by decide +kernel
theorem dJ9_max_f86c9_7 : decode cJ9_max_f86c9 7 = .ok (.goto 4, 3) := by decide +kernel
theorem dJ9_max_f86c9_10 : decode cJ9_max_f86c9 10 = .ok (.lload_n 2, 1) := by decide +kernel
theorem dJ9_max_f86c9_11 : decode cJ9_max_f86c9 11 = .ok (.lreturn, 1) := by decide +kernel
theorem dJ9_min_7cf53_0 : decode cJ9_min_7cf53 0 = .ok (.iload_n 0, 1) := by decide +kernel
theorem dJ9_min_7cf53_1 : decode cJ9_min_7cf53 1 = .ok (.iload_n 1, 1) := by decide +kernel
theorem dJ9_min_7cf53_2 : decode cJ9_min_7cf53 2 = .ok (.if_icmp .gt 7, 3) := by decide +kernel
theorem dJ9_min_7cf53_5 : decode cJ9_min_7cf53 5 = .ok (.iload_n 0, 1) := by decide +kernel
theorem dJ9_min_7cf53_6 : decode cJ9_min_7cf53 6 = .ok (.goto 4, 3) := by decide +kernel
theorem dJ9_min_7cf53_9 : decode cJ9_min_7cf53 9 = .ok (.iload_n 1, 1) := by decide +kernel
theorem dJ9_min_7cf53_10 : decode cJ9_min_7cf53 10 = .ok (.ireturn, 1) := by decide +kernel
theorem dJ0_length_8abf5_0 : decode cJ0_length_8abf5 0 = .ok (.aload_n 0, 1) := by decide +kernel
theorem dJ0_length_8abf5_1 : decode cJ0_length_8abf5 1 = .ok (.getfield 9, 3) := by decide +kernel
theorem dJ0_length_8abf5_4 : decode cJ0_length_8abf5 4 = .ok (.arraylength, 1) := by decide +kernel
theorem dJ0_length_8abf5_5 : decode cJ0_length_8abf5 5 = .ok (.aload_n 0, 1) := by decide +kernel
theorem dJ0_length_8abf5_6 : decode cJ0_length_8abf5 6 = .ok (.invokevirtual 335, 3) := by decide +kernel
theorem dJ0_length_8abf5_9 : decode cJ0_length_8abf5 9 = .ok (.ishr, 1) := by decide +kernel
theorem dJ0_length_8abf5_10 : decode cJ0_length_8abf5 10 = .ok (.ireturn, 1) := by decide +kernel
theorem dJ0_charAt_5068e_0 : decode cJ0_charAt_5068e 0 = .ok (.aload_n 0, 1) := by decide +kernel
theorem dJ0_charAt_5068e_1 : decode cJ0_charAt_5068e 1 = .ok (.invokevirtual 492, 3) := by decide +kernel
theorem dJ0_charAt_5068e_4 : decode cJ0_charAt_5068e 4 = .ok (.ifCond .eq 12, 3) := by decide +kernel
theorem dJ0_charAt_5068e_7 : decode cJ0_charAt_5068e 7 = .ok (.aload_n 0, 1) := by decide +kernel
theorem dJ0_charAt_5068e_8 : decode cJ0_charAt_5068e 8 = .ok (.getfield 9, 3) := by decide +kernel
theorem dJ0_charAt_5068e_11 : decode cJ0_charAt_5068e 11 = .ok (.iload_n 1, 1) := by decide +kernel
theorem dJ0_charAt_5068e_12 : decode cJ0_charAt_5068e 12 = .ok (.invokestatic 495, 3) := by decide +kernel
theorem dJ0_charAt_5068e_15 : decode cJ0_charAt_5068e 15 = .ok (.ireturn, 1) := by decide +kernel
theorem dJ0_charAt_5068e_16 : decode cJ0_charAt_5068e 16 = .ok (.aload_n 0, 1) := by decide +kernel
theorem dJ0_charAt_5068e_17 : decode cJ0_charAt_5068e 17 = .ok (.getfield 9, 3) := by decide +kernel
theorem dJ0_charAt_5068e_20 : decode cJ0_charAt_5068e 20 = .ok (.iload_n 1, 1) := by decide +kernel
theorem dJ0_charAt_5068e_21 : decode cJ0_charAt_5068e 21 = .ok (.invokestatic 498, 3) := by decide +kernel
theorem dJ0_charAt_5068e_24 : decode cJ0_charAt_5068e 24 = .ok (.ireturn, 1) := by decide +kernel
theorem dJ0_coder_7d493_0 : decode cJ0_coder_7d493 0 = .ok (.getstatic 38, 3) := by decide +kernel
theorem dJ0_coder_7d493_3 : decode cJ0_coder_7d493 3 = .ok (.ifCond .eq 10, 3) := by decide +kernel
theorem dJ0_coder_7d493_6 : decode cJ0_coder_7d493 6 = .ok (.aload_n 0, 1) := by decide +kernel
theorem dJ0_coder_7d493_7 : decode cJ0_coder_7d493 7 = .ok (.getfield 15, 3) := by decide +kernel
theorem dJ0_coder_7d493_10 : decode cJ0_coder_7d493 10 = .ok (.goto 4, 3) := by decide +kernel
theorem dJ0_coder_7d493_13 : decode cJ0_coder_7d493 13 = .ok (.iconst 1, 1) := by decide +kernel
theorem dJ0_coder_7d493_14 : decode cJ0_coder_7d493 14 = .ok (.ireturn, 1) := by decide +kernel
theorem dJ0_isLatin1_aae02_0 : decode cJ0_isLatin1_aae02 0 = .ok (.getstatic 38, 3) := by decide +kernel
theorem dJ0_isLatin1_aae02_3 : decode cJ0_isLatin1_aae02 3 = .ok (.ifCond .eq 14, 3) := by decide +kernel
theorem dJ0_isLatin1_aae02_6 : decode cJ0_isLatin1_aae02 6 = .ok (.aload_n 0, 1) := by decide +kernel
theorem dJ0_isLatin1_aae02_7 : decode cJ0_isLatin1_aae02 7 = .ok (.getfield 15, 3) := by decide +kernel
theorem dJ0_isLatin1_aae02_10 : decode cJ0_isLatin1_aae02 10 = .ok (.ifCond .ne 7, 3) := by decide +kernel
theorem dJ0_isLatin1_aae02_13 : decode cJ0_isLatin1_aae02 13 = .ok (.iconst 1, 1) := by decide +kernel
theorem dJ0_isLatin1_aae02_14 : decode cJ0_isLatin1_aae02 14 = .ok (.goto 4, 3) := by decide +kernel
theorem dJ0_isLatin1_aae02_17 : decode cJ0_isLatin1_aae02 17 = .ok (.iconst 0, 1) := by decide +kernel
theorem dJ0_isLatin1_aae02_18 : decode cJ0_isLatin1_aae02 18 = .ok (.ireturn, 1) := by decide +kernel
theorem dJ0_checkIndex_df160_0 : decode cJ0_checkIndex_df160 0 = .ok (.iload_n 0, 1) := by decide +kernel
theorem dJ0_checkIndex_df160_1 : decode cJ0_checkIndex_df160 1 = .ok (.iload_n 1, 1) := by decide +kernel
theorem dJ0_checkIndex_df160_2 : decode cJ0_checkIndex_df160 2 = .ok (.getstatic 1053, 3) := by decide +kernel
theorem dJ0_checkIndex_df160_5 : decode cJ0_checkIndex_df160 5 = .ok (.invokestatic 1059, 3) := by decide +kernel
theorem dJ0_checkIndex_df160_8 : decode cJ0_checkIndex_df160 8 = .ok (.pop, 1) := by decide +kernel
theorem dJ0_checkIndex_df160_9 : decode cJ0_checkIndex_df160 9 = .ok (.return_, 1) := by decide +kernel
theorem dJ1_charAt_3b067_0 : decode cJ1_charAt_3b067 0 = .ok (.iload_n 1, 1) := by decide +kernel
theorem dJ1_charAt_3b067_1 : decode cJ1_charAt_3b067 1 = .ok (.aload_n 0, 1) := by decide +kernel
theorem dJ1_charAt_3b067_2 : decode cJ1_charAt_3b067 2 = .ok (.arraylength, 1) := by decide +kernel
theorem dJ1_charAt_3b067_3 : decode cJ1_charAt_3b067 3 = .ok (.invokestatic 9, 3) := by decide +kernel
theorem dJ1_charAt_3b067_6 : decode cJ1_charAt_3b067 6 = .ok (.aload_n 0, 1) := by decide +kernel
theorem dJ1_charAt_3b067_7 : decode cJ1_charAt_3b067 7 = .ok (.iload_n 1, 1) := by decide +kernel
theorem dJ1_charAt_3b067_8 : decode cJ1_charAt_3b067 8 = .ok (.baload, 1) := by decide +kernel
theorem dJ1_charAt_3b067_9 : decode cJ1_charAt_3b067 9 = .ok (.sipush 255, 3) := by decide +kernel
theorem dJ1_charAt_3b067_12 : decode cJ1_charAt_3b067 12 = .ok (.iand, 1) := by decide +kernel
theorem dJ1_charAt_3b067_13 : decode cJ1_charAt_3b067 13 = .ok (.i2c, 1) := by decide +kernel
theorem dJ1_charAt_3b067_14 : decode cJ1_charAt_3b067 14 = .ok (.ireturn, 1) := by decide +kernel
theorem dJ2_getChar_3b067_0 : decode cJ2_getChar_3b067 0 = .ok (.getstatic 44, 3) := by decide +kernel
theorem dJ2_getChar_3b067_3 : decode cJ2_getChar_3b067 3 = .ok (.ifCond .ne 25, 3) := by decide +kernel
theorem dJ2_getChar_3b067_6 : decode cJ2_getChar_3b067 6 = .ok (.iload_n 1, 1) := by decide +kernel
theorem dJ2_getChar_3b067_7 : decode cJ2_getChar_3b067 7 = .ok (.ifCond .lt 11, 3) := by decide +kernel
theorem dJ2_getChar_3b067_10 : decode cJ2_getChar_3b067 10 = .ok (.iload_n 1, 1) := by decide +kernel
theorem dJ2_getChar_3b067_11 : decode cJ2_getChar_3b067 11 = .ok (.aload_n 0, 1) := by decide +kernel
theorem dJ2_getChar_3b067_12 : decode cJ2_getChar_3b067 12 = .ok (.invokestatic 48, 3) := by decide +kernel
theorem dJ2_getChar_3b067_15 : decode cJ2_getChar_3b067 15 = .ok (.if_icmp .lt 13, 3) := by decide +kernel
theorem dJ2_getChar_3b067_18 : decode cJ2_getChar_3b067 18 = .ok (.new 52, 3) := by decide +kernel
theorem dJ2_getChar_3b067_21 : decode cJ2_getChar_3b067 21 = .ok (.dup, 1) := by decide +kernel
theorem dJ2_getChar_3b067_22 : decode cJ2_getChar_3b067 22 = .ok (.ldc 54, 2) := by decide +kernel
theorem dJ2_getChar_3b067_24 : decode cJ2_getChar_3b067 24 = .ok (.invokespecial 56, 3) := by decide +kernel
theorem dJ2_getChar_3b067_27 : decode cJ2_getChar_3b067 27 = .ok (.athrow, 1) := by decide +kernel
theorem dJ2_getChar_3b067_28 : decode cJ2_getChar_3b067 28 = .ok (.iload_n 1, 1) := by decide +kernel
theorem dJ2_getChar_3b067_29 : decode cJ2_getChar_3b067 29 = .ok (.iconst 1, 1) := by decide +kernel
theorem dJ2_getChar_3b067_30 : decode cJ2_getChar_3b067 30 = .ok (.ishl, 1) := by decide +kernel
theorem dJ2_getChar_3b067_31 : decode cJ2_getChar_3b067 31 = .ok (.istore_n 1, 1) := by decide +kernel
theorem dJ2_getChar_3b067_32 : decode cJ2_getChar_3b067 32 = .ok (.aload_n 0, 1) := by decide +kernel
theorem dJ2_getChar_3b067_33 : decode cJ2_getChar_3b067 33 = .ok (.iload_n 1, 1) := by decide +kernel
theorem dJ2_getChar_3b067_34 : decode cJ2_getChar_3b067 34 = .ok (.iinc 1 1, 3) := by decide +kernel
theorem dJ2_getChar_3b067_37 : decode cJ2_getChar_3b067 37 = .ok (.baload, 1) := by decide +kernel
theorem dJ2_getChar_3b067_38 : decode cJ2_getChar_3b067 38 = .ok (.sipush 255, 3) := by decide +kernel
theorem dJ2_getChar_3b067_41 : decode cJ2_getChar_3b067 41 = .ok (.iand, 1) := by decide +kernel
theorem dJ2_getChar_3b067_42 : decode cJ2_getChar_3b067 42 = .ok (.getstatic 59, 3) := by decide +kernel
theorem dJ2_getChar_3b067_45 : decode cJ2_getChar_3b067 45 = .ok (.ishl, 1) := by decide +kernel
theorem dJ2_getChar_3b067_46 : decode cJ2_getChar_3b067 46 = .ok (.aload_n 0, 1) := by decide +kernel
theorem dJ2_getChar_3b067_47 : decode cJ2_getChar_3b067 47 = .ok (.iload_n 1, 1) := by decide +kernel
theorem dJ2_getChar_3b067_48 : decode cJ2_getChar_3b067 48 = .ok (.baload, 1) := by decide +kernel
theorem dJ2_getChar_3b067_49 : decode cJ2_getChar_3b067 49 = .ok (.sipush 255, 3) := by decide +kernel
theorem dJ2_getChar_3b067_52 : decode cJ2_getChar_3b067 52 = .ok (.iand, 1) := by decide +kernel
theorem dJ2_getChar_3b067_53 : decode cJ2_getChar_3b067 53 = .ok (.getstatic 63, 3) := by decide +kernel
theorem dJ2_getChar_3b067_56 : decode cJ2_getChar_3b067 56 = .ok (.ishl, 1) := by decide +kernel
theorem dJ2_getChar_3b067_57 : decode cJ2_getChar_3b067 57 = .ok (.ior, 1) := by decide +kernel
theorem dJ2_getChar_3b067_58 : decode cJ2_getChar_3b067 58 = .ok (.i2c, 1) := by decide +kernel
theorem dJ2_getChar_3b067_59 : decode cJ2_getChar_3b067 59 = .ok (.ireturn, 1) := by decide +kernel
theorem dJ2_length_9d52b_0 : decode cJ2_length_9d52b 0 = .ok (.aload_n 0, 1) := by decide +kernel
theorem dJ2_length_9d52b_1 : decode cJ2_length_9d52b 1 = .ok (.arraylength, 1) := by decide +kernel
theorem dJ2_length_9d52b_2 : decode cJ2_length_9d52b 2 = .ok (.iconst 1, 1) := by decide +kernel
theorem dJ2_length_9d52b_3 : decode cJ2_length_9d52b 3 = .ok (.ishr, 1) := by decide +kernel
theorem dJ2_length_9d52b_4 : decode cJ2_length_9d52b 4 = .ok (.ireturn, 1) := by decide +kernel
theorem dJ2_charAt_3b067_0 : decode cJ2_charAt_3b067 0 = .ok (.iload_n 1, 1) := by decide +kernel
theorem dJ2_charAt_3b067_1 : decode cJ2_charAt_3b067 1 = .ok (.aload_n 0, 1) := by decide +kernel
theorem dJ2_charAt_3b067_2 : decode cJ2_charAt_3b067 2 = .ok (.invokestatic 67, 3) := by decide +kernel
theorem dJ2_charAt_3b067_5 : decode cJ2_charAt_3b067 5 = .ok (.aload_n 0, 1) := by decide +kernel
theorem dJ2_charAt_3b067_6 : decode cJ2_charAt_3b067 6 = .ok (.iload_n 1, 1) := by decide +kernel
theorem dJ2_charAt_3b067_7 : decode cJ2_charAt_3b067 7 = .ok (.invokestatic 71, 3) := by decide +kernel
theorem dJ2_charAt_3b067_10 : decode cJ2_charAt_3b067 10 = .ok (.ireturn, 1) := by decide +kernel
theorem dJ2_checkIndex_2214a_0 : decode cJ2_checkIndex_2214a 0 = .ok (.iload_n 0, 1) := by decide +kernel
theorem dJ2_checkIndex_2214a_1 : decode cJ2_checkIndex_2214a 1 = .ok (.aload_n 1, 1) := by decide +kernel
theorem dJ2_checkIndex_2214a_2 : decode cJ2_checkIndex_2214a 2 = .ok (.invokestatic 48, 3) := by decide +kernel
theorem dJ2_checkIndex_2214a_5 : decode cJ2_checkIndex_2214a 5 = .ok (.invokestatic 414, 3) := by decide +kernel
theorem dJ2_checkIndex_2214a_8 : decode cJ2_checkIndex_2214a 8 = .ok (.return_, 1) := by decide +kernel
theorem dJ3_checkIndex_8e157_0 : decode cJ3_checkIndex_8e157 0 = .ok (.iload_n 0, 1) := by decide +kernel
theorem dJ3_checkIndex_8e157_1 : decode cJ3_checkIndex_8e157 1 = .ok (.ifCond .lt 8, 3) := by decide +kernel
theorem dJ3_checkIndex_8e157_4 : decode cJ3_checkIndex_8e157 4 = .ok (.iload_n 0, 1) := by decide +kernel
theorem dJ3_checkIndex_8e157_5 : decode cJ3_checkIndex_8e157 5 = .ok (.iload_n 1, 1) := by decide +kernel
theorem dJ3_checkIndex_8e157_6 : decode cJ3_checkIndex_8e157 6 = .ok (.if_icmp .lt 10, 3) := by decide +kernel
theorem dJ3_checkIndex_8e157_9 : decode cJ3_checkIndex_8e157 9 = .ok (.aload_n 2, 1) := by decide +kernel
theorem dJ3_checkIndex_8e157_10 : decode cJ3_checkIndex_8e157 10 = .ok (.iload_n 0, 1) := by decide +kernel
theorem dJ3_checkIndex_8e157_11 : decode cJ3_checkIndex_8e157 11 = .ok (.iload_n 1, 1) := by decide +kernel
theorem dJ3_checkIndex_8e157_12 : decode cJ3_checkIndex_8e157 12 = .ok (.invokestatic 95, 3) := by decide +kernel
theorem dJ3_checkIndex_8e157_15 : decode cJ3_checkIndex_8e157 15 = .ok (.athrow, 1) := by decide +kernel
theorem dJ3_checkIndex_8e157_16 : decode cJ3_checkIndex_8e157 16 = .ok (.iload_n 0, 1) := by decide +kernel
theorem dJ3_checkIndex_8e157_17 : decode cJ3_checkIndex_8e157 17 = .ok (.ireturn, 1) := by decide +kernel
theorem dL_law_0 : decode cL_law 0 = .ok (.new 7, 3) := by decide +kernel
theorem dL_law_3 : decode cL_law 3 = .ok (.dup, 1) := by decide +kernel
theorem dL_law_4 : decode cL_law 4 = .ok (.invokespecial 9, 3) := by decide +kernel
theorem dL_law_7 : decode cL_law 7 = .ok (.astore_n 1, 1) := by decide +kernel
theorem dL_law_8 : decode cL_law 8 = .ok (.new 10, 3) := by decide +kernel
theorem dL_law_11 : decode cL_law 11 = .ok (.dup, 1) := by decide +kernel
theorem dL_law_12 : decode cL_law 12 = .ok (.invokespecial 12, 3) := by decide +kernel
theorem dL_law_15 : decode cL_law 15 = .ok (.astore_n 2, 1) := by decide +kernel
theorem dL_law_16 : decode cL_law 16 = .ok (.iconst 0, 1) := by decide +kernel
theorem dL_law_17 : decode cL_law 17 = .ok (.istore_n 3, 1) := by decide +kernel
theorem dL_law_18 : decode cL_law 18 = .ok (.iload_n 3, 1) := by decide +kernel
theorem dL_law_19 : decode cL_law 19 = .ok (.aload_n 0, 1) := by decide +kernel
theorem dL_law_20 : decode cL_law 20 = .ok (.arraylength, 1) := by decide +kernel
theorem dL_law_21 : decode cL_law 21 = .ok (.iconst 5, 1) := by decide +kernel
theorem dL_law_22 : decode cL_law 22 = .ok (.isub, 1) := by decide +kernel
theorem dL_law_23 : decode cL_law 23 = .ok (.if_icmp .gt 908, 3) := by decide +kernel
theorem dL_law_26 : decode cL_law 26 = .ok (.aload_n 0, 1) := by decide +kernel
theorem dL_law_27 : decode cL_law 27 = .ok (.iload_n 3, 1) := by decide +kernel
theorem dL_law_28 : decode cL_law 28 = .ok (.iaload, 1) := by decide +kernel
theorem dL_law_29 : decode cL_law 29 = .ok (.bipush 31, 2) := by decide +kernel
theorem dL_law_31 : decode cL_law 31 = .ok (.iand, 1) := by decide +kernel
theorem dL_law_32 : decode cL_law 32 = .ok (.tableswitch 893 0 27 #[128, 151, 164, 177, 190, 203, 236, 269, 303, 326, 359, 392, 415, 428, 451, 474, 497, 530, 553, 596, 619, 642, 695, 738, 781, 814, 847, 870], 128) := by decide +kernel
theorem dL_law_160 : decode cL_law 160 = .ok (.aload_n 1, 1) := by decide +kernel
theorem dL_law_161 : decode cL_law 161 = .ok (.aload_n 0, 1) := by decide +kernel
theorem dL_law_162 : decode cL_law 162 = .ok (.iload_n 3, 1) := by decide +kernel
theorem dL_law_163 : decode cL_law 163 = .ok (.iconst 1, 1) := by decide +kernel
theorem dL_law_164 : decode cL_law 164 = .ok (.iadd, 1) := by decide +kernel
theorem dL_law_165 : decode cL_law 165 = .ok (.iaload, 1) := by decide +kernel
theorem dL_law_166 : decode cL_law 166 = .ok (.invokevirtual 13, 3) := by decide +kernel
theorem dL_law_169 : decode cL_law 169 = .ok (.aload_n 2, 1) := by decide +kernel
theorem dL_law_170 : decode cL_law 170 = .ok (.aload_n 0, 1) := by decide +kernel
theorem dL_law_171 : decode cL_law 171 = .ok (.iload_n 3, 1) := by decide +kernel
theorem dL_law_172 : decode cL_law 172 = .ok (.iconst 1, 1) := by decide +kernel
theorem dL_law_173 : decode cL_law 173 = .ok (.iadd, 1) := by decide +kernel
theorem dL_law_174 : decode cL_law 174 = .ok (.iaload, 1) := by decide +kernel
theorem dL_law_175 : decode cL_law 175 = .ok (.invokevirtual 17, 3) := by decide +kernel
theorem dL_law_178 : decode cL_law 178 = .ok (.if_icmp .eq 747, 3) := by decide +kernel
theorem dL_law_181 : decode cL_law 181 = .ok (.iconst 0, 1) := by decide +kernel
theorem dL_law_182 : decode cL_law 182 = .ok (.ireturn, 1) := by decide +kernel
theorem dL_law_183 : decode cL_law 183 = .ok (.aload_n 1, 1) := by decide +kernel
theorem dL_law_184 : decode cL_law 184 = .ok (.invokevirtual 18, 3) := by decide +kernel
theorem dL_law_187 : decode cL_law 187 = .ok (.aload_n 2, 1) := by decide +kernel
theorem dL_law_188 : decode cL_law 188 = .ok (.invokevirtual 22, 3) := by decide +kernel
theorem dL_law_191 : decode cL_law 191 = .ok (.if_icmp .eq 734, 3) := by decide +kernel
theorem dL_law_194 : decode cL_law 194 = .ok (.iconst 0, 1) := by decide +kernel
theorem dL_law_195 : decode cL_law 195 = .ok (.ireturn, 1) := by decide +kernel
theorem dL_law_196 : decode cL_law 196 = .ok (.aload_n 1, 1) := by decide +kernel
theorem dL_law_197 : decode cL_law 197 = .ok (.invokevirtual 23, 3) := by decide +kernel
theorem dL_law_200 : decode cL_law 200 = .ok (.aload_n 2, 1) := by decide +kernel
theorem dL_law_201 : decode cL_law 201 = .ok (.invokevirtual 26, 3) := by decide +kernel
theorem dL_law_204 : decode cL_law 204 = .ok (.if_icmp .eq 721, 3) := by decide +kernel
theorem dL_law_207 : decode cL_law 207 = .ok (.iconst 0, 1) := by decide +kernel
theorem dL_law_208 : decode cL_law 208 = .ok (.ireturn, 1) := by decide +kernel
theorem dL_law_209 : decode cL_law 209 = .ok (.aload_n 1, 1) := by decide +kernel
theorem dL_law_210 : decode cL_law 210 = .ok (.invokevirtual 27, 3) := by decide +kernel
theorem dL_law_213 : decode cL_law 213 = .ok (.aload_n 2, 1) := by decide +kernel
theorem dL_law_214 : decode cL_law 214 = .ok (.invokevirtual 30, 3) := by decide +kernel
theorem dL_law_217 : decode cL_law 217 = .ok (.if_icmp .eq 708, 3) := by decide +kernel
theorem dL_law_220 : decode cL_law 220 = .ok (.iconst 0, 1) := by decide +kernel
theorem dL_law_221 : decode cL_law 221 = .ok (.ireturn, 1) := by decide +kernel
theorem dL_law_222 : decode cL_law 222 = .ok (.aload_n 1, 1) := by decide +kernel
theorem dL_law_223 : decode cL_law 223 = .ok (.invokevirtual 31, 3) := by decide +kernel
theorem dL_law_226 : decode cL_law 226 = .ok (.aload_n 2, 1) := by decide +kernel
theorem dL_law_227 : decode cL_law 227 = .ok (.invokevirtual 34, 3) := by decide +kernel
theorem dL_law_230 : decode cL_law 230 = .ok (.if_icmp .eq 695, 3) := by decide +kernel
theorem dL_law_233 : decode cL_law 233 = .ok (.iconst 0, 1) := by decide +kernel
theorem dL_law_234 : decode cL_law 234 = .ok (.ireturn, 1) := by decide +kernel
theorem dL_law_235 : decode cL_law 235 = .ok (.aload_n 1, 1) := by decide +kernel
theorem dL_law_236 : decode cL_law 236 = .ok (.aload_n 0, 1) := by decide +kernel
theorem dL_law_237 : decode cL_law 237 = .ok (.iload_n 3, 1) := by decide +kernel
theorem dL_law_238 : decode cL_law 238 = .ok (.iconst 1, 1) := by decide +kernel
theorem dL_law_239 : decode cL_law 239 = .ok (.iadd, 1) := by decide +kernel
theorem dL_law_240 : decode cL_law 240 = .ok (.iaload, 1) := by decide +kernel
theorem dL_law_241 : decode cL_law 241 = .ok (.aload_n 0, 1) := by decide +kernel
theorem dL_law_242 : decode cL_law 242 = .ok (.iload_n 3, 1) := by decide +kernel
theorem dL_law_243 : decode cL_law 243 = .ok (.iconst 2, 1) := by decide +kernel
theorem dL_law_244 : decode cL_law 244 = .ok (.iadd, 1) := by decide +kernel
theorem dL_law_245 : decode cL_law 245 = .ok (.iaload, 1) := by decide +kernel
theorem dL_law_246 : decode cL_law 246 = .ok (.invokevirtual 35, 3) := by decide +kernel
theorem dL_law_249 : decode cL_law 249 = .ok (.aload_n 2, 1) := by decide +kernel
theorem dL_law_250 : decode cL_law 250 = .ok (.aload_n 0, 1) := by decide +kernel
theorem dL_law_251 : decode cL_law 251 = .ok (.iload_n 3, 1) := by decide +kernel
theorem dL_law_252 : decode cL_law 252 = .ok (.iconst 1, 1) := by decide +kernel
theorem dL_law_253 : decode cL_law 253 = .ok (.iadd, 1) := by decide +kernel
theorem dL_law_254 : decode cL_law 254 = .ok (.iaload, 1) := by decide +kernel
theorem dL_law_255 : decode cL_law 255 = .ok (.aload_n 0, 1) := by decide +kernel
theorem dL_law_256 : decode cL_law 256 = .ok (.iload_n 3, 1) := by decide +kernel
theorem dL_law_257 : decode cL_law 257 = .ok (.iconst 2, 1) := by decide +kernel
theorem dL_law_258 : decode cL_law 258 = .ok (.iadd, 1) := by decide +kernel
theorem dL_law_259 : decode cL_law 259 = .ok (.iaload, 1) := by decide +kernel
theorem dL_law_260 : decode cL_law 260 = .ok (.invokevirtual 39, 3) := by decide +kernel
theorem dL_law_263 : decode cL_law 263 = .ok (.if_icmp .eq 662, 3) := by decide +kernel
theorem dL_law_266 : decode cL_law 266 = .ok (.iconst 0, 1) := by decide +kernel
theorem dL_law_267 : decode cL_law 267 = .ok (.ireturn, 1) := by decide +kernel
theorem dL_law_268 : decode cL_law 268 = .ok (.aload_n 1, 1) := by decide +kernel
theorem dL_law_269 : decode cL_law 269 = .ok (.aload_n 0, 1) := by decide +kernel
theorem dL_law_270 : decode cL_law 270 = .ok (.iload_n 3, 1) := by decide +kernel
theorem dL_law_271 : decode cL_law 271 = .ok (.iconst 1, 1) := by decide +kernel
theorem dL_law_272 : decode cL_law 272 = .ok (.iadd, 1) := by decide +kernel
theorem dL_law_273 : decode cL_law 273 = .ok (.iaload, 1) := by decide +kernel
theorem dL_law_274 : decode cL_law 274 = .ok (.aload_n 0, 1) := by decide +kernel
theorem dL_law_275 : decode cL_law 275 = .ok (.iload_n 3, 1) := by decide +kernel
theorem dL_law_276 : decode cL_law 276 = .ok (.iconst 2, 1) := by decide +kernel
theorem dL_law_277 : decode cL_law 277 = .ok (.iadd, 1) := by decide +kernel
theorem dL_law_278 : decode cL_law 278 = .ok (.iaload, 1) := by decide +kernel
theorem dL_law_279 : decode cL_law 279 = .ok (.invokevirtual 40, 3) := by decide +kernel
theorem dL_law_282 : decode cL_law 282 = .ok (.aload_n 2, 1) := by decide +kernel
theorem dL_law_283 : decode cL_law 283 = .ok (.aload_n 0, 1) := by decide +kernel
theorem dL_law_284 : decode cL_law 284 = .ok (.iload_n 3, 1) := by decide +kernel
theorem dL_law_285 : decode cL_law 285 = .ok (.iconst 1, 1) := by decide +kernel
theorem dL_law_286 : decode cL_law 286 = .ok (.iadd, 1) := by decide +kernel
theorem dL_law_287 : decode cL_law 287 = .ok (.iaload, 1) := by decide +kernel
theorem dL_law_288 : decode cL_law 288 = .ok (.aload_n 0, 1) := by decide +kernel
theorem dL_law_289 : decode cL_law 289 = .ok (.iload_n 3, 1) := by decide +kernel
theorem dL_law_290 : decode cL_law 290 = .ok (.iconst 2, 1) := by decide +kernel
theorem dL_law_291 : decode cL_law 291 = .ok (.iadd, 1) := by decide +kernel
theorem dL_law_292 : decode cL_law 292 = .ok (.iaload, 1) := by decide +kernel
theorem dL_law_293 : decode cL_law 293 = .ok (.invokevirtual 43, 3) := by decide +kernel
theorem dL_law_296 : decode cL_law 296 = .ok (.if_icmp .eq 629, 3) := by decide +kernel
theorem dL_law_299 : decode cL_law 299 = .ok (.iconst 0, 1) := by decide +kernel
theorem dL_law_300 : decode cL_law 300 = .ok (.ireturn, 1) := by decide +kernel
theorem dL_law_301 : decode cL_law 301 = .ok (.aload_n 1, 1) := by decide +kernel
theorem dL_law_302 : decode cL_law 302 = .ok (.aload_n 0, 1) := by decide +kernel
theorem dL_law_303 : decode cL_law 303 = .ok (.iload_n 3, 1) := by decide +kernel
theorem dL_law_304 : decode cL_law 304 = .ok (.iconst 1, 1) := by decide +kernel
theorem dL_law_305 : decode cL_law 305 = .ok (.iadd, 1) := by decide +kernel
theorem dL_law_306 : decode cL_law 306 = .ok (.iaload, 1) := by decide +kernel
theorem dL_law_307 : decode cL_law 307 = .ok (.aload_n 0, 1) := by decide +kernel
theorem dL_law_308 : decode cL_law 308 = .ok (.iload_n 3, 1) := by decide +kernel
theorem dL_law_309 : decode cL_law 309 = .ok (.iconst 2, 1) := by decide +kernel
theorem dL_law_310 : decode cL_law 310 = .ok (.iadd, 1) := by decide +kernel
theorem dL_law_311 : decode cL_law 311 = .ok (.iaload, 1) := by decide +kernel
theorem dL_law_312 : decode cL_law 312 = .ok (.invokevirtual 44, 3) := by decide +kernel
theorem dL_law_315 : decode cL_law 315 = .ok (.aload_n 2, 1) := by decide +kernel
theorem dL_law_316 : decode cL_law 316 = .ok (.aload_n 0, 1) := by decide +kernel
theorem dL_law_317 : decode cL_law 317 = .ok (.iload_n 3, 1) := by decide +kernel
theorem dL_law_318 : decode cL_law 318 = .ok (.iconst 1, 1) := by decide +kernel
theorem dL_law_319 : decode cL_law 319 = .ok (.iadd, 1) := by decide +kernel
theorem dL_law_320 : decode cL_law 320 = .ok (.iaload, 1) := by decide +kernel
theorem dL_law_321 : decode cL_law 321 = .ok (.aload_n 0, 1) := by decide +kernel
theorem dL_law_322 : decode cL_law 322 = .ok (.iload_n 3, 1) := by decide +kernel
theorem dL_law_323 : decode cL_law 323 = .ok (.iconst 2, 1) := by decide +kernel
theorem dL_law_324 : decode cL_law 324 = .ok (.iadd, 1) := by decide +kernel
theorem dL_law_325 : decode cL_law 325 = .ok (.iaload, 1) := by decide +kernel
theorem dL_law_326 : decode cL_law 326 = .ok (.invokevirtual 48, 3) := by decide +kernel
theorem dL_law_329 : decode cL_law 329 = .ok (.lcmp, 1) := by decide +kernel
theorem dL_law_330 : decode cL_law 330 = .ok (.ifCond .eq 595, 3) := by decide +kernel
theorem dL_law_333 : decode cL_law 333 = .ok (.iconst 0, 1) := by decide +kernel
theorem dL_law_334 : decode cL_law 334 = .ok (.ireturn, 1) := by decide +kernel
theorem dL_law_335 : decode cL_law 335 = .ok (.aload_n 1, 1) := by decide +kernel
theorem dL_law_336 : decode cL_law 336 = .ok (.aload_n 0, 1) := by decide +kernel
theorem dL_law_337 : decode cL_law 337 = .ok (.iload_n 3, 1) := by decide +kernel
theorem dL_law_338 : decode cL_law 338 = .ok (.iconst 1, 1) := by decide +kernel
theorem dL_law_339 : decode cL_law 339 = .ok (.iadd, 1) := by decide +kernel
theorem dL_law_340 : decode cL_law 340 = .ok (.iaload, 1) := by decide +kernel
theorem dL_law_341 : decode cL_law 341 = .ok (.invokevirtual 49, 3) := by decide +kernel
theorem dL_law_344 : decode cL_law 344 = .ok (.aload_n 2, 1) := by decide +kernel
theorem dL_law_345 : decode cL_law 345 = .ok (.aload_n 0, 1) := by decide +kernel
theorem dL_law_346 : decode cL_law 346 = .ok (.iload_n 3, 1) := by decide +kernel
theorem dL_law_347 : decode cL_law 347 = .ok (.iconst 1, 1) := by decide +kernel
theorem dL_law_348 : decode cL_law 348 = .ok (.iadd, 1) := by decide +kernel
theorem dL_law_349 : decode cL_law 349 = .ok (.iaload, 1) := by decide +kernel
theorem dL_law_350 : decode cL_law 350 = .ok (.invokevirtual 52, 3) := by decide +kernel
theorem dL_law_353 : decode cL_law 353 = .ok (.if_icmp .eq 572, 3) := by decide +kernel
theorem dL_law_356 : decode cL_law 356 = .ok (.iconst 0, 1) := by decide +kernel
theorem dL_law_357 : decode cL_law 357 = .ok (.ireturn, 1) := by decide +kernel
theorem dL_law_358 : decode cL_law 358 = .ok (.aload_n 1, 1) := by decide +kernel
theorem dL_law_359 : decode cL_law 359 = .ok (.aload_n 0, 1) := by decide +kernel
theorem dL_law_360 : decode cL_law 360 = .ok (.iload_n 3, 1) := by decide +kernel
theorem dL_law_361 : decode cL_law 361 = .ok (.iconst 1, 1) := by decide +kernel
theorem dL_law_362 : decode cL_law 362 = .ok (.iadd, 1) := by decide +kernel
theorem dL_law_363 : decode cL_law 363 = .ok (.iaload, 1) := by decide +kernel
theorem dL_law_364 : decode cL_law 364 = .ok (.aload_n 0, 1) := by decide +kernel
theorem dL_law_365 : decode cL_law 365 = .ok (.iload_n 3, 1) := by decide +kernel
theorem dL_law_366 : decode cL_law 366 = .ok (.iconst 2, 1) := by decide +kernel
theorem dL_law_367 : decode cL_law 367 = .ok (.iadd, 1) := by decide +kernel
theorem dL_law_368 : decode cL_law 368 = .ok (.iaload, 1) := by decide +kernel
theorem dL_law_369 : decode cL_law 369 = .ok (.invokevirtual 53, 3) := by decide +kernel
theorem dL_law_372 : decode cL_law 372 = .ok (.aload_n 2, 1) := by decide +kernel
theorem dL_law_373 : decode cL_law 373 = .ok (.aload_n 0, 1) := by decide +kernel
theorem dL_law_374 : decode cL_law 374 = .ok (.iload_n 3, 1) := by decide +kernel
theorem dL_law_375 : decode cL_law 375 = .ok (.iconst 1, 1) := by decide +kernel
theorem dL_law_376 : decode cL_law 376 = .ok (.iadd, 1) := by decide +kernel
theorem dL_law_377 : decode cL_law 377 = .ok (.iaload, 1) := by decide +kernel
theorem dL_law_378 : decode cL_law 378 = .ok (.aload_n 0, 1) := by decide +kernel
theorem dL_law_379 : decode cL_law 379 = .ok (.iload_n 3, 1) := by decide +kernel
theorem dL_law_380 : decode cL_law 380 = .ok (.iconst 2, 1) := by decide +kernel
theorem dL_law_381 : decode cL_law 381 = .ok (.iadd, 1) := by decide +kernel
theorem dL_law_382 : decode cL_law 382 = .ok (.iaload, 1) := by decide +kernel
theorem dL_law_383 : decode cL_law 383 = .ok (.invokevirtual 56, 3) := by decide +kernel
theorem dL_law_386 : decode cL_law 386 = .ok (.if_icmp .eq 539, 3) := by decide +kernel
theorem dL_law_389 : decode cL_law 389 = .ok (.iconst 0, 1) := by decide +kernel
theorem dL_law_390 : decode cL_law 390 = .ok (.ireturn, 1) := by decide +kernel
theorem dL_law_391 : decode cL_law 391 = .ok (.aload_n 1, 1) := by decide +kernel
theorem dL_law_392 : decode cL_law 392 = .ok (.aload_n 0, 1) := by decide +kernel
theorem dL_law_393 : decode cL_law 393 = .ok (.iload_n 3, 1) := by decide +kernel
theorem dL_law_394 : decode cL_law 394 = .ok (.iconst 1, 1) := by decide +kernel
theorem dL_law_395 : decode cL_law 395 = .ok (.iadd, 1) := by decide +kernel
theorem dL_law_396 : decode cL_law 396 = .ok (.iaload, 1) := by decide +kernel
theorem dL_law_397 : decode cL_law 397 = .ok (.aload_n 0, 1) := by decide +kernel
theorem dL_law_398 : decode cL_law 398 = .ok (.iload_n 3, 1) := by decide +kernel
theorem dL_law_399 : decode cL_law 399 = .ok (.iconst 2, 1) := by decide +kernel
theorem dL_law_400 : decode cL_law 400 = .ok (.iadd, 1) := by decide +kernel
theorem dL_law_401 : decode cL_law 401 = .ok (.iaload, 1) := by decide +kernel
theorem dL_law_402 : decode cL_law 402 = .ok (.invokevirtual 57, 3) := by decide +kernel
theorem dL_law_405 : decode cL_law 405 = .ok (.aload_n 2, 1) := by decide +kernel
theorem dL_law_406 : decode cL_law 406 = .ok (.aload_n 0, 1) := by decide +kernel
theorem dL_law_407 : decode cL_law 407 = .ok (.iload_n 3, 1) := by decide +kernel
theorem dL_law_408 : decode cL_law 408 = .ok (.iconst 1, 1) := by decide +kernel
theorem dL_law_409 : decode cL_law 409 = .ok (.iadd, 1) := by decide +kernel
theorem dL_law_410 : decode cL_law 410 = .ok (.iaload, 1) := by decide +kernel
theorem dL_law_411 : decode cL_law 411 = .ok (.aload_n 0, 1) := by decide +kernel
theorem dL_law_412 : decode cL_law 412 = .ok (.iload_n 3, 1) := by decide +kernel
theorem dL_law_413 : decode cL_law 413 = .ok (.iconst 2, 1) := by decide +kernel
theorem dL_law_414 : decode cL_law 414 = .ok (.iadd, 1) := by decide +kernel
theorem dL_law_415 : decode cL_law 415 = .ok (.iaload, 1) := by decide +kernel
theorem dL_law_416 : decode cL_law 416 = .ok (.invokevirtual 60, 3) := by decide +kernel
theorem dL_law_419 : decode cL_law 419 = .ok (.if_icmp .eq 506, 3) := by decide +kernel
theorem dL_law_422 : decode cL_law 422 = .ok (.iconst 0, 1) := by decide +kernel
theorem dL_law_423 : decode cL_law 423 = .ok (.ireturn, 1) := by decide +kernel
theorem dL_law_424 : decode cL_law 424 = .ok (.aload_n 1, 1) := by decide +kernel
theorem dL_law_425 : decode cL_law 425 = .ok (.aload_n 0, 1) := by decide +kernel
theorem dL_law_426 : decode cL_law 426 = .ok (.iload_n 3, 1) := by decide +kernel
theorem dL_law_427 : decode cL_law 427 = .ok (.iconst 1, 1) := by decide +kernel
theorem dL_law_428 : decode cL_law 428 = .ok (.iadd, 1) := by decide +kernel
theorem dL_law_429 : decode cL_law 429 = .ok (.iaload, 1) := by decide +kernel
theorem dL_law_430 : decode cL_law 430 = .ok (.invokevirtual 61, 3) := by decide +kernel
theorem dL_law_433 : decode cL_law 433 = .ok (.aload_n 2, 1) := by decide +kernel
theorem dL_law_434 : decode cL_law 434 = .ok (.aload_n 0, 1) := by decide +kernel
theorem dL_law_435 : decode cL_law 435 = .ok (.iload_n 3, 1) := by decide +kernel
theorem dL_law_436 : decode cL_law 436 = .ok (.iconst 1, 1) := by decide +kernel
theorem dL_law_437 : decode cL_law 437 = .ok (.iadd, 1) := by decide +kernel
theorem dL_law_438 : decode cL_law 438 = .ok (.iaload, 1) := by decide +kernel
theorem dL_law_439 : decode cL_law 439 = .ok (.invokevirtual 64, 3) := by decide +kernel
theorem dL_law_442 : decode cL_law 442 = .ok (.if_icmp .eq 483, 3) := by decide +kernel
theorem dL_law_445 : decode cL_law 445 = .ok (.iconst 0, 1) := by decide +kernel
theorem dL_law_446 : decode cL_law 446 = .ok (.ireturn, 1) := by decide +kernel
theorem dL_law_447 : decode cL_law 447 = .ok (.aload_n 1, 1) := by decide +kernel
theorem dL_law_448 : decode cL_law 448 = .ok (.invokevirtual 65, 3) := by decide +kernel
theorem dL_law_451 : decode cL_law 451 = .ok (.aload_n 2, 1) := by decide +kernel
theorem dL_law_452 : decode cL_law 452 = .ok (.invokevirtual 68, 3) := by decide +kernel
theorem dL_law_455 : decode cL_law 455 = .ok (.if_icmp .eq 470, 3) := by decide +kernel
theorem dL_law_458 : decode cL_law 458 = .ok (.iconst 0, 1) := by decide +kernel
theorem dL_law_459 : decode cL_law 459 = .ok (.ireturn, 1) := by decide +kernel
theorem dL_law_460 : decode cL_law 460 = .ok (.aload_n 1, 1) := by decide +kernel
theorem dL_law_461 : decode cL_law 461 = .ok (.aload_n 0, 1) := by decide +kernel
theorem dL_law_462 : decode cL_law 462 = .ok (.iload_n 3, 1) := by decide +kernel
theorem dL_law_463 : decode cL_law 463 = .ok (.iconst 1, 1) := by decide +kernel
theorem dL_law_464 : decode cL_law 464 = .ok (.iadd, 1) := by decide +kernel
theorem dL_law_465 : decode cL_law 465 = .ok (.iaload, 1) := by decide +kernel
theorem dL_law_466 : decode cL_law 466 = .ok (.invokevirtual 69, 3) := by decide +kernel
theorem dL_law_469 : decode cL_law 469 = .ok (.aload_n 2, 1) := by decide +kernel
theorem dL_law_470 : decode cL_law 470 = .ok (.aload_n 0, 1) := by decide +kernel
theorem dL_law_471 : decode cL_law 471 = .ok (.iload_n 3, 1) := by decide +kernel
theorem dL_law_472 : decode cL_law 472 = .ok (.iconst 1, 1) := by decide +kernel
theorem dL_law_473 : decode cL_law 473 = .ok (.iadd, 1) := by decide +kernel
theorem dL_law_474 : decode cL_law 474 = .ok (.iaload, 1) := by decide +kernel
theorem dL_law_475 : decode cL_law 475 = .ok (.invokevirtual 72, 3) := by decide +kernel
theorem dL_law_478 : decode cL_law 478 = .ok (.if_icmp .eq 447, 3) := by decide +kernel
theorem dL_law_481 : decode cL_law 481 = .ok (.iconst 0, 1) := by decide +kernel
theorem dL_law_482 : decode cL_law 482 = .ok (.ireturn, 1) := by decide +kernel
theorem dL_law_483 : decode cL_law 483 = .ok (.aload_n 1, 1) := by decide +kernel
theorem dL_law_484 : decode cL_law 484 = .ok (.aload_n 0, 1) := by decide +kernel
theorem dL_law_485 : decode cL_law 485 = .ok (.iload_n 3, 1) := by decide +kernel
theorem dL_law_486 : decode cL_law 486 = .ok (.iconst 1, 1) := by decide +kernel
theorem dL_law_487 : decode cL_law 487 = .ok (.iadd, 1) := by decide +kernel
theorem dL_law_488 : decode cL_law 488 = .ok (.iaload, 1) := by decide +kernel
theorem dL_law_489 : decode cL_law 489 = .ok (.invokevirtual 73, 3) := by decide +kernel
theorem dL_law_492 : decode cL_law 492 = .ok (.aload_n 2, 1) := by decide +kernel
theorem dL_law_493 : decode cL_law 493 = .ok (.aload_n 0, 1) := by decide +kernel
theorem dL_law_494 : decode cL_law 494 = .ok (.iload_n 3, 1) := by decide +kernel
theorem dL_law_495 : decode cL_law 495 = .ok (.iconst 1, 1) := by decide +kernel
theorem dL_law_496 : decode cL_law 496 = .ok (.iadd, 1) := by decide +kernel
theorem dL_law_497 : decode cL_law 497 = .ok (.iaload, 1) := by decide +kernel
theorem dL_law_498 : decode cL_law 498 = .ok (.invokevirtual 76, 3) := by decide +kernel
theorem dL_law_501 : decode cL_law 501 = .ok (.if_icmp .eq 424, 3) := by decide +kernel
theorem dL_law_504 : decode cL_law 504 = .ok (.iconst 0, 1) := by decide +kernel
theorem dL_law_505 : decode cL_law 505 = .ok (.ireturn, 1) := by decide +kernel
theorem dL_law_506 : decode cL_law 506 = .ok (.aload_n 1, 1) := by decide +kernel
theorem dL_law_507 : decode cL_law 507 = .ok (.aload_n 0, 1) := by decide +kernel
theorem dL_law_508 : decode cL_law 508 = .ok (.iload_n 3, 1) := by decide +kernel
theorem dL_law_509 : decode cL_law 509 = .ok (.iconst 1, 1) := by decide +kernel
theorem dL_law_510 : decode cL_law 510 = .ok (.iadd, 1) := by decide +kernel
theorem dL_law_511 : decode cL_law 511 = .ok (.iaload, 1) := by decide +kernel
theorem dL_law_512 : decode cL_law 512 = .ok (.invokevirtual 77, 3) := by decide +kernel
theorem dL_law_515 : decode cL_law 515 = .ok (.aload_n 2, 1) := by decide +kernel
theorem dL_law_516 : decode cL_law 516 = .ok (.aload_n 0, 1) := by decide +kernel
theorem dL_law_517 : decode cL_law 517 = .ok (.iload_n 3, 1) := by decide +kernel
theorem dL_law_518 : decode cL_law 518 = .ok (.iconst 1, 1) := by decide +kernel
theorem dL_law_519 : decode cL_law 519 = .ok (.iadd, 1) := by decide +kernel
theorem dL_law_520 : decode cL_law 520 = .ok (.iaload, 1) := by decide +kernel
theorem dL_law_521 : decode cL_law 521 = .ok (.invokevirtual 80, 3) := by decide +kernel
theorem dL_law_524 : decode cL_law 524 = .ok (.if_icmp .eq 401, 3) := by decide +kernel
theorem dL_law_527 : decode cL_law 527 = .ok (.iconst 0, 1) := by decide +kernel
theorem dL_law_528 : decode cL_law 528 = .ok (.ireturn, 1) := by decide +kernel
theorem dL_law_529 : decode cL_law 529 = .ok (.aload_n 1, 1) := by decide +kernel
theorem dL_law_530 : decode cL_law 530 = .ok (.aload_n 0, 1) := by decide +kernel
theorem dL_law_531 : decode cL_law 531 = .ok (.iload_n 3, 1) := by decide +kernel
theorem dL_law_532 : decode cL_law 532 = .ok (.iconst 1, 1) := by decide +kernel
theorem dL_law_533 : decode cL_law 533 = .ok (.iadd, 1) := by decide +kernel
theorem dL_law_534 : decode cL_law 534 = .ok (.iaload, 1) := by decide +kernel
theorem dL_law_535 : decode cL_law 535 = .ok (.aload_n 0, 1) := by decide +kernel
theorem dL_law_536 : decode cL_law 536 = .ok (.iload_n 3, 1) := by decide +kernel
theorem dL_law_537 : decode cL_law 537 = .ok (.iconst 2, 1) := by decide +kernel
theorem dL_law_538 : decode cL_law 538 = .ok (.iadd, 1) := by decide +kernel
theorem dL_law_539 : decode cL_law 539 = .ok (.iaload, 1) := by decide +kernel
theorem dL_law_540 : decode cL_law 540 = .ok (.invokevirtual 81, 3) := by decide +kernel
theorem dL_law_543 : decode cL_law 543 = .ok (.aload_n 2, 1) := by decide +kernel
theorem dL_law_544 : decode cL_law 544 = .ok (.aload_n 0, 1) := by decide +kernel
theorem dL_law_545 : decode cL_law 545 = .ok (.iload_n 3, 1) := by decide +kernel
theorem dL_law_546 : decode cL_law 546 = .ok (.iconst 1, 1) := by decide +kernel
theorem dL_law_547 : decode cL_law 547 = .ok (.iadd, 1) := by decide +kernel
theorem dL_law_548 : decode cL_law 548 = .ok (.iaload, 1) := by decide +kernel
theorem dL_law_549 : decode cL_law 549 = .ok (.aload_n 0, 1) := by decide +kernel
theorem dL_law_550 : decode cL_law 550 = .ok (.iload_n 3, 1) := by decide +kernel
theorem dL_law_551 : decode cL_law 551 = .ok (.iconst 2, 1) := by decide +kernel
theorem dL_law_552 : decode cL_law 552 = .ok (.iadd, 1) := by decide +kernel
theorem dL_law_553 : decode cL_law 553 = .ok (.iaload, 1) := by decide +kernel
theorem dL_law_554 : decode cL_law 554 = .ok (.invokevirtual 84, 3) := by decide +kernel
theorem dL_law_557 : decode cL_law 557 = .ok (.if_icmp .eq 368, 3) := by decide +kernel
theorem dL_law_560 : decode cL_law 560 = .ok (.iconst 0, 1) := by decide +kernel
theorem dL_law_561 : decode cL_law 561 = .ok (.ireturn, 1) := by decide +kernel
theorem dL_law_562 : decode cL_law 562 = .ok (.aload_n 1, 1) := by decide +kernel
theorem dL_law_563 : decode cL_law 563 = .ok (.aload_n 0, 1) := by decide +kernel
theorem dL_law_564 : decode cL_law 564 = .ok (.iload_n 3, 1) := by decide +kernel
theorem dL_law_565 : decode cL_law 565 = .ok (.iconst 1, 1) := by decide +kernel
theorem dL_law_566 : decode cL_law 566 = .ok (.iadd, 1) := by decide +kernel
theorem dL_law_567 : decode cL_law 567 = .ok (.iaload, 1) := by decide +kernel
theorem dL_law_568 : decode cL_law 568 = .ok (.invokevirtual 85, 3) := by decide +kernel
theorem dL_law_571 : decode cL_law 571 = .ok (.aload_n 2, 1) := by decide +kernel
theorem dL_law_572 : decode cL_law 572 = .ok (.aload_n 0, 1) := by decide +kernel
theorem dL_law_573 : decode cL_law 573 = .ok (.iload_n 3, 1) := by decide +kernel
theorem dL_law_574 : decode cL_law 574 = .ok (.iconst 1, 1) := by decide +kernel
theorem dL_law_575 : decode cL_law 575 = .ok (.iadd, 1) := by decide +kernel
theorem dL_law_576 : decode cL_law 576 = .ok (.iaload, 1) := by decide +kernel
theorem dL_law_577 : decode cL_law 577 = .ok (.invokevirtual 88, 3) := by decide +kernel
theorem dL_law_580 : decode cL_law 580 = .ok (.if_icmp .eq 345, 3) := by decide +kernel
theorem dL_law_583 : decode cL_law 583 = .ok (.iconst 0, 1) := by decide +kernel
theorem dL_law_584 : decode cL_law 584 = .ok (.ireturn, 1) := by decide +kernel
theorem dL_law_585 : decode cL_law 585 = .ok (.aload_n 1, 1) := by decide +kernel
theorem dL_law_586 : decode cL_law 586 = .ok (.aload_n 0, 1) := by decide +kernel
theorem dL_law_587 : decode cL_law 587 = .ok (.iload_n 3, 1) := by decide +kernel
theorem dL_law_588 : decode cL_law 588 = .ok (.iconst 1, 1) := by decide +kernel
theorem dL_law_589 : decode cL_law 589 = .ok (.iadd, 1) := by decide +kernel
theorem dL_law_590 : decode cL_law 590 = .ok (.iaload, 1) := by decide +kernel
theorem dL_law_591 : decode cL_law 591 = .ok (.aload_n 0, 1) := by decide +kernel
theorem dL_law_592 : decode cL_law 592 = .ok (.iload_n 3, 1) := by decide +kernel
theorem dL_law_593 : decode cL_law 593 = .ok (.iconst 2, 1) := by decide +kernel
theorem dL_law_594 : decode cL_law 594 = .ok (.iadd, 1) := by decide +kernel
theorem dL_law_595 : decode cL_law 595 = .ok (.iaload, 1) := by decide +kernel
theorem dL_law_596 : decode cL_law 596 = .ok (.aload_n 0, 1) := by decide +kernel
theorem dL_law_597 : decode cL_law 597 = .ok (.iload_n 3, 1) := by decide +kernel
theorem dL_law_598 : decode cL_law 598 = .ok (.iconst 3, 1) := by decide +kernel
theorem dL_law_599 : decode cL_law 599 = .ok (.iadd, 1) := by decide +kernel
theorem dL_law_600 : decode cL_law 600 = .ok (.iaload, 1) := by decide +kernel
theorem dL_law_601 : decode cL_law 601 = .ok (.invokevirtual 89, 3) := by decide +kernel
theorem dL_law_604 : decode cL_law 604 = .ok (.aload_n 2, 1) := by decide +kernel
theorem dL_law_605 : decode cL_law 605 = .ok (.aload_n 0, 1) := by decide +kernel
theorem dL_law_606 : decode cL_law 606 = .ok (.iload_n 3, 1) := by decide +kernel
theorem dL_law_607 : decode cL_law 607 = .ok (.iconst 1, 1) := by decide +kernel
theorem dL_law_608 : decode cL_law 608 = .ok (.iadd, 1) := by decide +kernel
theorem dL_law_609 : decode cL_law 609 = .ok (.iaload, 1) := by decide +kernel
theorem dL_law_610 : decode cL_law 610 = .ok (.aload_n 0, 1) := by decide +kernel
theorem dL_law_611 : decode cL_law 611 = .ok (.iload_n 3, 1) := by decide +kernel
theorem dL_law_612 : decode cL_law 612 = .ok (.iconst 2, 1) := by decide +kernel
theorem dL_law_613 : decode cL_law 613 = .ok (.iadd, 1) := by decide +kernel
theorem dL_law_614 : decode cL_law 614 = .ok (.iaload, 1) := by decide +kernel
theorem dL_law_615 : decode cL_law 615 = .ok (.aload_n 0, 1) := by decide +kernel
theorem dL_law_616 : decode cL_law 616 = .ok (.iload_n 3, 1) := by decide +kernel
theorem dL_law_617 : decode cL_law 617 = .ok (.iconst 3, 1) := by decide +kernel
theorem dL_law_618 : decode cL_law 618 = .ok (.iadd, 1) := by decide +kernel
theorem dL_law_619 : decode cL_law 619 = .ok (.iaload, 1) := by decide +kernel
theorem dL_law_620 : decode cL_law 620 = .ok (.invokevirtual 93, 3) := by decide +kernel
theorem dL_law_623 : decode cL_law 623 = .ok (.if_icmp .eq 302, 3) := by decide +kernel
theorem dL_law_626 : decode cL_law 626 = .ok (.iconst 0, 1) := by decide +kernel
theorem dL_law_627 : decode cL_law 627 = .ok (.ireturn, 1) := by decide +kernel
theorem dL_law_628 : decode cL_law 628 = .ok (.aload_n 1, 1) := by decide +kernel
theorem dL_law_629 : decode cL_law 629 = .ok (.aload_n 0, 1) := by decide +kernel
theorem dL_law_630 : decode cL_law 630 = .ok (.iload_n 3, 1) := by decide +kernel
theorem dL_law_631 : decode cL_law 631 = .ok (.iconst 1, 1) := by decide +kernel
theorem dL_law_632 : decode cL_law 632 = .ok (.iadd, 1) := by decide +kernel
theorem dL_law_633 : decode cL_law 633 = .ok (.iaload, 1) := by decide +kernel
theorem dL_law_634 : decode cL_law 634 = .ok (.invokevirtual 94, 3) := by decide +kernel
theorem dL_law_637 : decode cL_law 637 = .ok (.aload_n 2, 1) := by decide +kernel
theorem dL_law_638 : decode cL_law 638 = .ok (.aload_n 0, 1) := by decide +kernel
theorem dL_law_639 : decode cL_law 639 = .ok (.iload_n 3, 1) := by decide +kernel
theorem dL_law_640 : decode cL_law 640 = .ok (.iconst 1, 1) := by decide +kernel
theorem dL_law_641 : decode cL_law 641 = .ok (.iadd, 1) := by decide +kernel
theorem dL_law_642 : decode cL_law 642 = .ok (.iaload, 1) := by decide +kernel
theorem dL_law_643 : decode cL_law 643 = .ok (.invokevirtual 97, 3) := by decide +kernel
theorem dL_law_646 : decode cL_law 646 = .ok (.if_icmp .eq 279, 3) := by decide +kernel
theorem dL_law_649 : decode cL_law 649 = .ok (.iconst 0, 1) := by decide +kernel
theorem dL_law_650 : decode cL_law 650 = .ok (.ireturn, 1) := by decide +kernel
theorem dL_law_651 : decode cL_law 651 = .ok (.aload_n 1, 1) := by decide +kernel
theorem dL_law_652 : decode cL_law 652 = .ok (.aload_n 0, 1) := by decide +kernel
theorem dL_law_653 : decode cL_law 653 = .ok (.iload_n 3, 1) := by decide +kernel
theorem dL_law_654 : decode cL_law 654 = .ok (.iconst 1, 1) := by decide +kernel
theorem dL_law_655 : decode cL_law 655 = .ok (.iadd, 1) := by decide +kernel
theorem dL_law_656 : decode cL_law 656 = .ok (.iaload, 1) := by decide +kernel
theorem dL_law_657 : decode cL_law 657 = .ok (.invokevirtual 98, 3) := by decide +kernel
theorem dL_law_660 : decode cL_law 660 = .ok (.aload_n 2, 1) := by decide +kernel
theorem dL_law_661 : decode cL_law 661 = .ok (.aload_n 0, 1) := by decide +kernel
theorem dL_law_662 : decode cL_law 662 = .ok (.iload_n 3, 1) := by decide +kernel
theorem dL_law_663 : decode cL_law 663 = .ok (.iconst 1, 1) := by decide +kernel
theorem dL_law_664 : decode cL_law 664 = .ok (.iadd, 1) := by decide +kernel
theorem dL_law_665 : decode cL_law 665 = .ok (.iaload, 1) := by decide +kernel
theorem dL_law_666 : decode cL_law 666 = .ok (.invokevirtual 101, 3) := by decide +kernel
theorem dL_law_669 : decode cL_law 669 = .ok (.if_icmp .eq 256, 3) := by decide +kernel
theorem dL_law_672 : decode cL_law 672 = .ok (.iconst 0, 1) := by decide +kernel
theorem dL_law_673 : decode cL_law 673 = .ok (.ireturn, 1) := by decide +kernel
theorem dL_law_674 : decode cL_law 674 = .ok (.aload_n 1, 1) := by decide +kernel
theorem dL_law_675 : decode cL_law 675 = .ok (.aload_n 0, 1) := by decide +kernel
theorem dL_law_676 : decode cL_law 676 = .ok (.iload_n 3, 1) := by decide +kernel
theorem dL_law_677 : decode cL_law 677 = .ok (.iconst 1, 1) := by decide +kernel
theorem dL_law_678 : decode cL_law 678 = .ok (.iadd, 1) := by decide +kernel
theorem dL_law_679 : decode cL_law 679 = .ok (.iaload, 1) := by decide +kernel
theorem dL_law_680 : decode cL_law 680 = .ok (.aload_n 0, 1) := by decide +kernel
theorem dL_law_681 : decode cL_law 681 = .ok (.iload_n 3, 1) := by decide +kernel
theorem dL_law_682 : decode cL_law 682 = .ok (.iconst 2, 1) := by decide +kernel
theorem dL_law_683 : decode cL_law 683 = .ok (.iadd, 1) := by decide +kernel
theorem dL_law_684 : decode cL_law 684 = .ok (.iaload, 1) := by decide +kernel
theorem dL_law_685 : decode cL_law 685 = .ok (.aload_n 0, 1) := by decide +kernel
theorem dL_law_686 : decode cL_law 686 = .ok (.iload_n 3, 1) := by decide +kernel
theorem dL_law_687 : decode cL_law 687 = .ok (.iconst 3, 1) := by decide +kernel
theorem dL_law_688 : decode cL_law 688 = .ok (.iadd, 1) := by decide +kernel
theorem dL_law_689 : decode cL_law 689 = .ok (.iaload, 1) := by decide +kernel
theorem dL_law_690 : decode cL_law 690 = .ok (.aload_n 0, 1) := by decide +kernel
theorem dL_law_691 : decode cL_law 691 = .ok (.iload_n 3, 1) := by decide +kernel
theorem dL_law_692 : decode cL_law 692 = .ok (.iconst 4, 1) := by decide +kernel
theorem dL_law_693 : decode cL_law 693 = .ok (.iadd, 1) := by decide +kernel
theorem dL_law_694 : decode cL_law 694 = .ok (.iaload, 1) := by decide +kernel
theorem dL_law_695 : decode cL_law 695 = .ok (.invokevirtual 102, 3) := by decide +kernel
theorem dL_law_698 : decode cL_law 698 = .ok (.aload_n 2, 1) := by decide +kernel
theorem dL_law_699 : decode cL_law 699 = .ok (.aload_n 0, 1) := by decide +kernel
theorem dL_law_700 : decode cL_law 700 = .ok (.iload_n 3, 1) := by decide +kernel
theorem dL_law_701 : decode cL_law 701 = .ok (.iconst 1, 1) := by decide +kernel
theorem dL_law_702 : decode cL_law 702 = .ok (.iadd, 1) := by decide +kernel
theorem dL_law_703 : decode cL_law 703 = .ok (.iaload, 1) := by decide +kernel
theorem dL_law_704 : decode cL_law 704 = .ok (.aload_n 0, 1) := by decide +kernel
theorem dL_law_705 : decode cL_law 705 = .ok (.iload_n 3, 1) := by decide +kernel
theorem dL_law_706 : decode cL_law 706 = .ok (.iconst 2, 1) := by decide +kernel
theorem dL_law_707 : decode cL_law 707 = .ok (.iadd, 1) := by decide +kernel
theorem dL_law_708 : decode cL_law 708 = .ok (.iaload, 1) := by decide +kernel
theorem dL_law_709 : decode cL_law 709 = .ok (.aload_n 0, 1) := by decide +kernel
theorem dL_law_710 : decode cL_law 710 = .ok (.iload_n 3, 1) := by decide +kernel
theorem dL_law_711 : decode cL_law 711 = .ok (.iconst 3, 1) := by decide +kernel
theorem dL_law_712 : decode cL_law 712 = .ok (.iadd, 1) := by decide +kernel
theorem dL_law_713 : decode cL_law 713 = .ok (.iaload, 1) := by decide +kernel
theorem dL_law_714 : decode cL_law 714 = .ok (.aload_n 0, 1) := by decide +kernel
theorem dL_law_715 : decode cL_law 715 = .ok (.iload_n 3, 1) := by decide +kernel
theorem dL_law_716 : decode cL_law 716 = .ok (.iconst 4, 1) := by decide +kernel
theorem dL_law_717 : decode cL_law 717 = .ok (.iadd, 1) := by decide +kernel
theorem dL_law_718 : decode cL_law 718 = .ok (.iaload, 1) := by decide +kernel
theorem dL_law_719 : decode cL_law 719 = .ok (.invokevirtual 106, 3) := by decide +kernel
theorem dL_law_722 : decode cL_law 722 = .ok (.if_icmp .eq 203, 3) := by decide +kernel
theorem dL_law_725 : decode cL_law 725 = .ok (.iconst 0, 1) := by decide +kernel
theorem dL_law_726 : decode cL_law 726 = .ok (.ireturn, 1) := by decide +kernel
theorem dL_law_727 : decode cL_law 727 = .ok (.aload_n 1, 1) := by decide +kernel
theorem dL_law_728 : decode cL_law 728 = .ok (.aload_n 0, 1) := by decide +kernel
theorem dL_law_729 : decode cL_law 729 = .ok (.iload_n 3, 1) := by decide +kernel
theorem dL_law_730 : decode cL_law 730 = .ok (.iconst 1, 1) := by decide +kernel
theorem dL_law_731 : decode cL_law 731 = .ok (.iadd, 1) := by decide +kernel
theorem dL_law_732 : decode cL_law 732 = .ok (.iaload, 1) := by decide +kernel
theorem dL_law_733 : decode cL_law 733 = .ok (.aload_n 0, 1) := by decide +kernel
theorem dL_law_734 : decode cL_law 734 = .ok (.iload_n 3, 1) := by decide +kernel
theorem dL_law_735 : decode cL_law 735 = .ok (.iconst 2, 1) := by decide +kernel
theorem dL_law_736 : decode cL_law 736 = .ok (.iadd, 1) := by decide +kernel
theorem dL_law_737 : decode cL_law 737 = .ok (.iaload, 1) := by decide +kernel
theorem dL_law_738 : decode cL_law 738 = .ok (.aload_n 0, 1) := by decide +kernel
theorem dL_law_739 : decode cL_law 739 = .ok (.iload_n 3, 1) := by decide +kernel
theorem dL_law_740 : decode cL_law 740 = .ok (.iconst 3, 1) := by decide +kernel
theorem dL_law_741 : decode cL_law 741 = .ok (.iadd, 1) := by decide +kernel
theorem dL_law_742 : decode cL_law 742 = .ok (.iaload, 1) := by decide +kernel
theorem dL_law_743 : decode cL_law 743 = .ok (.invokevirtual 107, 3) := by decide +kernel
theorem dL_law_746 : decode cL_law 746 = .ok (.aload_n 2, 1) := by decide +kernel
theorem dL_law_747 : decode cL_law 747 = .ok (.aload_n 0, 1) := by decide +kernel
theorem dL_law_748 : decode cL_law 748 = .ok (.iload_n 3, 1) := by decide +kernel
theorem dL_law_749 : decode cL_law 749 = .ok (.iconst 1, 1) := by decide +kernel
theorem dL_law_750 : decode cL_law 750 = .ok (.iadd, 1) := by decide +kernel
theorem dL_law_751 : decode cL_law 751 = .ok (.iaload, 1) := by decide +kernel
theorem dL_law_752 : decode cL_law 752 = .ok (.aload_n 0, 1) := by decide +kernel
theorem dL_law_753 : decode cL_law 753 = .ok (.iload_n 3, 1) := by decide +kernel
theorem dL_law_754 : decode cL_law 754 = .ok (.iconst 2, 1) := by decide +kernel
theorem dL_law_755 : decode cL_law 755 = .ok (.iadd, 1) := by decide +kernel
theorem dL_law_756 : decode cL_law 756 = .ok (.iaload, 1) := by decide +kernel
theorem dL_law_757 : decode cL_law 757 = .ok (.aload_n 0, 1) := by decide +kernel
theorem dL_law_758 : decode cL_law 758 = .ok (.iload_n 3, 1) := by decide +kernel
theorem dL_law_759 : decode cL_law 759 = .ok (.iconst 3, 1) := by decide +kernel
theorem dL_law_760 : decode cL_law 760 = .ok (.iadd, 1) := by decide +kernel
theorem dL_law_761 : decode cL_law 761 = .ok (.iaload, 1) := by decide +kernel
theorem dL_law_762 : decode cL_law 762 = .ok (.invokevirtual 110, 3) := by decide +kernel
theorem dL_law_765 : decode cL_law 765 = .ok (.if_icmp .eq 160, 3) := by decide +kernel
theorem dL_law_768 : decode cL_law 768 = .ok (.iconst 0, 1) := by decide +kernel
theorem dL_law_769 : decode cL_law 769 = .ok (.ireturn, 1) := by decide +kernel
theorem dL_law_770 : decode cL_law 770 = .ok (.aload_n 1, 1) := by decide +kernel
theorem dL_law_771 : decode cL_law 771 = .ok (.aload_n 0, 1) := by decide +kernel
theorem dL_law_772 : decode cL_law 772 = .ok (.iload_n 3, 1) := by decide +kernel
theorem dL_law_773 : decode cL_law 773 = .ok (.iconst 1, 1) := by decide +kernel
theorem dL_law_774 : decode cL_law 774 = .ok (.iadd, 1) := by decide +kernel
theorem dL_law_775 : decode cL_law 775 = .ok (.iaload, 1) := by decide +kernel
theorem dL_law_776 : decode cL_law 776 = .ok (.aload_n 0, 1) := by decide +kernel
theorem dL_law_777 : decode cL_law 777 = .ok (.iload_n 3, 1) := by decide +kernel
theorem dL_law_778 : decode cL_law 778 = .ok (.iconst 2, 1) := by decide +kernel
theorem dL_law_779 : decode cL_law 779 = .ok (.iadd, 1) := by decide +kernel
theorem dL_law_780 : decode cL_law 780 = .ok (.iaload, 1) := by decide +kernel
theorem dL_law_781 : decode cL_law 781 = .ok (.aload_n 0, 1) := by decide +kernel
theorem dL_law_782 : decode cL_law 782 = .ok (.iload_n 3, 1) := by decide +kernel
theorem dL_law_783 : decode cL_law 783 = .ok (.iconst 3, 1) := by decide +kernel
theorem dL_law_784 : decode cL_law 784 = .ok (.iadd, 1) := by decide +kernel
theorem dL_law_785 : decode cL_law 785 = .ok (.iaload, 1) := by decide +kernel
theorem dL_law_786 : decode cL_law 786 = .ok (.invokevirtual 111, 3) := by decide +kernel
theorem dL_law_789 : decode cL_law 789 = .ok (.aload_n 2, 1) := by decide +kernel
theorem dL_law_790 : decode cL_law 790 = .ok (.aload_n 0, 1) := by decide +kernel
theorem dL_law_791 : decode cL_law 791 = .ok (.iload_n 3, 1) := by decide +kernel
theorem dL_law_792 : decode cL_law 792 = .ok (.iconst 1, 1) := by decide +kernel
theorem dL_law_793 : decode cL_law 793 = .ok (.iadd, 1) := by decide +kernel
theorem dL_law_794 : decode cL_law 794 = .ok (.iaload, 1) := by decide +kernel
theorem dL_law_795 : decode cL_law 795 = .ok (.aload_n 0, 1) := by decide +kernel
theorem dL_law_796 : decode cL_law 796 = .ok (.iload_n 3, 1) := by decide +kernel
theorem dL_law_797 : decode cL_law 797 = .ok (.iconst 2, 1) := by decide +kernel
theorem dL_law_798 : decode cL_law 798 = .ok (.iadd, 1) := by decide +kernel
theorem dL_law_799 : decode cL_law 799 = .ok (.iaload, 1) := by decide +kernel
theorem dL_law_800 : decode cL_law 800 = .ok (.aload_n 0, 1) := by decide +kernel
theorem dL_law_801 : decode cL_law 801 = .ok (.iload_n 3, 1) := by decide +kernel
theorem dL_law_802 : decode cL_law 802 = .ok (.iconst 3, 1) := by decide +kernel
theorem dL_law_803 : decode cL_law 803 = .ok (.iadd, 1) := by decide +kernel
theorem dL_law_804 : decode cL_law 804 = .ok (.iaload, 1) := by decide +kernel
theorem dL_law_805 : decode cL_law 805 = .ok (.invokevirtual 114, 3) := by decide +kernel
theorem dL_law_808 : decode cL_law 808 = .ok (.if_icmp .eq 117, 3) := by decide +kernel
theorem dL_law_811 : decode cL_law 811 = .ok (.iconst 0, 1) := by decide +kernel
theorem dL_law_812 : decode cL_law 812 = .ok (.ireturn, 1) := by decide +kernel
theorem dL_law_813 : decode cL_law 813 = .ok (.aload_n 1, 1) := by decide +kernel
theorem dL_law_814 : decode cL_law 814 = .ok (.aload_n 0, 1) := by decide +kernel
theorem dL_law_815 : decode cL_law 815 = .ok (.iload_n 3, 1) := by decide +kernel
theorem dL_law_816 : decode cL_law 816 = .ok (.iconst 1, 1) := by decide +kernel
theorem dL_law_817 : decode cL_law 817 = .ok (.iadd, 1) := by decide +kernel
theorem dL_law_818 : decode cL_law 818 = .ok (.iaload, 1) := by decide +kernel
theorem dL_law_819 : decode cL_law 819 = .ok (.aload_n 0, 1) := by decide +kernel
theorem dL_law_820 : decode cL_law 820 = .ok (.iload_n 3, 1) := by decide +kernel
theorem dL_law_821 : decode cL_law 821 = .ok (.iconst 2, 1) := by decide +kernel
theorem dL_law_822 : decode cL_law 822 = .ok (.iadd, 1) := by decide +kernel
theorem dL_law_823 : decode cL_law 823 = .ok (.iaload, 1) := by decide +kernel
theorem dL_law_824 : decode cL_law 824 = .ok (.invokevirtual 115, 3) := by decide +kernel
theorem dL_law_827 : decode cL_law 827 = .ok (.aload_n 2, 1) := by decide +kernel
theorem dL_law_828 : decode cL_law 828 = .ok (.aload_n 0, 1) := by decide +kernel
theorem dL_law_829 : decode cL_law 829 = .ok (.iload_n 3, 1) := by decide +kernel
theorem dL_law_830 : decode cL_law 830 = .ok (.iconst 1, 1) := by decide +kernel
theorem dL_law_831 : decode cL_law 831 = .ok (.iadd, 1) := by decide +kernel
theorem dL_law_832 : decode cL_law 832 = .ok (.iaload, 1) := by decide +kernel
theorem dL_law_833 : decode cL_law 833 = .ok (.aload_n 0, 1) := by decide +kernel
theorem dL_law_834 : decode cL_law 834 = .ok (.iload_n 3, 1) := by decide +kernel
theorem dL_law_835 : decode cL_law 835 = .ok (.iconst 2, 1) := by decide +kernel
theorem dL_law_836 : decode cL_law 836 = .ok (.iadd, 1) := by decide +kernel
theorem dL_law_837 : decode cL_law 837 = .ok (.iaload, 1) := by decide +kernel
theorem dL_law_838 : decode cL_law 838 = .ok (.invokevirtual 118, 3) := by decide +kernel
theorem dL_law_841 : decode cL_law 841 = .ok (.if_icmp .eq 84, 3) := by decide +kernel
theorem dL_law_844 : decode cL_law 844 = .ok (.iconst 0, 1) := by decide +kernel
theorem dL_law_845 : decode cL_law 845 = .ok (.ireturn, 1) := by decide +kernel
theorem dL_law_846 : decode cL_law 846 = .ok (.aload_n 1, 1) := by decide +kernel
theorem dL_law_847 : decode cL_law 847 = .ok (.aload_n 0, 1) := by decide +kernel
theorem dL_law_848 : decode cL_law 848 = .ok (.iload_n 3, 1) := by decide +kernel
theorem dL_law_849 : decode cL_law 849 = .ok (.iconst 1, 1) := by decide +kernel
theorem dL_law_850 : decode cL_law 850 = .ok (.iadd, 1) := by decide +kernel
theorem dL_law_851 : decode cL_law 851 = .ok (.iaload, 1) := by decide +kernel
theorem dL_law_852 : decode cL_law 852 = .ok (.aload_n 0, 1) := by decide +kernel
theorem dL_law_853 : decode cL_law 853 = .ok (.iload_n 3, 1) := by decide +kernel
theorem dL_law_854 : decode cL_law 854 = .ok (.iconst 2, 1) := by decide +kernel
theorem dL_law_855 : decode cL_law 855 = .ok (.iadd, 1) := by decide +kernel
theorem dL_law_856 : decode cL_law 856 = .ok (.iaload, 1) := by decide +kernel
theorem dL_law_857 : decode cL_law 857 = .ok (.invokevirtual 119, 3) := by decide +kernel
theorem dL_law_860 : decode cL_law 860 = .ok (.aload_n 2, 1) := by decide +kernel
theorem dL_law_861 : decode cL_law 861 = .ok (.aload_n 0, 1) := by decide +kernel
theorem dL_law_862 : decode cL_law 862 = .ok (.iload_n 3, 1) := by decide +kernel
theorem dL_law_863 : decode cL_law 863 = .ok (.iconst 1, 1) := by decide +kernel
theorem dL_law_864 : decode cL_law 864 = .ok (.iadd, 1) := by decide +kernel
theorem dL_law_865 : decode cL_law 865 = .ok (.iaload, 1) := by decide +kernel
theorem dL_law_866 : decode cL_law 866 = .ok (.aload_n 0, 1) := by decide +kernel
theorem dL_law_867 : decode cL_law 867 = .ok (.iload_n 3, 1) := by decide +kernel
theorem dL_law_868 : decode cL_law 868 = .ok (.iconst 2, 1) := by decide +kernel
theorem dL_law_869 : decode cL_law 869 = .ok (.iadd, 1) := by decide +kernel
theorem dL_law_870 : decode cL_law 870 = .ok (.iaload, 1) := by decide +kernel
theorem dL_law_871 : decode cL_law 871 = .ok (.invokevirtual 122, 3) := by decide +kernel
theorem dL_law_874 : decode cL_law 874 = .ok (.if_icmp .eq 51, 3) := by decide +kernel
theorem dL_law_877 : decode cL_law 877 = .ok (.iconst 0, 1) := by decide +kernel
theorem dL_law_878 : decode cL_law 878 = .ok (.ireturn, 1) := by decide +kernel
theorem dL_law_879 : decode cL_law 879 = .ok (.aload_n 1, 1) := by decide +kernel
theorem dL_law_880 : decode cL_law 880 = .ok (.aload_n 0, 1) := by decide +kernel
theorem dL_law_881 : decode cL_law 881 = .ok (.iload_n 3, 1) := by decide +kernel
theorem dL_law_882 : decode cL_law 882 = .ok (.iconst 1, 1) := by decide +kernel
theorem dL_law_883 : decode cL_law 883 = .ok (.iadd, 1) := by decide +kernel
theorem dL_law_884 : decode cL_law 884 = .ok (.iaload, 1) := by decide +kernel
theorem dL_law_885 : decode cL_law 885 = .ok (.invokevirtual 123, 3) := by decide +kernel
theorem dL_law_888 : decode cL_law 888 = .ok (.aload_n 2, 1) := by decide +kernel
theorem dL_law_889 : decode cL_law 889 = .ok (.aload_n 0, 1) := by decide +kernel
theorem dL_law_890 : decode cL_law 890 = .ok (.iload_n 3, 1) := by decide +kernel
theorem dL_law_891 : decode cL_law 891 = .ok (.iconst 1, 1) := by decide +kernel
theorem dL_law_892 : decode cL_law 892 = .ok (.iadd, 1) := by decide +kernel
theorem dL_law_893 : decode cL_law 893 = .ok (.iaload, 1) := by decide +kernel
theorem dL_law_894 : decode cL_law 894 = .ok (.invokevirtual 126, 3) := by decide +kernel
theorem dL_law_897 : decode cL_law 897 = .ok (.if_icmp .eq 28, 3) := by decide +kernel
theorem dL_law_900 : decode cL_law 900 = .ok (.iconst 0, 1) := by decide +kernel
theorem dL_law_901 : decode cL_law 901 = .ok (.ireturn, 1) := by decide +kernel
theorem dL_law_902 : decode cL_law 902 = .ok (.aload_n 1, 1) := by decide +kernel
theorem dL_law_903 : decode cL_law 903 = .ok (.aload_n 0, 1) := by decide +kernel
theorem dL_law_904 : decode cL_law 904 = .ok (.iload_n 3, 1) := by decide +kernel
theorem dL_law_905 : decode cL_law 905 = .ok (.iconst 1, 1) := by decide +kernel
theorem dL_law_906 : decode cL_law 906 = .ok (.iadd, 1) := by decide +kernel
theorem dL_law_907 : decode cL_law 907 = .ok (.iaload, 1) := by decide +kernel
theorem dL_law_908 : decode cL_law 908 = .ok (.invokevirtual 127, 3) := by decide +kernel
theorem dL_law_911 : decode cL_law 911 = .ok (.aload_n 2, 1) := by decide +kernel
theorem dL_law_912 : decode cL_law 912 = .ok (.aload_n 0, 1) := by decide +kernel
theorem dL_law_913 : decode cL_law 913 = .ok (.iload_n 3, 1) := by decide +kernel
theorem dL_law_914 : decode cL_law 914 = .ok (.iconst 1, 1) := by decide +kernel
theorem dL_law_915 : decode cL_law 915 = .ok (.iadd, 1) := by decide +kernel
theorem dL_law_916 : decode cL_law 916 = .ok (.iaload, 1) := by decide +kernel
theorem dL_law_917 : decode cL_law 917 = .ok (.invokevirtual 130, 3) := by decide +kernel
theorem dL_law_920 : decode cL_law 920 = .ok (.if_icmp .eq 5, 3) := by decide +kernel
theorem dL_law_923 : decode cL_law 923 = .ok (.iconst 0, 1) := by decide +kernel
theorem dL_law_924 : decode cL_law 924 = .ok (.ireturn, 1) := by decide +kernel
theorem dL_law_925 : decode cL_law 925 = .ok (.iinc 3 5, 3) := by decide +kernel
theorem dL_law_928 : decode cL_law 928 = .ok (.goto (-910), 3) := by decide +kernel
theorem dL_law_931 : decode cL_law 931 = .ok (.iconst 1, 1) := by decide +kernel
theorem dL_law_932 : decode cL_law 932 = .ok (.ireturn, 1) := by decide +kernel
end
