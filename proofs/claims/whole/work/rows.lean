section
-- ===== PART A: goes FIRST, ahead of the names: the tables' words, and 'selects' of the private methods out of them =====
/-- a private method of a class that the tables say can be made, by its rows of tables_1 -/
def lw_okq (q : MethodName × Nat) : Prop := (q.1.cls ≠ "java/lang/invoke/MethodHandle" ∧ q.1.cls ≠ "java/lang/invoke/VarHandle") ∧ Cond.instantiable q.1.cls q.2 ∈ tables_1 ∧ Cond.privateMethod q.1 ∈ tables_1 ∧ Cond.instanceMethod q.1 ∈ tables_1
theorem lw_p0 : lw_okq (⟨"GreaterBodies$Figure", "draw", "()V"⟩, 4) := ⟨⟨by decide +kernel, by decide +kernel⟩, List.mem_of_getElem? (i := 22) (by decide +kernel), List.mem_of_getElem? (i := 237) (by decide +kernel), List.mem_of_getElem? (i := 238) (by decide +kernel)⟩
theorem lw_p1 : lw_okq (⟨"GreaterBodies$Outline", "side", "(IIII)I"⟩, 6) := ⟨⟨by decide +kernel, by decide +kernel⟩, List.mem_of_getElem? (i := 28) (by decide +kernel), List.mem_of_getElem? (i := 249) (by decide +kernel), List.mem_of_getElem? (i := 250) (by decide +kernel)⟩
theorem lw_p2 : lw_okq (⟨"GreaterBodies$Outline", "extend", "(II)V"⟩, 6) := ⟨⟨by decide +kernel, by decide +kernel⟩, List.mem_of_getElem? (i := 28) (by decide +kernel), List.mem_of_getElem? (i := 260) (by decide +kernel), List.mem_of_getElem? (i := 261) (by decide +kernel)⟩
theorem lw_p3 : lw_okq (⟨"GreaterBodies$Outline", "turn", "(IIIII)J"⟩, 6) := ⟨⟨by decide +kernel, by decide +kernel⟩, List.mem_of_getElem? (i := 28) (by decide +kernel), List.mem_of_getElem? (i := 264) (by decide +kernel), List.mem_of_getElem? (i := 265) (by decide +kernel)⟩
theorem lw_p4 : lw_okq (⟨"GreaterBodies", "isBounded", "()Z"⟩, 4) := ⟨⟨by decide +kernel, by decide +kernel⟩, List.mem_of_getElem? (i := 14) (by decide +kernel), List.mem_of_getElem? (i := 366) (by decide +kernel), List.mem_of_getElem? (i := 367) (by decide +kernel)⟩
theorem lw_p5 : lw_okq (⟨"GreaterBodies", "levels", "()I"⟩, 4) := ⟨⟨by decide +kernel, by decide +kernel⟩, List.mem_of_getElem? (i := 14) (by decide +kernel), List.mem_of_getElem? (i := 382) (by decide +kernel), List.mem_of_getElem? (i := 383) (by decide +kernel)⟩
theorem lw_p6 : lw_okq (⟨"GreaterBodies$Tables", "product", "(II)I"⟩, 4) := ⟨⟨by decide +kernel, by decide +kernel⟩, List.mem_of_getElem? (i := 67) (by decide +kernel), List.mem_of_getElem? (i := 403) (by decide +kernel), List.mem_of_getElem? (i := 404) (by decide +kernel)⟩
theorem lw_p7 : lw_okq (⟨"GreaterBodies$Choice", "search", "(LGreaterBodies$Outline;LGreaterBodies$Meets;I)I"⟩, 3) := ⟨⟨by decide +kernel, by decide +kernel⟩, List.mem_of_getElem? (i := 180) (by decide +kernel), List.mem_of_getElem? (i := 435) (by decide +kernel), List.mem_of_getElem? (i := 436) (by decide +kernel)⟩
theorem lw_p8 : lw_okq (⟨"GreaterBodies$Choice", "castAll", "(LGreaterBodies$Outline;LGreaterBodies$Meets;I)I"⟩, 3) := ⟨⟨by decide +kernel, by decide +kernel⟩, List.mem_of_getElem? (i := 180) (by decide +kernel), List.mem_of_getElem? (i := 440) (by decide +kernel), List.mem_of_getElem? (i := 441) (by decide +kernel)⟩
theorem lw_p9 : lw_okq (⟨"GreaterBodies$Choice", "shows", "(LGreaterBodies$Meets;II)Z"⟩, 3) := ⟨⟨by decide +kernel, by decide +kernel⟩, List.mem_of_getElem? (i := 180) (by decide +kernel), List.mem_of_getElem? (i := 485) (by decide +kernel), List.mem_of_getElem? (i := 486) (by decide +kernel)⟩
theorem lw_p10 : lw_okq (⟨"GreaterBodies$Meets", "addRays", "(LGreaterBodies$Walls;II)V"⟩, 10) := ⟨⟨by decide +kernel, by decide +kernel⟩, List.mem_of_getElem? (i := 122) (by decide +kernel), List.mem_of_getElem? (i := 558) (by decide +kernel), List.mem_of_getElem? (i := 559) (by decide +kernel)⟩
theorem lw_p11 : lw_okq (⟨"GreaterBodies$Meets", "addRay", "(LGreaterBodies$Walls;III)V"⟩, 10) := ⟨⟨by decide +kernel, by decide +kernel⟩, List.mem_of_getElem? (i := 122) (by decide +kernel), List.mem_of_getElem? (i := 562) (by decide +kernel), List.mem_of_getElem? (i := 563) (by decide +kernel)⟩
theorem lw_p12 : lw_okq (⟨"GreaterBodies$Meets", "addMeet", "(LGreaterBodies$Walls;III)V"⟩, 10) := ⟨⟨by decide +kernel, by decide +kernel⟩, List.mem_of_getElem? (i := 122) (by decide +kernel), List.mem_of_getElem? (i := 570) (by decide +kernel), List.mem_of_getElem? (i := 571) (by decide +kernel)⟩
theorem lw_p13 : lw_okq (⟨"GreaterBodies$Meets", "mark", "(LGreaterBodies$Walls;)V"⟩, 10) := ⟨⟨by decide +kernel, by decide +kernel⟩, List.mem_of_getElem? (i := 122) (by decide +kernel), List.mem_of_getElem? (i := 577) (by decide +kernel), List.mem_of_getElem? (i := 578) (by decide +kernel)⟩
theorem lw_p14 : lw_okq (⟨"GreaterBodies$Body", "carve", "()V"⟩, 6) := ⟨⟨by decide +kernel, by decide +kernel⟩, List.mem_of_getElem? (i := 86) (by decide +kernel), List.mem_of_getElem? (i := 581) (by decide +kernel), List.mem_of_getElem? (i := 582) (by decide +kernel)⟩
theorem lw_p15 : lw_okq (⟨"GreaterBodies$Body", "addVertex", "(I)V"⟩, 6) := ⟨⟨by decide +kernel, by decide +kernel⟩, List.mem_of_getElem? (i := 86) (by decide +kernel), List.mem_of_getElem? (i := 588) (by decide +kernel), List.mem_of_getElem? (i := 589) (by decide +kernel)⟩
def lw_privs_1 : List (MethodName × Nat) := [(⟨"GreaterBodies$Figure", "draw", "()V"⟩, 4), (⟨"GreaterBodies$Outline", "side", "(IIII)I"⟩, 6), (⟨"GreaterBodies$Outline", "extend", "(II)V"⟩, 6), (⟨"GreaterBodies$Outline", "turn", "(IIIII)J"⟩, 6), (⟨"GreaterBodies", "isBounded", "()Z"⟩, 4), (⟨"GreaterBodies", "levels", "()I"⟩, 4), (⟨"GreaterBodies$Tables", "product", "(II)I"⟩, 4), (⟨"GreaterBodies$Choice", "search", "(LGreaterBodies$Outline;LGreaterBodies$Meets;I)I"⟩, 3), (⟨"GreaterBodies$Choice", "castAll", "(LGreaterBodies$Outline;LGreaterBodies$Meets;I)I"⟩, 3), (⟨"GreaterBodies$Choice", "shows", "(LGreaterBodies$Meets;II)Z"⟩, 3), (⟨"GreaterBodies$Meets", "addRays", "(LGreaterBodies$Walls;II)V"⟩, 10), (⟨"GreaterBodies$Meets", "addRay", "(LGreaterBodies$Walls;III)V"⟩, 10), (⟨"GreaterBodies$Meets", "addMeet", "(LGreaterBodies$Walls;III)V"⟩, 10), (⟨"GreaterBodies$Meets", "mark", "(LGreaterBodies$Walls;)V"⟩, 10), (⟨"GreaterBodies$Body", "carve", "()V"⟩, 6), (⟨"GreaterBodies$Body", "addVertex", "(I)V"⟩, 6)]
theorem lw_r1 : ∀ q ∈ lw_privs_1, lw_okq q := List.forall_mem_cons.mpr ⟨lw_p0, List.forall_mem_cons.mpr ⟨lw_p1, List.forall_mem_cons.mpr ⟨lw_p2, List.forall_mem_cons.mpr ⟨lw_p3, List.forall_mem_cons.mpr ⟨lw_p4, List.forall_mem_cons.mpr ⟨lw_p5, List.forall_mem_cons.mpr ⟨lw_p6, List.forall_mem_cons.mpr ⟨lw_p7, List.forall_mem_cons.mpr ⟨lw_p8, List.forall_mem_cons.mpr ⟨lw_p9, List.forall_mem_cons.mpr ⟨lw_p10, List.forall_mem_cons.mpr ⟨lw_p11, List.forall_mem_cons.mpr ⟨lw_p12, List.forall_mem_cons.mpr ⟨lw_p13, List.forall_mem_cons.mpr ⟨lw_p14, List.forall_mem_cons.mpr ⟨lw_p15, fun _ h => absurd h List.not_mem_nil⟩⟩⟩⟩⟩⟩⟩⟩⟩⟩⟩⟩⟩⟩⟩⟩
theorem lw_p16 : lw_okq (⟨"GreaterBodies$Body", "isRim", "(II)Z"⟩, 6) := ⟨⟨by decide +kernel, by decide +kernel⟩, List.mem_of_getElem? (i := 86) (by decide +kernel), List.mem_of_getElem? (i := 695) (by decide +kernel), List.mem_of_getElem? (i := 696) (by decide +kernel)⟩
theorem lw_p17 : lw_okq (⟨"GreaterBodies", "aimRefusal", "(III)I"⟩, 4) := ⟨⟨by decide +kernel, by decide +kernel⟩, List.mem_of_getElem? (i := 14) (by decide +kernel), List.mem_of_getElem? (i := 789) (by decide +kernel), List.mem_of_getElem? (i := 790) (by decide +kernel)⟩
theorem lw_p18 : lw_okq (⟨"GreaterBodies$Body", "over", "(IIII)I"⟩, 6) := ⟨⟨by decide +kernel, by decide +kernel⟩, List.mem_of_getElem? (i := 86) (by decide +kernel), List.mem_of_getElem? (i := 797) (by decide +kernel), List.mem_of_getElem? (i := 798) (by decide +kernel)⟩
theorem lw_p19 : lw_okq (⟨"GreaterBodiesModel", "layFigure", "()V"⟩, 34) := ⟨⟨by decide +kernel, by decide +kernel⟩, List.mem_of_getElem? (i := 818) (by decide +kernel), List.mem_of_getElem? (i := 953) (by decide +kernel), List.mem_of_getElem? (i := 954) (by decide +kernel)⟩
theorem lw_p20 : lw_okq (⟨"GreaterBodiesModel", "hull", "(II[I)I"⟩, 34) := ⟨⟨by decide +kernel, by decide +kernel⟩, List.mem_of_getElem? (i := 818) (by decide +kernel), List.mem_of_getElem? (i := 957) (by decide +kernel), List.mem_of_getElem? (i := 958) (by decide +kernel)⟩
theorem lw_p21 : lw_okq (⟨"GreaterBodiesModel", "isAhead", "(II)Z"⟩, 34) := ⟨⟨by decide +kernel, by decide +kernel⟩, List.mem_of_getElem? (i := 818) (by decide +kernel), List.mem_of_getElem? (i := 961) (by decide +kernel), List.mem_of_getElem? (i := 962) (by decide +kernel)⟩
theorem lw_p22 : lw_okq (⟨"GreaterBodiesModel", "compare", "(JJJJ)J"⟩, 34) := ⟨⟨by decide +kernel, by decide +kernel⟩, List.mem_of_getElem? (i := 818) (by decide +kernel), List.mem_of_getElem? (i := 965) (by decide +kernel), List.mem_of_getElem? (i := 966) (by decide +kernel)⟩
theorem lw_p23 : lw_okq (⟨"GreaterBodiesModel", "isOne", "(II)Z"⟩, 34) := ⟨⟨by decide +kernel, by decide +kernel⟩, List.mem_of_getElem? (i := 818) (by decide +kernel), List.mem_of_getElem? (i := 969) (by decide +kernel), List.mem_of_getElem? (i := 970) (by decide +kernel)⟩
theorem lw_p24 : lw_okq (⟨"GreaterBodiesModel", "side", "(III)J"⟩, 34) := ⟨⟨by decide +kernel, by decide +kernel⟩, List.mem_of_getElem? (i := 818) (by decide +kernel), List.mem_of_getElem? (i := 974) (by decide +kernel), List.mem_of_getElem? (i := 975) (by decide +kernel)⟩
theorem lw_p25 : lw_okq (⟨"GreaterBodiesModel", "isBetween", "(III)Z"⟩, 34) := ⟨⟨by decide +kernel, by decide +kernel⟩, List.mem_of_getElem? (i := 818) (by decide +kernel), List.mem_of_getElem? (i := 978) (by decide +kernel), List.mem_of_getElem? (i := 979) (by decide +kernel)⟩
theorem lw_p26 : lw_okq (⟨"GreaterBodiesModel", "wallPart", "(II)I"⟩, 34) := ⟨⟨by decide +kernel, by decide +kernel⟩, List.mem_of_getElem? (i := 818) (by decide +kernel), List.mem_of_getElem? (i := 992) (by decide +kernel), List.mem_of_getElem? (i := 993) (by decide +kernel)⟩
theorem lw_p27 : lw_okq (⟨"GreaterBodiesModel", "slackOf", "(II)I"⟩, 34) := ⟨⟨by decide +kernel, by decide +kernel⟩, List.mem_of_getElem? (i := 818) (by decide +kernel), List.mem_of_getElem? (i := 1003) (by decide +kernel), List.mem_of_getElem? (i := 1004) (by decide +kernel)⟩
theorem lw_p28 : lw_okq (⟨"GreaterBodiesModel", "isFlat", "()Z"⟩, 34) := ⟨⟨by decide +kernel, by decide +kernel⟩, List.mem_of_getElem? (i := 818) (by decide +kernel), List.mem_of_getElem? (i := 1015) (by decide +kernel), List.mem_of_getElem? (i := 1016) (by decide +kernel)⟩
theorem lw_p29 : lw_okq (⟨"GreaterBodiesModel", "mayBound", "()Z"⟩, 34) := ⟨⟨by decide +kernel, by decide +kernel⟩, List.mem_of_getElem? (i := 818) (by decide +kernel), List.mem_of_getElem? (i := 1023) (by decide +kernel), List.mem_of_getElem? (i := 1024) (by decide +kernel)⟩
theorem lw_p30 : lw_okq (⟨"GreaterBodiesModel", "coverNow", "()I"⟩, 34) := ⟨⟨by decide +kernel, by decide +kernel⟩, List.mem_of_getElem? (i := 818) (by decide +kernel), List.mem_of_getElem? (i := 1027) (by decide +kernel), List.mem_of_getElem? (i := 1028) (by decide +kernel)⟩
theorem lw_p31 : lw_okq (⟨"GreaterBodiesModel", "layOpen", "()V"⟩, 34) := ⟨⟨by decide +kernel, by decide +kernel⟩, List.mem_of_getElem? (i := 818) (by decide +kernel), List.mem_of_getElem? (i := 1031) (by decide +kernel), List.mem_of_getElem? (i := 1032) (by decide +kernel)⟩
def lw_privs_2 : List (MethodName × Nat) := [(⟨"GreaterBodies$Body", "isRim", "(II)Z"⟩, 6), (⟨"GreaterBodies", "aimRefusal", "(III)I"⟩, 4), (⟨"GreaterBodies$Body", "over", "(IIII)I"⟩, 6), (⟨"GreaterBodiesModel", "layFigure", "()V"⟩, 34), (⟨"GreaterBodiesModel", "hull", "(II[I)I"⟩, 34), (⟨"GreaterBodiesModel", "isAhead", "(II)Z"⟩, 34), (⟨"GreaterBodiesModel", "compare", "(JJJJ)J"⟩, 34), (⟨"GreaterBodiesModel", "isOne", "(II)Z"⟩, 34), (⟨"GreaterBodiesModel", "side", "(III)J"⟩, 34), (⟨"GreaterBodiesModel", "isBetween", "(III)Z"⟩, 34), (⟨"GreaterBodiesModel", "wallPart", "(II)I"⟩, 34), (⟨"GreaterBodiesModel", "slackOf", "(II)I"⟩, 34), (⟨"GreaterBodiesModel", "isFlat", "()Z"⟩, 34), (⟨"GreaterBodiesModel", "mayBound", "()Z"⟩, 34), (⟨"GreaterBodiesModel", "coverNow", "()I"⟩, 34), (⟨"GreaterBodiesModel", "layOpen", "()V"⟩, 34)]
theorem lw_r2 : ∀ q ∈ lw_privs_2, lw_okq q := List.forall_mem_cons.mpr ⟨lw_p16, List.forall_mem_cons.mpr ⟨lw_p17, List.forall_mem_cons.mpr ⟨lw_p18, List.forall_mem_cons.mpr ⟨lw_p19, List.forall_mem_cons.mpr ⟨lw_p20, List.forall_mem_cons.mpr ⟨lw_p21, List.forall_mem_cons.mpr ⟨lw_p22, List.forall_mem_cons.mpr ⟨lw_p23, List.forall_mem_cons.mpr ⟨lw_p24, List.forall_mem_cons.mpr ⟨lw_p25, List.forall_mem_cons.mpr ⟨lw_p26, List.forall_mem_cons.mpr ⟨lw_p27, List.forall_mem_cons.mpr ⟨lw_p28, List.forall_mem_cons.mpr ⟨lw_p29, List.forall_mem_cons.mpr ⟨lw_p30, List.forall_mem_cons.mpr ⟨lw_p31, fun _ h => absurd h List.not_mem_nil⟩⟩⟩⟩⟩⟩⟩⟩⟩⟩⟩⟩⟩⟩⟩⟩
theorem lw_p32 : lw_okq (⟨"GreaterBodiesModel", "layBlocks", "()V"⟩, 34) := ⟨⟨by decide +kernel, by decide +kernel⟩, List.mem_of_getElem? (i := 818) (by decide +kernel), List.mem_of_getElem? (i := 1035) (by decide +kernel), List.mem_of_getElem? (i := 1036) (by decide +kernel)⟩
theorem lw_p33 : lw_okq (⟨"GreaterBodiesModel", "covers", "(I)Z"⟩, 34) := ⟨⟨by decide +kernel, by decide +kernel⟩, List.mem_of_getElem? (i := 818) (by decide +kernel), List.mem_of_getElem? (i := 1039) (by decide +kernel), List.mem_of_getElem? (i := 1040) (by decide +kernel)⟩
theorem lw_p34 : lw_okq (⟨"GreaterBodiesModel", "foolsNow", "()I"⟩, 34) := ⟨⟨by decide +kernel, by decide +kernel⟩, List.mem_of_getElem? (i := 818) (by decide +kernel), List.mem_of_getElem? (i := 1050) (by decide +kernel), List.mem_of_getElem? (i := 1051) (by decide +kernel)⟩
theorem lw_p35 : lw_okq (⟨"GreaterBodiesModel", "layFooling", "()V"⟩, 34) := ⟨⟨by decide +kernel, by decide +kernel⟩, List.mem_of_getElem? (i := 818) (by decide +kernel), List.mem_of_getElem? (i := 1054) (by decide +kernel), List.mem_of_getElem? (i := 1055) (by decide +kernel)⟩
theorem lw_p36 : lw_okq (⟨"GreaterBodiesModel", "isOpen", "(II)Z"⟩, 34) := ⟨⟨by decide +kernel, by decide +kernel⟩, List.mem_of_getElem? (i := 818) (by decide +kernel), List.mem_of_getElem? (i := 1058) (by decide +kernel), List.mem_of_getElem? (i := 1059) (by decide +kernel)⟩
theorem lw_p37 : lw_okq (⟨"GreaterBodiesModel", "logNow", "()I"⟩, 34) := ⟨⟨by decide +kernel, by decide +kernel⟩, List.mem_of_getElem? (i := 818) (by decide +kernel), List.mem_of_getElem? (i := 1069) (by decide +kernel), List.mem_of_getElem? (i := 1070) (by decide +kernel)⟩
theorem lw_p38 : lw_okq (⟨"GreaterBodiesModel", "wrongPair", "()I"⟩, 34) := ⟨⟨by decide +kernel, by decide +kernel⟩, List.mem_of_getElem? (i := 818) (by decide +kernel), List.mem_of_getElem? (i := 1094) (by decide +kernel), List.mem_of_getElem? (i := 1095) (by decide +kernel)⟩
theorem lw_p39 : lw_okq (⟨"GreaterBodiesModel", "isWall", "(I)Z"⟩, 34) := ⟨⟨by decide +kernel, by decide +kernel⟩, List.mem_of_getElem? (i := 818) (by decide +kernel), List.mem_of_getElem? (i := 1115) (by decide +kernel), List.mem_of_getElem? (i := 1116) (by decide +kernel)⟩
theorem lw_p40 : lw_okq (⟨"GreaterBodiesModel", "setOn", "()I"⟩, 34) := ⟨⟨by decide +kernel, by decide +kernel⟩, List.mem_of_getElem? (i := 818) (by decide +kernel), List.mem_of_getElem? (i := 1132) (by decide +kernel), List.mem_of_getElem? (i := 1133) (by decide +kernel)⟩
theorem lw_p41 : lw_okq (⟨"GreaterBodiesModel", "isSound", "(I)Z"⟩, 34) := ⟨⟨by decide +kernel, by decide +kernel⟩, List.mem_of_getElem? (i := 818) (by decide +kernel), List.mem_of_getElem? (i := 1136) (by decide +kernel), List.mem_of_getElem? (i := 1137) (by decide +kernel)⟩
theorem lw_p42 : lw_okq (⟨"GreaterBodiesModel", "layVertices", "(I)V"⟩, 34) := ⟨⟨by decide +kernel, by decide +kernel⟩, List.mem_of_getElem? (i := 818) (by decide +kernel), List.mem_of_getElem? (i := 1140) (by decide +kernel), List.mem_of_getElem? (i := 1141) (by decide +kernel)⟩
theorem lw_p43 : lw_okq (⟨"GreaterBodiesModel", "determinant", "(IIIIII)J"⟩, 34) := ⟨⟨by decide +kernel, by decide +kernel⟩, List.mem_of_getElem? (i := 818) (by decide +kernel), List.mem_of_getElem? (i := 1144) (by decide +kernel), List.mem_of_getElem? (i := 1145) (by decide +kernel)⟩
theorem lw_p44 : lw_okq (⟨"GreaterBodiesModel", "holdsAll", "(IJJJJ)Z"⟩, 34) := ⟨⟨by decide +kernel, by decide +kernel⟩, List.mem_of_getElem? (i := 818) (by decide +kernel), List.mem_of_getElem? (i := 1148) (by decide +kernel), List.mem_of_getElem? (i := 1149) (by decide +kernel)⟩
theorem lw_p45 : lw_okq (⟨"GreaterBodiesModel", "leaves", "(IJJJJ)J"⟩, 34) := ⟨⟨by decide +kernel, by decide +kernel⟩, List.mem_of_getElem? (i := 818) (by decide +kernel), List.mem_of_getElem? (i := 1152) (by decide +kernel), List.mem_of_getElem? (i := 1153) (by decide +kernel)⟩
theorem lw_p46 : lw_okq (⟨"GreaterBodiesModel", "put", "(JJJJ)V"⟩, 34) := ⟨⟨by decide +kernel, by decide +kernel⟩, List.mem_of_getElem? (i := 818) (by decide +kernel), List.mem_of_getElem? (i := 1156) (by decide +kernel), List.mem_of_getElem? (i := 1157) (by decide +kernel)⟩
theorem lw_p47 : lw_okq (⟨"GreaterBodiesModel", "order", "(IJJJJ)I"⟩, 34) := ⟨⟨by decide +kernel, by decide +kernel⟩, List.mem_of_getElem? (i := 818) (by decide +kernel), List.mem_of_getElem? (i := 1160) (by decide +kernel), List.mem_of_getElem? (i := 1161) (by decide +kernel)⟩
def lw_privs_3 : List (MethodName × Nat) := [(⟨"GreaterBodiesModel", "layBlocks", "()V"⟩, 34), (⟨"GreaterBodiesModel", "covers", "(I)Z"⟩, 34), (⟨"GreaterBodiesModel", "foolsNow", "()I"⟩, 34), (⟨"GreaterBodiesModel", "layFooling", "()V"⟩, 34), (⟨"GreaterBodiesModel", "isOpen", "(II)Z"⟩, 34), (⟨"GreaterBodiesModel", "logNow", "()I"⟩, 34), (⟨"GreaterBodiesModel", "wrongPair", "()I"⟩, 34), (⟨"GreaterBodiesModel", "isWall", "(I)Z"⟩, 34), (⟨"GreaterBodiesModel", "setOn", "()I"⟩, 34), (⟨"GreaterBodiesModel", "isSound", "(I)Z"⟩, 34), (⟨"GreaterBodiesModel", "layVertices", "(I)V"⟩, 34), (⟨"GreaterBodiesModel", "determinant", "(IIIIII)J"⟩, 34), (⟨"GreaterBodiesModel", "holdsAll", "(IJJJJ)Z"⟩, 34), (⟨"GreaterBodiesModel", "leaves", "(IJJJJ)J"⟩, 34), (⟨"GreaterBodiesModel", "put", "(JJJJ)V"⟩, 34), (⟨"GreaterBodiesModel", "order", "(IJJJJ)I"⟩, 34)]
theorem lw_r3 : ∀ q ∈ lw_privs_3, lw_okq q := List.forall_mem_cons.mpr ⟨lw_p32, List.forall_mem_cons.mpr ⟨lw_p33, List.forall_mem_cons.mpr ⟨lw_p34, List.forall_mem_cons.mpr ⟨lw_p35, List.forall_mem_cons.mpr ⟨lw_p36, List.forall_mem_cons.mpr ⟨lw_p37, List.forall_mem_cons.mpr ⟨lw_p38, List.forall_mem_cons.mpr ⟨lw_p39, List.forall_mem_cons.mpr ⟨lw_p40, List.forall_mem_cons.mpr ⟨lw_p41, List.forall_mem_cons.mpr ⟨lw_p42, List.forall_mem_cons.mpr ⟨lw_p43, List.forall_mem_cons.mpr ⟨lw_p44, List.forall_mem_cons.mpr ⟨lw_p45, List.forall_mem_cons.mpr ⟨lw_p46, List.forall_mem_cons.mpr ⟨lw_p47, fun _ h => absurd h List.not_mem_nil⟩⟩⟩⟩⟩⟩⟩⟩⟩⟩⟩⟩⟩⟩⟩⟩
theorem lw_p48 : lw_okq (⟨"GreaterBodiesModel", "goesOn", "(IJJJ)Z"⟩, 34) := ⟨⟨by decide +kernel, by decide +kernel⟩, List.mem_of_getElem? (i := 818) (by decide +kernel), List.mem_of_getElem? (i := 1164) (by decide +kernel), List.mem_of_getElem? (i := 1165) (by decide +kernel)⟩
theorem lw_p49 : lw_okq (⟨"GreaterBodiesModel", "tightAt", "(II)I"⟩, 34) := ⟨⟨by decide +kernel, by decide +kernel⟩, List.mem_of_getElem? (i := 818) (by decide +kernel), List.mem_of_getElem? (i := 1185) (by decide +kernel), List.mem_of_getElem? (i := 1186) (by decide +kernel)⟩
theorem lw_p50 : lw_okq (⟨"GreaterBodiesModel", "hasTwo", "(I)Z"⟩, 34) := ⟨⟨by decide +kernel, by decide +kernel⟩, List.mem_of_getElem? (i := 818) (by decide +kernel), List.mem_of_getElem? (i := 1193) (by decide +kernel), List.mem_of_getElem? (i := 1194) (by decide +kernel)⟩
theorem lw_p51 : lw_okq (⟨"GreaterBodiesModel", "isIdle", "(I)Z"⟩, 34) := ⟨⟨by decide +kernel, by decide +kernel⟩, List.mem_of_getElem? (i := 818) (by decide +kernel), List.mem_of_getElem? (i := 1201) (by decide +kernel), List.mem_of_getElem? (i := 1202) (by decide +kernel)⟩
theorem lw_p52 : lw_okq (⟨"GreaterBodiesModel", "keep", "()V"⟩, 34) := ⟨⟨by decide +kernel, by decide +kernel⟩, List.mem_of_getElem? (i := 818) (by decide +kernel), List.mem_of_getElem? (i := 1205) (by decide +kernel), List.mem_of_getElem? (i := 1206) (by decide +kernel)⟩
theorem lw_p53 : lw_okq (⟨"GreaterBodiesModel", "areKept", "()Z"⟩, 34) := ⟨⟨by decide +kernel, by decide +kernel⟩, List.mem_of_getElem? (i := 818) (by decide +kernel), List.mem_of_getElem? (i := 1209) (by decide +kernel), List.mem_of_getElem? (i := 1210) (by decide +kernel)⟩
theorem lw_p54 : lw_okq (⟨"GreaterBodiesModel", "layShadow", "(I)Z"⟩, 34) := ⟨⟨by decide +kernel, by decide +kernel⟩, List.mem_of_getElem? (i := 818) (by decide +kernel), List.mem_of_getElem? (i := 1217) (by decide +kernel), List.mem_of_getElem? (i := 1218) (by decide +kernel)⟩
theorem lw_p55 : lw_okq (⟨"GreaterBodiesModel", "isSeen", "()Z"⟩, 34) := ⟨⟨by decide +kernel, by decide +kernel⟩, List.mem_of_getElem? (i := 818) (by decide +kernel), List.mem_of_getElem? (i := 1230) (by decide +kernel), List.mem_of_getElem? (i := 1231) (by decide +kernel)⟩
theorem lw_p56 : lw_okq (⟨"GreaterBodiesModel", "isOutside", "(II[I)Z"⟩, 34) := ⟨⟨by decide +kernel, by decide +kernel⟩, List.mem_of_getElem? (i := 818) (by decide +kernel), List.mem_of_getElem? (i := 1238) (by decide +kernel), List.mem_of_getElem? (i := 1239) (by decide +kernel)⟩
theorem lw_p57 : lw_okq (⟨"GreaterBodiesModel", "layFewest", "()V"⟩, 34) := ⟨⟨by decide +kernel, by decide +kernel⟩, List.mem_of_getElem? (i := 818) (by decide +kernel), List.mem_of_getElem? (i := 1250) (by decide +kernel), List.mem_of_getElem? (i := 1251) (by decide +kernel)⟩
theorem lw_p58 : lw_okq (⟨"GreaterBodiesModel", "mayAsk", "(III)I"⟩, 34) := ⟨⟨by decide +kernel, by decide +kernel⟩, List.mem_of_getElem? (i := 818) (by decide +kernel), List.mem_of_getElem? (i := 1283) (by decide +kernel), List.mem_of_getElem? (i := 1284) (by decide +kernel)⟩
theorem lw_p59 : lw_okq (⟨"GreaterBodiesModel", "bestVertex", "(III)I"⟩, 34) := ⟨⟨by decide +kernel, by decide +kernel⟩, List.mem_of_getElem? (i := 818) (by decide +kernel), List.mem_of_getElem? (i := 1287) (by decide +kernel), List.mem_of_getElem? (i := 1288) (by decide +kernel)⟩
def lw_privs_4 : List (MethodName × Nat) := [(⟨"GreaterBodiesModel", "goesOn", "(IJJJ)Z"⟩, 34), (⟨"GreaterBodiesModel", "tightAt", "(II)I"⟩, 34), (⟨"GreaterBodiesModel", "hasTwo", "(I)Z"⟩, 34), (⟨"GreaterBodiesModel", "isIdle", "(I)Z"⟩, 34), (⟨"GreaterBodiesModel", "keep", "()V"⟩, 34), (⟨"GreaterBodiesModel", "areKept", "()Z"⟩, 34), (⟨"GreaterBodiesModel", "layShadow", "(I)Z"⟩, 34), (⟨"GreaterBodiesModel", "isSeen", "()Z"⟩, 34), (⟨"GreaterBodiesModel", "isOutside", "(II[I)Z"⟩, 34), (⟨"GreaterBodiesModel", "layFewest", "()V"⟩, 34), (⟨"GreaterBodiesModel", "mayAsk", "(III)I"⟩, 34), (⟨"GreaterBodiesModel", "bestVertex", "(III)I"⟩, 34)]
theorem lw_r4 : ∀ q ∈ lw_privs_4, lw_okq q := List.forall_mem_cons.mpr ⟨lw_p48, List.forall_mem_cons.mpr ⟨lw_p49, List.forall_mem_cons.mpr ⟨lw_p50, List.forall_mem_cons.mpr ⟨lw_p51, List.forall_mem_cons.mpr ⟨lw_p52, List.forall_mem_cons.mpr ⟨lw_p53, List.forall_mem_cons.mpr ⟨lw_p54, List.forall_mem_cons.mpr ⟨lw_p55, List.forall_mem_cons.mpr ⟨lw_p56, List.forall_mem_cons.mpr ⟨lw_p57, List.forall_mem_cons.mpr ⟨lw_p58, List.forall_mem_cons.mpr ⟨lw_p59, fun _ h => absurd h List.not_mem_nil⟩⟩⟩⟩⟩⟩⟩⟩⟩⟩⟩⟩
def lw_privs : List (MethodName × Nat) := lw_privs_1 ++ (lw_privs_2 ++ (lw_privs_3 ++ (lw_privs_4)))
def lw_tbl : List Cond := k2_sels lw_privs ++ tables_1
theorem lw_privs_ok : ∀ q ∈ lw_privs, lw_okq q := by
  show ∀ q ∈ lw_privs_1 ++ (lw_privs_2 ++ (lw_privs_3 ++ (lw_privs_4))), lw_okq q
  exact List.forall_mem_append.mpr ⟨lw_r1, List.forall_mem_append.mpr ⟨lw_r2, List.forall_mem_append.mpr ⟨lw_r3, lw_r4⟩⟩⟩
-- ===== base =====
abbrev av_V : Type := Int ⊕ (Int ⊕ Nat)
abbrev vI (z : Int) : av_V := .inl z
abbrev vL (z : Int) : av_V := .inr (.inl z)
abbrev vR (k : Nat) : av_V := .inr (.inr k)
abbrev av_T : Type := List (Nat × Instr × Nat × Nat)
abbrev av_mi : Type := MethodName × ByteArray × Nat × Option FieldType × av_T
def av_lk : av_T → Nat → Option (Instr × Nat × Nat)
  | [], _ => none
  | q :: r, pc => bif Nat.beq q.1 pc then some q.2 else av_lk r pc
def av_tg : Instr → Option Int
  | .ifCond _ o => some o
  | .if_icmp _ o => some o
  | .goto o => some o
  | _ => none
/-- how long an instruction is (0: not told) -/
def av_len : Instr → Nat
  | .bipush _ | .iload _ | .lload _ | .aload _ | .istore _ | .lstore _ | .astore _ | .ldc _ => 2
  | .sipush _ | .iinc _ _ | .ifCond _ _ | .if_icmp _ _ | .goto _ | .getfield _ | .putfield _ | .getstatic _ | .invokevirtual _ | .invokestatic _ | .ldc_w _ | .ldc2_w _ => 3
  | .iconst _ | .lconst _ | .iload_n _ | .lload_n _ | .aload_n _ | .istore_n _ | .lstore_n _ | .iadd | .isub | .imul | .iand | .ior | .ixor | .idiv | .irem | .ineg | .ishl | .ishr | .iushr
  | .ladd | .lsub | .lmul | .land | .lor | .lxor | .ldiv | .lrem | .lneg | .lshl | .lshr | .lcmp | .i2l | .l2i | .dup | .dup2 | .pop | .iaload | .laload | .baload | .iastore | .lastore | .bastore
  | .ireturn | .lreturn | .areturn | .return_ | .arraylength => 1
  | _ => 0
def av_ok1 (c : ByteArray) (q : Nat × Instr × Nat × Nat) : Bool :=
  decide (decode c q.1 = .ok (q.2.1, q.2.2.1 - q.1)) && Nat.blt q.1 q.2.2.1 && (Nat.beq (av_len q.2.1) 0 || Nat.beq q.2.2.1 (q.1 + av_len q.2.1)) && (match av_tg q.2.1 with | some o => decide ((q.1 : Int) + o = (q.2.2.2 : Int)) | none => true)
def av_OK (mi : av_mi) : Prop := mi.2.2.2.2.all (av_ok1 mi.2.1) = true
/-- the words that a call keeps -/
def av_WT : List Cond := lw_tbl.filter goodWord
theorem av_in {w : Cond} (h : w ∈ lw_tbl) (g : goodWord w = true) : w ∈ av_WT := List.mem_filter.mpr ⟨h, g⟩
/-- a method that may be called -/
def av_me (mi : av_mi) : Prop := Cond.code mi.1 mi.2.1 mi.2.2.1 mi.2.2.2.1 ∈ av_WT ∧ Cond.initialized mi.1.cls ∈ av_WT ∧ (mi.1.cls ≠ "java/lang/invoke/MethodHandle" ∧ mi.1.cls ≠ "java/lang/invoke/VarHandle") ∧ plainName mi.1.cls = true
def RX0 : String := "GreaterBodies$Body"
def TX0 : u_T := fun k => match k with
  | 0 => ("GreaterBodies$Body", "walls", "LGreaterBodies$Walls;", true)
  | 1 => ("GreaterBodies$Body", "meets", "LGreaterBodies$Meets;", true)
  | 2 => ("GreaterBodies$Body", "vertexMeets", "[I", true)
  | 3 => ("GreaterBodies$Body", "outline", "LGreaterBodies$Outline;", true)
  | 4 => ("GreaterBodies$Body", "size", "I", false)
  | _ => ("GreaterBodies$Body", "isSound", "Z", false)
def tyX0 : Nat → FieldType := fun k => match k with
  | 0 => .object "GreaterBodies$Walls"
  | 1 => .object "GreaterBodies$Meets"
  | 2 => .array .int
  | 3 => .object "GreaterBodies$Outline"
  | 4 => .int
  | _ => .boolean
abbrev wsX00 : List Cond := u_ws RX0 TX0 6
theorem nmX0 : ∀ a, a < 6 → ∀ b, b < 6 → a ≠ b → (TX0 a).2.1 ≠ (TX0 b).2.1 := by decide +kernel
theorem tyX0_ok : ∀ k, k < 6 → parseFieldDescriptor (TX0 k).2.2.1 = some (tyX0 k) := by decide +kernel
abbrev cX0_init : ByteArray := prog_2_method_1_code
def yX0_init : MethodName := ⟨RX0, "<init>", "()V"⟩
abbrev cX0_walls : ByteArray := prog_2_method_2_code
def yX0_walls : MethodName := ⟨RX0, "walls", "()LGreaterBodies$Walls;"⟩
abbrev cX0_meets : ByteArray := prog_2_method_3_code
def yX0_meets : MethodName := ⟨RX0, "meets", "()LGreaterBodies$Meets;"⟩
abbrev cX0_outline : ByteArray := prog_2_method_4_code
def yX0_outline : MethodName := ⟨RX0, "outline", "()LGreaterBodies$Outline;"⟩
abbrev cX0_size : ByteArray := prog_2_method_5_code
def yX0_size : MethodName := ⟨RX0, "size", "()I"⟩
abbrev cX0_isSound : ByteArray := prog_2_method_6_code
def yX0_isSound : MethodName := ⟨RX0, "isSound", "()Z"⟩
abbrev cX0_has : ByteArray := prog_2_method_7_code
def yX0_has : MethodName := ⟨RX0, "has", "(I)Z"⟩
abbrev cX0_build : ByteArray := prog_2_method_8_code
def yX0_build : MethodName := ⟨RX0, "build", "(IIII)I"⟩
abbrev cX0_push : ByteArray := prog_2_method_9_code
def yX0_push : MethodName := ⟨RX0, "push", "(II)I"⟩
abbrev cX0_turn : ByteArray := prog_2_method_10_code
def yX0_turn : MethodName := ⟨RX0, "turn", "(IZ)I"⟩
abbrev cX0_carve : ByteArray := prog_2_method_11_code
def yX0_carve : MethodName := ⟨RX0, "carve", "()V"⟩
abbrev cX0_addVertex : ByteArray := prog_2_method_12_code
def yX0_addVertex : MethodName := ⟨RX0, "addVertex", "(I)V"⟩
abbrev cX0_coordinate : ByteArray := prog_2_method_13_code
def yX0_coordinate : MethodName := ⟨RX0, "coordinate", "(IIZ)J"⟩
abbrev cX0_tightAt : ByteArray := prog_2_method_14_code
def yX0_tightAt : MethodName := ⟨RX0, "tightAt", "(I)I"⟩
abbrev cX0_rimCount : ByteArray := prog_2_method_15_code
def yX0_rimCount : MethodName := ⟨RX0, "rimCount", "()I"⟩
abbrev cX0_isRim : ByteArray := prog_2_method_16_code
def yX0_isRim : MethodName := ⟨RX0, "isRim", "(II)Z"⟩
abbrev cX0_isIdle : ByteArray := prog_2_method_17_code
def yX0_isIdle : MethodName := ⟨RX0, "isIdle", "(I)Z"⟩
abbrev cX0_firstBest : ByteArray := prog_2_method_18_code
def yX0_firstBest : MethodName := ⟨RX0, "firstBest", "(III)I"⟩
abbrev cX0_valueAt : ByteArray := prog_2_method_19_code
def yX0_valueAt : MethodName := ⟨RX0, "valueAt", "(IIIIZ)J"⟩
abbrev cX0_over : ByteArray := prog_2_method_20_code
def yX0_over : MethodName := ⟨RX0, "over", "(IIII)I"⟩
def RX1 : String := "GreaterBodies$Choice"
def TX1 : u_T := fun k => match k with
  | 0 => ("GreaterBodies$Choice", "falls", "[I", true)
  | 1 => ("GreaterBodies$Choice", "known", "Z", false)
  | _ => ("GreaterBodies$Choice", "chosen", "I", false)
def tyX1 : Nat → FieldType := fun k => match k with
  | 0 => .array .int
  | 1 => .boolean
  | _ => .int
abbrev wsX10 : List Cond := u_ws RX1 TX1 3
theorem nmX1 : ∀ a, a < 3 → ∀ b, b < 3 → a ≠ b → (TX1 a).2.1 ≠ (TX1 b).2.1 := by decide +kernel
theorem tyX1_ok : ∀ k, k < 3 → parseFieldDescriptor (TX1 k).2.2.1 = some (tyX1 k) := by decide +kernel
abbrev cX1_init : ByteArray := prog_3_method_1_code
def yX1_init : MethodName := ⟨RX1, "<init>", "()V"⟩
abbrev cX1_forget : ByteArray := prog_3_method_2_code
def yX1_forget : MethodName := ⟨RX1, "forget", "()V"⟩
abbrev cX1_walls : ByteArray := prog_3_method_3_code
def yX1_walls : MethodName := ⟨RX1, "walls", "(LGreaterBodies$Figure;LGreaterBodies$Body;)I"⟩
abbrev cX1_search : ByteArray := prog_3_method_4_code
def yX1_search : MethodName := ⟨RX1, "search", "(LGreaterBodies$Outline;LGreaterBodies$Meets;I)I"⟩
abbrev cX1_mirror : ByteArray := prog_3_method_5_code
def yX1_mirror : MethodName := ⟨RX1, "mirror", "(I)I"⟩
abbrev cX1_castAll : ByteArray := prog_3_method_6_code
def yX1_castAll : MethodName := ⟨RX1, "castAll", "(LGreaterBodies$Outline;LGreaterBodies$Meets;I)I"⟩
abbrev cX1_cast : ByteArray := prog_3_method_7_code
def yX1_cast : MethodName := ⟨RX1, "cast", "(LGreaterBodies$Outline;III)I"⟩
abbrev cX1_shows : ByteArray := prog_3_method_8_code
def yX1_shows : MethodName := ⟨RX1, "shows", "(LGreaterBodies$Meets;II)Z"⟩
def RX2 : String := "GreaterBodies$Figure"
def TX2 : u_T := fun k => match k with
  | 0 => ("GreaterBodies$Figure", "x", "[I", true)
  | 1 => ("GreaterBodies$Figure", "y", "[I", true)
  | 2 => ("GreaterBodies$Figure", "hull", "LGreaterBodies$Outline;", true)
  | _ => ("GreaterBodies$Figure", "points", "I", false)
def tyX2 : Nat → FieldType := fun k => match k with
  | 0 => .array .int
  | 1 => .array .int
  | 2 => .object "GreaterBodies$Outline"
  | _ => .int
abbrev wsX20 : List Cond := u_ws RX2 TX2 4
theorem nmX2 : ∀ a, a < 4 → ∀ b, b < 4 → a ≠ b → (TX2 a).2.1 ≠ (TX2 b).2.1 := by decide +kernel
theorem tyX2_ok : ∀ k, k < 4 → parseFieldDescriptor (TX2 k).2.2.1 = some (tyX2 k) := by decide +kernel
abbrev cX2_init : ByteArray := prog_4_method_1_code
def yX2_init : MethodName := ⟨RX2, "<init>", "()V"⟩
abbrev cX2_size : ByteArray := prog_4_method_2_code
def yX2_size : MethodName := ⟨RX2, "size", "()I"⟩
abbrev cX2_hull : ByteArray := prog_4_method_3_code
def yX2_hull : MethodName := ⟨RX2, "hull", "()LGreaterBodies$Outline;"⟩
abbrev cX2_isFlat : ByteArray := prog_4_method_4_code
def yX2_isFlat : MethodName := ⟨RX2, "isFlat", "()Z"⟩
abbrev cX2_add : ByteArray := prog_4_method_5_code
def yX2_add : MethodName := ⟨RX2, "add", "(II)I"⟩
abbrev cX2_put : ByteArray := prog_4_method_6_code
def yX2_put : MethodName := ⟨RX2, "put", "(III)V"⟩
abbrev cX2_drop : ByteArray := prog_4_method_7_code
def yX2_drop : MethodName := ⟨RX2, "drop", "()I"⟩
abbrev cX2_draw : ByteArray := prog_4_method_8_code
def yX2_draw : MethodName := ⟨RX2, "draw", "()V"⟩
abbrev cX2_wallPart : ByteArray := prog_4_method_9_code
def yX2_wallPart : MethodName := ⟨RX2, "wallPart", "(II)I"⟩
abbrev cX2_gap : ByteArray := prog_4_method_10_code
def yX2_gap : MethodName := ⟨RX2, "gap", "(II)I"⟩
abbrev cX2_openPairs : ByteArray := prog_4_method_11_code
def yX2_openPairs : MethodName := ⟨RX2, "openPairs", "()I"⟩
abbrev cX2_twiceArea : ByteArray := prog_4_method_12_code
def yX2_twiceArea : MethodName := ⟨RX2, "twiceArea", "()I"⟩
abbrev cX2_greatest : ByteArray := prog_4_method_13_code
def yX2_greatest : MethodName := ⟨RX2, "greatest", "(II)I"⟩
def RX3 : String := "GreaterBodies$Meets"
def TX3 : u_T := fun k => match k with
  | 0 => ("GreaterBodies$Meets", "x", "[I", true)
  | 1 => ("GreaterBodies$Meets", "y", "[I", true)
  | 2 => ("GreaterBodies$Meets", "z", "[I", true)
  | 3 => ("GreaterBodies$Meets", "w", "[I", true)
  | 4 => ("GreaterBodies$Meets", "makers", "[I", true)
  | 5 => ("GreaterBodies$Meets", "breakers", "[I", true)
  | 6 => ("GreaterBodies$Meets", "touchers", "[I", true)
  | 7 => ("GreaterBodies$Meets", "rayBreakers", "[I", true)
  | 8 => ("GreaterBodies$Meets", "size", "I", false)
  | _ => ("GreaterBodies$Meets", "rays", "I", false)
def tyX3 : Nat → FieldType := fun k => match k with
  | 0 => .array .int
  | 1 => .array .int
  | 2 => .array .int
  | 3 => .array .int
  | 4 => .array .int
  | 5 => .array .int
  | 6 => .array .int
  | 7 => .array .int
  | 8 => .int
  | _ => .int
abbrev wsX30 : List Cond := u_ws RX3 TX3 10
theorem nmX3 : ∀ a, a < 10 → ∀ b, b < 10 → a ≠ b → (TX3 a).2.1 ≠ (TX3 b).2.1 := by decide +kernel
theorem tyX3_ok : ∀ k, k < 10 → parseFieldDescriptor (TX3 k).2.2.1 = some (tyX3 k) := by decide +kernel
abbrev cX3_init : ByteArray := prog_5_method_1_code
def yX3_init : MethodName := ⟨RX3, "<init>", "()V"⟩
abbrev cX3_find : ByteArray := prog_5_method_2_code
def yX3_find : MethodName := ⟨RX3, "find", "(LGreaterBodies$Walls;)V"⟩
abbrev cX3_addMeet : ByteArray := prog_5_method_3_code
def yX3_addMeet : MethodName := ⟨RX3, "addMeet", "(LGreaterBodies$Walls;III)V"⟩
abbrev cX3_volume : ByteArray := prog_5_method_4_code
def yX3_volume : MethodName := ⟨RX3, "volume", "([I[I[IIII)I"⟩
abbrev cX3_mark : ByteArray := prog_5_method_5_code
def yX3_mark : MethodName := ⟨RX3, "mark", "(LGreaterBodies$Walls;)V"⟩
abbrev cX3_addRays : ByteArray := prog_5_method_6_code
def yX3_addRays : MethodName := ⟨RX3, "addRays", "(LGreaterBodies$Walls;II)V"⟩
abbrev cX3_addRay : ByteArray := prog_5_method_7_code
def yX3_addRay : MethodName := ⟨RX3, "addRay", "(LGreaterBodies$Walls;III)V"⟩
abbrev cX3_size : ByteArray := prog_5_method_8_code
def yX3_size : MethodName := ⟨RX3, "size", "()I"⟩
abbrev cX3_xOf : ByteArray := prog_5_method_9_code
def yX3_xOf : MethodName := ⟨RX3, "xOf", "(I)I"⟩
abbrev cX3_yOf : ByteArray := prog_5_method_10_code
def yX3_yOf : MethodName := ⟨RX3, "yOf", "(I)I"⟩
abbrev cX3_zOf : ByteArray := prog_5_method_11_code
def yX3_zOf : MethodName := ⟨RX3, "zOf", "(I)I"⟩
abbrev cX3_wOf : ByteArray := prog_5_method_12_code
def yX3_wOf : MethodName := ⟨RX3, "wOf", "(I)I"⟩
abbrev cX3_touchersOf : ByteArray := prog_5_method_13_code
def yX3_touchersOf : MethodName := ⟨RX3, "touchersOf", "(I)I"⟩
abbrev cX3_isBroken : ByteArray := prog_5_method_14_code
def yX3_isBroken : MethodName := ⟨RX3, "isBroken", "(II)Z"⟩
abbrev cX3_isMadeBy : ByteArray := prog_5_method_15_code
def yX3_isMadeBy : MethodName := ⟨RX3, "isMadeBy", "(II)Z"⟩
abbrev cX3_isVertex : ByteArray := prog_5_method_16_code
def yX3_isVertex : MethodName := ⟨RX3, "isVertex", "(II)Z"⟩
abbrev cX3_isEndless : ByteArray := prog_5_method_17_code
def yX3_isEndless : MethodName := ⟨RX3, "isEndless", "(I)Z"⟩
abbrev cX3_order : ByteArray := prog_5_method_18_code
def yX3_order : MethodName := ⟨RX3, "order", "(II)I"⟩
def RX4 : String := "GreaterBodies$Outline"
def TX4 : u_T := fun k => match k with
  | 0 => ("GreaterBodies$Outline", "x", "[I", true)
  | 1 => ("GreaterBodies$Outline", "y", "[I", true)
  | 2 => ("GreaterBodies$Outline", "w", "[I", true)
  | 3 => ("GreaterBodies$Outline", "ring", "[I", true)
  | 4 => ("GreaterBodies$Outline", "places", "I", false)
  | _ => ("GreaterBodies$Outline", "round", "I", false)
def tyX4 : Nat → FieldType := fun k => match k with
  | 0 => .array .int
  | 1 => .array .int
  | 2 => .array .int
  | 3 => .array .int
  | 4 => .int
  | _ => .int
abbrev wsX40 : List Cond := u_ws RX4 TX4 6
theorem nmX4 : ∀ a, a < 6 → ∀ b, b < 6 → a ≠ b → (TX4 a).2.1 ≠ (TX4 b).2.1 := by decide +kernel
theorem tyX4_ok : ∀ k, k < 6 → parseFieldDescriptor (TX4 k).2.2.1 = some (tyX4 k) := by decide +kernel
abbrev cX4_init : ByteArray := prog_6_method_1_code
def yX4_init : MethodName := ⟨RX4, "<init>", "(I)V"⟩
abbrev cX4_empty : ByteArray := prog_6_method_2_code
def yX4_empty : MethodName := ⟨RX4, "empty", "()V"⟩
abbrev cX4_add : ByteArray := prog_6_method_3_code
def yX4_add : MethodName := ⟨RX4, "add", "(III)V"⟩
abbrev cX4_side : ByteArray := prog_6_method_4_code
def yX4_side : MethodName := ⟨RX4, "side", "(IIII)I"⟩
abbrev cX4_turn : ByteArray := prog_6_method_5_code
def yX4_turn : MethodName := ⟨RX4, "turn", "(IIIII)J"⟩
abbrev cX4_wrap : ByteArray := prog_6_method_6_code
def yX4_wrap : MethodName := ⟨RX4, "wrap", "()V"⟩
abbrev cX4_extend : ByteArray := prog_6_method_7_code
def yX4_extend : MethodName := ⟨RX4, "extend", "(II)V"⟩
abbrev cX4_size : ByteArray := prog_6_method_8_code
def yX4_size : MethodName := ⟨RX4, "size", "()I"⟩
abbrev cX4_has : ByteArray := prog_6_method_9_code
def yX4_has : MethodName := ⟨RX4, "has", "(I)Z"⟩
abbrev cX4_next : ByteArray := prog_6_method_10_code
def yX4_next : MethodName := ⟨RX4, "next", "(I)I"⟩
abbrev cX4_xOf : ByteArray := prog_6_method_11_code
def yX4_xOf : MethodName := ⟨RX4, "xOf", "(I)I"⟩
abbrev cX4_yOf : ByteArray := prog_6_method_12_code
def yX4_yOf : MethodName := ⟨RX4, "yOf", "(I)I"⟩
abbrev cX4_wOf : ByteArray := prog_6_method_13_code
def yX4_wOf : MethodName := ⟨RX4, "wOf", "(I)I"⟩
abbrev cX4_cornerAt : ByteArray := prog_6_method_14_code
def yX4_cornerAt : MethodName := ⟨RX4, "cornerAt", "(III)I"⟩
abbrev cX4_holds : ByteArray := prog_6_method_15_code
def yX4_holds : MethodName := ⟨RX4, "holds", "(III)Z"⟩
abbrev cX4_cornersMissing : ByteArray := prog_6_method_16_code
def yX4_cornersMissing : MethodName := ⟨RX4, "cornersMissing", "(LGreaterBodies$Outline;)I"⟩
abbrev cX4_isRoundOrigin : ByteArray := prog_6_method_17_code
def yX4_isRoundOrigin : MethodName := ⟨RX4, "isRoundOrigin", "()Z"⟩
abbrev cX4_growth : ByteArray := prog_6_method_18_code
def yX4_growth : MethodName := ⟨RX4, "growth", "(LGreaterBodies$Outline;Z)J"⟩
def RX5 : String := "GreaterBodies$Tables"
def TX5 : u_T := fun k => match k with
  | 0 => ("GreaterBodies$Tables", "left", "[I", true)
  | 1 => ("GreaterBodies$Tables", "right", "[I", true)
  | 2 => ("GreaterBodies$Tables", "inner", "I", false)
  | _ => ("GreaterBodies$Tables", "scale", "I", false)
def tyX5 : Nat → FieldType := fun k => match k with
  | 0 => .array .int
  | 1 => .array .int
  | 2 => .int
  | _ => .int
abbrev wsX50 : List Cond := u_ws RX5 TX5 4
theorem nmX5 : ∀ a, a < 4 → ∀ b, b < 4 → a ≠ b → (TX5 a).2.1 ≠ (TX5 b).2.1 := by decide +kernel
theorem tyX5_ok : ∀ k, k < 4 → parseFieldDescriptor (TX5 k).2.2.1 = some (tyX5 k) := by decide +kernel
abbrev cX5_init : ByteArray := prog_7_method_1_code
def yX5_init : MethodName := ⟨RX5, "<init>", "()V"⟩
abbrev cX5_inner : ByteArray := prog_7_method_2_code
def yX5_inner : MethodName := ⟨RX5, "inner", "()I"⟩
abbrev cX5_scale : ByteArray := prog_7_method_3_code
def yX5_scale : MethodName := ⟨RX5, "scale", "()I"⟩
abbrev cX5_resize : ByteArray := prog_7_method_4_code
def yX5_resize : MethodName := ⟨RX5, "resize", "(II)I"⟩
abbrev cX5_put : ByteArray := prog_7_method_5_code
def yX5_put : MethodName := ⟨RX5, "put", "(ZII)I"⟩
abbrev cX5_firstWrong : ByteArray := prog_7_method_6_code
def yX5_firstWrong : MethodName := ⟨RX5, "firstWrong", "(LGreaterBodies$Figure;)I"⟩
abbrev cX5_product : ByteArray := prog_7_method_7_code
def yX5_product : MethodName := ⟨RX5, "product", "(II)I"⟩
def RX6 : String := "GreaterBodies$Walls"
def TX6 : u_T := fun k => match k with
  | 0 => ("GreaterBodies$Walls", "a", "[I", true)
  | 1 => ("GreaterBodies$Walls", "b", "[I", true)
  | 2 => ("GreaterBodies$Walls", "c", "[I", true)
  | 3 => ("GreaterBodies$Walls", "d", "[I", true)
  | 4 => ("GreaterBodies$Walls", "size", "I", false)
  | _ => ("GreaterBodies$Walls", "onSet", "I", false)
def tyX6 : Nat → FieldType := fun k => match k with
  | 0 => .array .int
  | 1 => .array .int
  | 2 => .array .int
  | 3 => .array .int
  | 4 => .int
  | _ => .int
abbrev wsX60 : List Cond := u_ws RX6 TX6 6
theorem nmX6 : ∀ a, a < 6 → ∀ b, b < 6 → a ≠ b → (TX6 a).2.1 ≠ (TX6 b).2.1 := by decide +kernel
theorem tyX6_ok : ∀ k, k < 6 → parseFieldDescriptor (TX6 k).2.2.1 = some (tyX6 k) := by decide +kernel
abbrev cX6_init : ByteArray := prog_8_method_1_code
def yX6_init : MethodName := ⟨RX6, "<init>", "()V"⟩
abbrev cX6_size : ByteArray := prog_8_method_2_code
def yX6_size : MethodName := ⟨RX6, "size", "()I"⟩
abbrev cX6_onSet : ByteArray := prog_8_method_3_code
def yX6_onSet : MethodName := ⟨RX6, "onSet", "()I"⟩
abbrev cX6_has : ByteArray := prog_8_method_4_code
def yX6_has : MethodName := ⟨RX6, "has", "(I)Z"⟩
abbrev cX6_isOn : ByteArray := prog_8_method_5_code
def yX6_isOn : MethodName := ⟨RX6, "isOn", "(I)Z"⟩
abbrev cX6_part : ByteArray := prog_8_method_6_code
def yX6_part : MethodName := ⟨RX6, "part", "(II)I"⟩
abbrev cX6_add : ByteArray := prog_8_method_7_code
def yX6_add : MethodName := ⟨RX6, "add", "(IIII)I"⟩
abbrev cX6_push : ByteArray := prog_8_method_8_code
def yX6_push : MethodName := ⟨RX6, "push", "(II)I"⟩
abbrev cX6_turn : ByteArray := prog_8_method_9_code
def yX6_turn : MethodName := ⟨RX6, "turn", "(IZ)I"⟩
abbrev cX6_excess : ByteArray := prog_8_method_10_code
def yX6_excess : MethodName := ⟨RX6, "excess", "(IIIII)I"⟩
def RX7 : String := "GreaterBodies"
def TX7 : u_T := fun k => match k with
  | 0 => ("GreaterBodies", "plane", "LGreaterBodies$Figure;", true)
  | 1 => ("GreaterBodies", "tables", "LGreaterBodies$Tables;", true)
  | 2 => ("GreaterBodies", "space", "LGreaterBodies$Body;", true)
  | _ => ("GreaterBodies", "choice", "LGreaterBodies$Choice;", true)
def tyX7 : Nat → FieldType := fun k => match k with
  | 0 => .object "GreaterBodies$Figure"
  | 1 => .object "GreaterBodies$Tables"
  | 2 => .object "GreaterBodies$Body"
  | _ => .object "GreaterBodies$Choice"
abbrev wsX70 : List Cond := u_ws RX7 TX7 4
theorem nmX7 : ∀ a, a < 4 → ∀ b, b < 4 → a ≠ b → (TX7 a).2.1 ≠ (TX7 b).2.1 := by decide +kernel
theorem tyX7_ok : ∀ k, k < 4 → parseFieldDescriptor (TX7 k).2.2.1 = some (tyX7 k) := by decide +kernel
abbrev cX7_init : ByteArray := prog_1_method_1_code
def yX7_init : MethodName := ⟨RX7, "<init>", "()V"⟩
abbrev cX7_point : ByteArray := prog_1_method_2_code
def yX7_point : MethodName := ⟨RX7, "point", "(II)I"⟩
abbrev cX7_move : ByteArray := prog_1_method_3_code
def yX7_move : MethodName := ⟨RX7, "move", "(III)I"⟩
abbrev cX7_clear : ByteArray := prog_1_method_4_code
def yX7_clear : MethodName := ⟨RX7, "clear", "()I"⟩
abbrev cX7_corners : ByteArray := prog_1_method_5_code
def yX7_corners : MethodName := ⟨RX7, "corners", "()I"⟩
abbrev cX7_corner : ByteArray := prog_1_method_6_code
def yX7_corner : MethodName := ⟨RX7, "corner", "(IZ)I"⟩
abbrev cX7_wallOf : ByteArray := prog_1_method_7_code
def yX7_wallOf : MethodName := ⟨RX7, "wallOf", "(II)I"⟩
abbrev cX7_slack : ByteArray := prog_1_method_8_code
def yX7_slack : MethodName := ⟨RX7, "slack", "(II)I"⟩
abbrev cX7_area : ByteArray := prog_1_method_9_code
def yX7_area : MethodName := ⟨RX7, "area", "()I"⟩
abbrev cX7_open : ByteArray := prog_1_method_10_code
def yX7_open : MethodName := ⟨RX7, "open", "()I"⟩
abbrev cX7_cover : ByteArray := prog_1_method_11_code
def yX7_cover : MethodName := ⟨RX7, "cover", "()I"⟩
abbrev cX7_fools : ByteArray := prog_1_method_12_code
def yX7_fools : MethodName := ⟨RX7, "fools", "()I"⟩
abbrev cX7_log : ByteArray := prog_1_method_13_code
def yX7_log : MethodName := ⟨RX7, "log", "()I"⟩
abbrev cX7_low : ByteArray := prog_1_method_14_code
def yX7_low : MethodName := ⟨RX7, "low", "()I"⟩
abbrev cX7_high : ByteArray := prog_1_method_15_code
def yX7_high : MethodName := ⟨RX7, "high", "()I"⟩
abbrev cX7_factors : ByteArray := prog_1_method_16_code
def yX7_factors : MethodName := ⟨RX7, "factors", "(II)I"⟩
abbrev cX7_entry : ByteArray := prog_1_method_17_code
def yX7_entry : MethodName := ⟨RX7, "entry", "(ZIII)I"⟩
abbrev cX7_hold : ByteArray := prog_1_method_18_code
def yX7_hold : MethodName := ⟨RX7, "hold", "()I"⟩
abbrev cX7_wrong : ByteArray := prog_1_method_19_code
def yX7_wrong : MethodName := ⟨RX7, "wrong", "()I"⟩
abbrev cX7_wall : ByteArray := prog_1_method_20_code
def yX7_wall : MethodName := ⟨RX7, "wall", "(IIII)I"⟩
abbrev cX7_shift : ByteArray := prog_1_method_21_code
def yX7_shift : MethodName := ⟨RX7, "shift", "(II)I"⟩
abbrev cX7_on : ByteArray := prog_1_method_22_code
def yX7_on : MethodName := ⟨RX7, "on", "(IZ)I"⟩
abbrev cX7_about : ByteArray := prog_1_method_23_code
def yX7_about : MethodName := ⟨RX7, "about", "(II)I"⟩
abbrev cX7_sound : ByteArray := prog_1_method_24_code
def yX7_sound : MethodName := ⟨RX7, "sound", "()I"⟩
abbrev cX7_vertices : ByteArray := prog_1_method_25_code
def yX7_vertices : MethodName := ⟨RX7, "vertices", "()I"⟩
abbrev cX7_vertex : ByteArray := prog_1_method_26_code
def yX7_vertex : MethodName := ⟨RX7, "vertex", "(IIZ)J"⟩
abbrev cX7_tight : ByteArray := prog_1_method_27_code
def yX7_tight : MethodName := ⟨RX7, "tight", "(I)I"⟩
abbrev cX7_rims : ByteArray := prog_1_method_28_code
def yX7_rims : MethodName := ⟨RX7, "rims", "()I"⟩
abbrev cX7_idle : ByteArray := prog_1_method_29_code
def yX7_idle : MethodName := ⟨RX7, "idle", "(I)I"⟩
abbrev cX7_shadow : ByteArray := prog_1_method_30_code
def yX7_shadow : MethodName := ⟨RX7, "shadow", "()I"⟩
abbrev cX7_shadowAt : ByteArray := prog_1_method_31_code
def yX7_shadowAt : MethodName := ⟨RX7, "shadowAt", "(IZZ)J"⟩
abbrev cX7_seen : ByteArray := prog_1_method_32_code
def yX7_seen : MethodName := ⟨RX7, "seen", "()I"⟩
abbrev cX7_missed : ByteArray := prog_1_method_33_code
def yX7_missed : MethodName := ⟨RX7, "missed", "()I"⟩
abbrev cX7_beyond : ByteArray := prog_1_method_34_code
def yX7_beyond : MethodName := ⟨RX7, "beyond", "()I"⟩
abbrev cX7_fewest : ByteArray := prog_1_method_35_code
def yX7_fewest : MethodName := ⟨RX7, "fewest", "()I"⟩
abbrev cX7_needed : ByteArray := prog_1_method_36_code
def yX7_needed : MethodName := ⟨RX7, "needed", "(I)I"⟩
abbrev cX7_blow : ByteArray := prog_1_method_37_code
def yX7_blow : MethodName := ⟨RX7, "blow", "(Z)J"⟩
abbrev cX7_most : ByteArray := prog_1_method_38_code
def yX7_most : MethodName := ⟨RX7, "most", "(II)I"⟩
abbrev cX7_mostOf : ByteArray := prog_1_method_39_code
def yX7_mostOf : MethodName := ⟨RX7, "mostOf", "(IIIZ)J"⟩
abbrev cX7_at : ByteArray := prog_1_method_40_code
def yX7_at : MethodName := ⟨RX7, "at", "(III)I"⟩
abbrev cX7_count : ByteArray := prog_1_method_41_code
def yX7_count : MethodName := ⟨RX7, "count", "(I)I"⟩
abbrev cX7_isWithin : ByteArray := prog_1_method_42_code
def yX7_isWithin : MethodName := ⟨RX7, "isWithin", "(III)Z"⟩
abbrev cX7_isPlace : ByteArray := prog_1_method_43_code
def yX7_isPlace : MethodName := ⟨RX7, "isPlace", "(II)Z"⟩
abbrev cX7_isStep : ByteArray := prog_1_method_44_code
def yX7_isStep : MethodName := ⟨RX7, "isStep", "(I)Z"⟩
abbrev cX7_isFar : ByteArray := prog_1_method_45_code
def yX7_isFar : MethodName := ⟨RX7, "isFar", "(I)Z"⟩
abbrev cX7_isAim : ByteArray := prog_1_method_46_code
def yX7_isAim : MethodName := ⟨RX7, "isAim", "(I)Z"⟩
abbrev cX7_aimRefusal : ByteArray := prog_1_method_47_code
def yX7_aimRefusal : MethodName := ⟨RX7, "aimRefusal", "(III)I"⟩
abbrev cX7_isBounded : ByteArray := prog_1_method_48_code
def yX7_isBounded : MethodName := ⟨RX7, "isBounded", "()Z"⟩
abbrev cX7_levels : ByteArray := prog_1_method_49_code
def yX7_levels : MethodName := ⟨RX7, "levels", "()I"⟩
abbrev cX7_gcd : ByteArray := prog_1_method_50_code
def yX7_gcd : MethodName := ⟨RX7, "gcd", "(JJ)J"⟩
abbrev cX7_told : ByteArray := prog_1_method_51_code
def yX7_told : MethodName := ⟨RX7, "told", "(JJZ)J"⟩
def RX8 : String := "GreaterBodiesModel"
def TX8 : u_T := fun k => match k with
  | 0 => ("GreaterBodiesModel", "points", "I", false)
  | 1 => ("GreaterBodiesModel", "px", "[I", true)
  | 2 => ("GreaterBodiesModel", "py", "[I", true)
  | 3 => ("GreaterBodiesModel", "xs", "[J", true)
  | 4 => ("GreaterBodiesModel", "ys", "[J", true)
  | 5 => ("GreaterBodiesModel", "ds", "[J", true)
  | 6 => ("GreaterBodiesModel", "figure", "[I", true)
  | 7 => ("GreaterBodiesModel", "corners", "I", false)
  | 8 => ("GreaterBodiesModel", "shadow", "[I", true)
  | 9 => ("GreaterBodiesModel", "shadows", "I", false)
  | 10 => ("GreaterBodiesModel", "blocks", "[J", true)
  | 11 => ("GreaterBodiesModel", "blockMany", "I", false)
  | 12 => ("GreaterBodiesModel", "openOf", "[I", true)
  | 13 => ("GreaterBodiesModel", "allOpen", "J", false)
  | 14 => ("GreaterBodiesModel", "coverOf", "[I", true)
  | 15 => ("GreaterBodiesModel", "foolsOf", "[I", true)
  | 16 => ("GreaterBodiesModel", "pile", "[J", true)
  | 17 => ("GreaterBodiesModel", "next", "[I", true)
  | 18 => ("GreaterBodiesModel", "fooling", "[J", true)
  | 19 => ("GreaterBodiesModel", "factorMany", "I", false)
  | 20 => ("GreaterBodiesModel", "scale", "I", false)
  | 21 => ("GreaterBodiesModel", "left", "[I", true)
  | 22 => ("GreaterBodiesModel", "right", "[I", true)
  | 23 => ("GreaterBodiesModel", "walls", "I", false)
  | 24 => ("GreaterBodiesModel", "wall", "[I", true)
  | 25 => ("GreaterBodiesModel", "isOn", "[Z", true)
  | 26 => ("GreaterBodiesModel", "vertices", "I", false)
  | 27 => ("GreaterBodiesModel", "vx", "[J", true)
  | 28 => ("GreaterBodiesModel", "vy", "[J", true)
  | 29 => ("GreaterBodiesModel", "vz", "[J", true)
  | 30 => ("GreaterBodiesModel", "vd", "[J", true)
  | 31 => ("GreaterBodiesModel", "keptMany", "I", false)
  | 32 => ("GreaterBodiesModel", "kept", "[J", true)
  | _ => ("GreaterBodiesModel", "fewestSet", "I", false)
def tyX8 : Nat → FieldType := fun k => match k with
  | 0 => .int
  | 1 => .array .int
  | 2 => .array .int
  | 3 => .array .long
  | 4 => .array .long
  | 5 => .array .long
  | 6 => .array .int
  | 7 => .int
  | 8 => .array .int
  | 9 => .int
  | 10 => .array .long
  | 11 => .int
  | 12 => .array .int
  | 13 => .long
  | 14 => .array .int
  | 15 => .array .int
  | 16 => .array .long
  | 17 => .array .int
  | 18 => .array .long
  | 19 => .int
  | 20 => .int
  | 21 => .array .int
  | 22 => .array .int
  | 23 => .int
  | 24 => .array .int
  | 25 => .array .boolean
  | 26 => .int
  | 27 => .array .long
  | 28 => .array .long
  | 29 => .array .long
  | 30 => .array .long
  | 31 => .int
  | 32 => .array .long
  | _ => .int
abbrev wsX80 : List Cond := u_ws RX8 TX8 34
theorem nmX8 : ∀ a, a < 34 → ∀ b, b < 34 → a ≠ b → (TX8 a).2.1 ≠ (TX8 b).2.1 := by decide +kernel
theorem tyX8_ok : ∀ k, k < 34 → parseFieldDescriptor (TX8 k).2.2.1 = some (tyX8 k) := by decide +kernel
abbrev cX8_init : ByteArray := prog_10_method_1_code
def yX8_init : MethodName := ⟨RX8, "<init>", "()V"⟩
abbrev cX8_in : ByteArray := prog_10_method_3_code
def yX8_in : MethodName := ⟨RX8, "in", "(JJJ)Z"⟩
abbrev cX8_common : ByteArray := prog_10_method_4_code
def yX8_common : MethodName := ⟨RX8, "common", "(JJ)J"⟩
abbrev cX8_told : ByteArray := prog_10_method_5_code
def yX8_told : MethodName := ⟨RX8, "told", "(JJZ)J"⟩
abbrev cX8_point : ByteArray := prog_10_method_6_code
def yX8_point : MethodName := ⟨RX8, "point", "(II)I"⟩
abbrev cX8_move : ByteArray := prog_10_method_7_code
def yX8_move : MethodName := ⟨RX8, "move", "(III)I"⟩
abbrev cX8_clear : ByteArray := prog_10_method_8_code
def yX8_clear : MethodName := ⟨RX8, "clear", "()I"⟩
abbrev cX8_side : ByteArray := prog_10_method_9_code
def yX8_side : MethodName := ⟨RX8, "side", "(III)J"⟩
abbrev cX8_compare : ByteArray := prog_10_method_10_code
def yX8_compare : MethodName := ⟨RX8, "compare", "(JJJJ)J"⟩
abbrev cX8_isAhead : ByteArray := prog_10_method_11_code
def yX8_isAhead : MethodName := ⟨RX8, "isAhead", "(II)Z"⟩
abbrev cX8_isOne : ByteArray := prog_10_method_12_code
def yX8_isOne : MethodName := ⟨RX8, "isOne", "(II)Z"⟩
abbrev cX8_isBetween : ByteArray := prog_10_method_13_code
def yX8_isBetween : MethodName := ⟨RX8, "isBetween", "(III)Z"⟩
abbrev cX8_hull : ByteArray := prog_10_method_14_code
def yX8_hull : MethodName := ⟨RX8, "hull", "(II[I)I"⟩
abbrev cX8_layFigure : ByteArray := prog_10_method_15_code
def yX8_layFigure : MethodName := ⟨RX8, "layFigure", "()V"⟩
abbrev cX8_isFlat : ByteArray := prog_10_method_16_code
def yX8_isFlat : MethodName := ⟨RX8, "isFlat", "()Z"⟩
abbrev cX8_corners : ByteArray := prog_10_method_17_code
def yX8_corners : MethodName := ⟨RX8, "corners", "()I"⟩
abbrev cX8_corner : ByteArray := prog_10_method_18_code
def yX8_corner : MethodName := ⟨RX8, "corner", "(IZ)I"⟩
abbrev cX8_wallPart : ByteArray := prog_10_method_19_code
def yX8_wallPart : MethodName := ⟨RX8, "wallPart", "(II)I"⟩
abbrev cX8_wallOf : ByteArray := prog_10_method_20_code
def yX8_wallOf : MethodName := ⟨RX8, "wallOf", "(II)I"⟩
abbrev cX8_slackOf : ByteArray := prog_10_method_21_code
def yX8_slackOf : MethodName := ⟨RX8, "slackOf", "(II)I"⟩
abbrev cX8_slack : ByteArray := prog_10_method_22_code
def yX8_slack : MethodName := ⟨RX8, "slack", "(II)I"⟩
abbrev cX8_area : ByteArray := prog_10_method_23_code
def yX8_area : MethodName := ⟨RX8, "area", "()I"⟩
abbrev cX8_open : ByteArray := prog_10_method_24_code
def yX8_open : MethodName := ⟨RX8, "open", "()I"⟩
abbrev cX8_layOpen : ByteArray := prog_10_method_25_code
def yX8_layOpen : MethodName := ⟨RX8, "layOpen", "()V"⟩
abbrev cX8_layBlocks : ByteArray := prog_10_method_26_code
def yX8_layBlocks : MethodName := ⟨RX8, "layBlocks", "()V"⟩
abbrev cX8_firstBit : ByteArray := prog_10_method_27_code
def yX8_firstBit : MethodName := ⟨RX8, "firstBit", "(J)I"⟩
abbrev cX8_ones : ByteArray := prog_10_method_28_code
def yX8_ones : MethodName := ⟨RX8, "ones", "(J)I"⟩
abbrev cX8_covers : ByteArray := prog_10_method_29_code
def yX8_covers : MethodName := ⟨RX8, "covers", "(I)Z"⟩
abbrev cX8_coverNow : ByteArray := prog_10_method_30_code
def yX8_coverNow : MethodName := ⟨RX8, "coverNow", "()I"⟩
abbrev cX8_isOpen : ByteArray := prog_10_method_31_code
def yX8_isOpen : MethodName := ⟨RX8, "isOpen", "(II)Z"⟩
abbrev cX8_layFooling : ByteArray := prog_10_method_32_code
def yX8_layFooling : MethodName := ⟨RX8, "layFooling", "()V"⟩
abbrev cX8_foolsNow : ByteArray := prog_10_method_33_code
def yX8_foolsNow : MethodName := ⟨RX8, "foolsNow", "()I"⟩
abbrev cX8_mayBound : ByteArray := prog_10_method_34_code
def yX8_mayBound : MethodName := ⟨RX8, "mayBound", "()Z"⟩
abbrev cX8_logNow : ByteArray := prog_10_method_35_code
def yX8_logNow : MethodName := ⟨RX8, "logNow", "()I"⟩
abbrev cX8_cover : ByteArray := prog_10_method_36_code
def yX8_cover : MethodName := ⟨RX8, "cover", "()I"⟩
abbrev cX8_fools : ByteArray := prog_10_method_37_code
def yX8_fools : MethodName := ⟨RX8, "fools", "()I"⟩
abbrev cX8_log : ByteArray := prog_10_method_38_code
def yX8_log : MethodName := ⟨RX8, "log", "()I"⟩
abbrev cX8_low : ByteArray := prog_10_method_39_code
def yX8_low : MethodName := ⟨RX8, "low", "()I"⟩
abbrev cX8_factors : ByteArray := prog_10_method_40_code
def yX8_factors : MethodName := ⟨RX8, "factors", "(II)I"⟩
abbrev cX8_entry : ByteArray := prog_10_method_41_code
def yX8_entry : MethodName := ⟨RX8, "entry", "(ZIII)I"⟩
abbrev cX8_wrongPair : ByteArray := prog_10_method_42_code
def yX8_wrongPair : MethodName := ⟨RX8, "wrongPair", "()I"⟩
abbrev cX8_hold : ByteArray := prog_10_method_43_code
def yX8_hold : MethodName := ⟨RX8, "hold", "()I"⟩
abbrev cX8_wrong : ByteArray := prog_10_method_44_code
def yX8_wrong : MethodName := ⟨RX8, "wrong", "()I"⟩
abbrev cX8_wall : ByteArray := prog_10_method_45_code
def yX8_wall : MethodName := ⟨RX8, "wall", "(IIII)I"⟩
abbrev cX8_isWall : ByteArray := prog_10_method_46_code
def yX8_isWall : MethodName := ⟨RX8, "isWall", "(I)Z"⟩
abbrev cX8_shift : ByteArray := prog_10_method_47_code
def yX8_shift : MethodName := ⟨RX8, "shift", "(II)I"⟩
abbrev cX8_on : ByteArray := prog_10_method_48_code
def yX8_on : MethodName := ⟨RX8, "on", "(IZ)I"⟩
abbrev cX8_about : ByteArray := prog_10_method_49_code
def yX8_about : MethodName := ⟨RX8, "about", "(II)I"⟩
abbrev cX8_setOn : ByteArray := prog_10_method_50_code
def yX8_setOn : MethodName := ⟨RX8, "setOn", "()I"⟩
abbrev cX8_determinant : ByteArray := prog_10_method_51_code
def yX8_determinant : MethodName := ⟨RX8, "determinant", "(IIIIII)J"⟩
abbrev cX8_leaves : ByteArray := prog_10_method_52_code
def yX8_leaves : MethodName := ⟨RX8, "leaves", "(IJJJJ)J"⟩
abbrev cX8_holdsAll : ByteArray := prog_10_method_53_code
def yX8_holdsAll : MethodName := ⟨RX8, "holdsAll", "(IJJJJ)Z"⟩
abbrev cX8_put : ByteArray := prog_10_method_54_code
def yX8_put : MethodName := ⟨RX8, "put", "(JJJJ)V"⟩
abbrev cX8_order : ByteArray := prog_10_method_55_code
def yX8_order : MethodName := ⟨RX8, "order", "(IJJJJ)I"⟩
abbrev cX8_layVertices : ByteArray := prog_10_method_56_code
def yX8_layVertices : MethodName := ⟨RX8, "layVertices", "(I)V"⟩
abbrev cX8_goesOn : ByteArray := prog_10_method_57_code
def yX8_goesOn : MethodName := ⟨RX8, "goesOn", "(IJJJ)Z"⟩
abbrev cX8_isSound : ByteArray := prog_10_method_58_code
def yX8_isSound : MethodName := ⟨RX8, "isSound", "(I)Z"⟩
abbrev cX8_sound : ByteArray := prog_10_method_59_code
def yX8_sound : MethodName := ⟨RX8, "sound", "()I"⟩
abbrev cX8_vertices : ByteArray := prog_10_method_60_code
def yX8_vertices : MethodName := ⟨RX8, "vertices", "()I"⟩
abbrev cX8_vertex : ByteArray := prog_10_method_61_code
def yX8_vertex : MethodName := ⟨RX8, "vertex", "(IIZ)J"⟩
abbrev cX8_tightAt : ByteArray := prog_10_method_62_code
def yX8_tightAt : MethodName := ⟨RX8, "tightAt", "(II)I"⟩
abbrev cX8_tight : ByteArray := prog_10_method_63_code
def yX8_tight : MethodName := ⟨RX8, "tight", "(I)I"⟩
abbrev cX8_hasTwo : ByteArray := prog_10_method_64_code
def yX8_hasTwo : MethodName := ⟨RX8, "hasTwo", "(I)Z"⟩
abbrev cX8_rims : ByteArray := prog_10_method_65_code
def yX8_rims : MethodName := ⟨RX8, "rims", "()I"⟩
abbrev cX8_keep : ByteArray := prog_10_method_66_code
def yX8_keep : MethodName := ⟨RX8, "keep", "()V"⟩
abbrev cX8_areKept : ByteArray := prog_10_method_67_code
def yX8_areKept : MethodName := ⟨RX8, "areKept", "()Z"⟩
abbrev cX8_isIdle : ByteArray := prog_10_method_68_code
def yX8_isIdle : MethodName := ⟨RX8, "isIdle", "(I)Z"⟩
abbrev cX8_idle : ByteArray := prog_10_method_69_code
def yX8_idle : MethodName := ⟨RX8, "idle", "(I)I"⟩
abbrev cX8_layShadow : ByteArray := prog_10_method_70_code
def yX8_layShadow : MethodName := ⟨RX8, "layShadow", "(I)Z"⟩
abbrev cX8_shadow : ByteArray := prog_10_method_71_code
def yX8_shadow : MethodName := ⟨RX8, "shadow", "()I"⟩
abbrev cX8_shadowAt : ByteArray := prog_10_method_72_code
def yX8_shadowAt : MethodName := ⟨RX8, "shadowAt", "(IZZ)J"⟩
abbrev cX8_isSeen : ByteArray := prog_10_method_73_code
def yX8_isSeen : MethodName := ⟨RX8, "isSeen", "()Z"⟩
abbrev cX8_seen : ByteArray := prog_10_method_74_code
def yX8_seen : MethodName := ⟨RX8, "seen", "()I"⟩
abbrev cX8_isOutside : ByteArray := prog_10_method_75_code
def yX8_isOutside : MethodName := ⟨RX8, "isOutside", "(II[I)Z"⟩
abbrev cX8_missed : ByteArray := prog_10_method_76_code
def yX8_missed : MethodName := ⟨RX8, "missed", "()I"⟩
abbrev cX8_beyond : ByteArray := prog_10_method_77_code
def yX8_beyond : MethodName := ⟨RX8, "beyond", "()I"⟩
abbrev cX8_bits : ByteArray := prog_10_method_78_code
def yX8_bits : MethodName := ⟨RX8, "bits", "(I)I"⟩
abbrev cX8_isFirst : ByteArray := prog_10_method_79_code
def yX8_isFirst : MethodName := ⟨RX8, "isFirst", "(II)Z"⟩
abbrev cX8_layFewest : ByteArray := prog_10_method_80_code
def yX8_layFewest : MethodName := ⟨RX8, "layFewest", "()V"⟩
abbrev cX8_fewest : ByteArray := prog_10_method_81_code
def yX8_fewest : MethodName := ⟨RX8, "fewest", "()I"⟩
abbrev cX8_needed : ByteArray := prog_10_method_82_code
def yX8_needed : MethodName := ⟨RX8, "needed", "(I)I"⟩
abbrev cX8_high : ByteArray := prog_10_method_83_code
def yX8_high : MethodName := ⟨RX8, "high", "()I"⟩
abbrev cX8_isAbove : ByteArray := prog_10_method_84_code
def yX8_isAbove : MethodName := ⟨RX8, "isAbove", "(JJJJ)Z"⟩
abbrev cX8_blow : ByteArray := prog_10_method_85_code
def yX8_blow : MethodName := ⟨RX8, "blow", "(Z)J"⟩
abbrev cX8_most : ByteArray := prog_10_method_86_code
def yX8_most : MethodName := ⟨RX8, "most", "(II)I"⟩
abbrev cX8_mayAsk : ByteArray := prog_10_method_87_code
def yX8_mayAsk : MethodName := ⟨RX8, "mayAsk", "(III)I"⟩
abbrev cX8_bestVertex : ByteArray := prog_10_method_88_code
def yX8_bestVertex : MethodName := ⟨RX8, "bestVertex", "(III)I"⟩
abbrev cX8_mostOf : ByteArray := prog_10_method_89_code
def yX8_mostOf : MethodName := ⟨RX8, "mostOf", "(IIIZ)J"⟩
abbrev cX8_at : ByteArray := prog_10_method_90_code
def yX8_at : MethodName := ⟨RX8, "at", "(III)I"⟩
abbrev cX8_count : ByteArray := prog_10_method_91_code
def yX8_count : MethodName := ⟨RX8, "count", "(I)I"⟩
def RJ6 : String := "java/lang/Integer"
abbrev cJ6_bitCount_0f7a4 : ByteArray := prog_11_method_49_code
def yJ6_bitCount_0f7a4 : MethodName := ⟨RJ6, "bitCount", "(I)I"⟩
def RJ13 : String := "java/lang/Long"
abbrev cJ13_compare_74951 : ByteArray := prog_12_method_42_code
def yJ13_compare_74951 : MethodName := ⟨RJ13, "compare", "(JJ)I"⟩
def RJ9 : String := "java/lang/Math"
abbrev cJ9_abs_067f4 : ByteArray := prog_13_method_61_code
def yJ9_abs_067f4 : MethodName := ⟨RJ9, "abs", "(J)J"⟩
abbrev cJ9_max_7cf53 : ByteArray := prog_13_method_65_code
def yJ9_max_7cf53 : MethodName := ⟨RJ9, "max", "(II)I"⟩
abbrev cJ9_min_7cf53 : ByteArray := prog_13_method_69_code
def yJ9_min_7cf53 : MethodName := ⟨RJ9, "min", "(II)I"⟩
def RL : String := "GreaterBodiesLaw"
abbrev cL_law : ByteArray := code
def yL_law : MethodName := ⟨RL, "law", "([I)Z"⟩
abbrev vwCl : List vw_C := [(RX0, TX0, 6), (RX1, TX1, 3), (RX2, TX2, 4), (RX3, TX3, 10), (RX4, TX4, 6), (RX5, TX5, 4), (RX6, TX6, 6), (RX7, TX7, 4), (RX8, TX8, 34)]
def av_NW : List Cond := [.methodLinkNest RX7 9 yX2_init "GreaterBodies", .methodLinkNest RX7 18 yX5_init "GreaterBodies", .methodLinkNest RX7 25 yX0_init "GreaterBodies", .methodLinkNest RX0 11 yX6_init "GreaterBodies", .fieldLinkNest RX3 54 "GreaterBodies$Walls" "a" "[I" "GreaterBodies", .fieldLinkNest RX3 57 "GreaterBodies$Walls" "b" "[I" "GreaterBodies", .fieldLinkNest RX3 60 "GreaterBodies$Walls" "c" "[I" "GreaterBodies", .fieldLinkNest RX3 67 "GreaterBodies$Walls" "d" "[I" "GreaterBodies", .fieldLinkNest RX3 43 "GreaterBodies$Walls" "size" "I" "GreaterBodies", .methodLinkNest RX0 20 yX3_init "GreaterBodies", .methodLinkNest RX7 32 yX1_init "GreaterBodies", .methodLinkNest RX2 61 yX7_gcd "GreaterBodies", .methodLinkNest RX0 107 yX7_told "GreaterBodies", .methodLinkNest RX4 64 yX7_gcd "GreaterBodies", .methodLinkNest RX4 70 yX7_told "GreaterBodies"]
def tX0_walls : av_T := [(0, .aload_n 0, 1, 0), (1, .getfield 12, 4, 0), (4, .areturn, 5, 0)]
def mX0_walls : av_mi := (yX0_walls, cX0_walls, 1, (some (.object "GreaterBodies$Walls")), tX0_walls)
theorem oX0_walls : av_OK mX0_walls := by unfold av_OK; decide +kernel
def tX0_meets : av_T := [(0, .aload_n 0, 1, 0), (1, .getfield 21, 4, 0), (4, .areturn, 5, 0)]
def mX0_meets : av_mi := (yX0_meets, cX0_meets, 1, (some (.object "GreaterBodies$Meets")), tX0_meets)
theorem oX0_meets : av_OK mX0_meets := by unfold av_OK; decide +kernel
def tX0_outline : av_T := [(0, .aload_n 0, 1, 0), (1, .getfield 34, 4, 0), (4, .areturn, 5, 0)]
def mX0_outline : av_mi := (yX0_outline, cX0_outline, 1, (some (.object "GreaterBodies$Outline")), tX0_outline)
theorem oX0_outline : av_OK mX0_outline := by unfold av_OK; decide +kernel
def tX0_size : av_T := [(0, .aload_n 0, 1, 0), (1, .getfield 38, 4, 0), (4, .ireturn, 5, 0)]
def mX0_size : av_mi := (yX0_size, cX0_size, 1, (some .int), tX0_size)
theorem oX0_size : av_OK mX0_size := by unfold av_OK; decide +kernel
def tX0_isSound : av_T := [(0, .aload_n 0, 1, 0), (1, .getfield 42, 4, 0), (4, .ireturn, 5, 0)]
def mX0_isSound : av_mi := (yX0_isSound, cX0_isSound, 1, (some .boolean), tX0_isSound)
theorem oX0_isSound : av_OK mX0_isSound := by unfold av_OK; decide +kernel
def tX0_has : av_T := [(0, .iload_n 1, 1, 0), (1, .ifCond .lt 15, 4, 16), (4, .iload_n 1, 5, 0), (5, .aload_n 0, 6, 0), (6, .getfield 38, 9, 0), (9, .if_icmp .ge 7, 12, 16), (12, .iconst 1, 13, 0), (13, .goto 4, 16, 17), (16, .iconst 0, 17, 0), (17, .ireturn, 18, 0)]
def mX0_has : av_mi := (yX0_has, cX0_has, 2, (some .boolean), tX0_has)
theorem oX0_has : av_OK mX0_has := by unfold av_OK; decide +kernel
def tX0_build : av_T := [(0, .aload_n 0, 1, 0), (1, .getfield 12, 4, 0), (4, .iload_n 1, 5, 0), (5, .iload_n 2, 6, 0), (6, .iload_n 3, 7, 0), (7, .iload 4, 9, 0), (9, .invokevirtual 46, 12, 0), (12, .istore 5, 14, 0), (14, .aload_n 0, 15, 0), (15, .getfield 21, 18, 0), (18, .aload_n 0, 19, 0), (19, .getfield 12, 22, 0), (22, .invokevirtual 50, 25, 0), (25, .aload_n 0, 26, 0), (26, .invokevirtual 54, 29, 0), (29, .iload 5, 31, 0), (31, .ireturn, 32, 0)]
def mX0_build : av_mi := (yX0_build, cX0_build, 6, (some .int), tX0_build)
theorem oX0_build : av_OK mX0_build := by unfold av_OK; decide +kernel
def tX0_push : av_T := [(0, .aload_n 0, 1, 0), (1, .getfield 12, 4, 0), (4, .iload_n 1, 5, 0), (5, .iload_n 2, 6, 0), (6, .invokevirtual 57, 9, 0), (9, .istore_n 3, 10, 0), (10, .aload_n 0, 11, 0), (11, .getfield 21, 14, 0), (14, .aload_n 0, 15, 0), (15, .getfield 12, 18, 0), (18, .invokevirtual 50, 21, 0), (21, .aload_n 0, 22, 0), (22, .invokevirtual 54, 25, 0), (25, .iload_n 3, 26, 0), (26, .ireturn, 27, 0)]
def mX0_push : av_mi := (yX0_push, cX0_push, 4, (some .int), tX0_push)
theorem oX0_push : av_OK mX0_push := by unfold av_OK; decide +kernel
def tX0_turn : av_T := [(0, .aload_n 0, 1, 0), (1, .getfield 12, 4, 0), (4, .iload_n 1, 5, 0), (5, .iload_n 2, 6, 0), (6, .invokevirtual 61, 9, 0), (9, .istore_n 3, 10, 0), (10, .aload_n 0, 11, 0), (11, .invokevirtual 54, 14, 0), (14, .iload_n 3, 15, 0), (15, .ireturn, 16, 0)]
def mX0_turn : av_mi := (yX0_turn, cX0_turn, 4, (some .int), tX0_turn)
theorem oX0_turn : av_OK mX0_turn := by unfold av_OK; decide +kernel
def tX0_carve : av_T := [(0, .aload_n 0, 1, 0), (1, .iconst 0, 2, 0), (2, .putfield 38, 5, 0), (5, .iconst 0, 6, 0), (6, .istore_n 1, 7, 0), (7, .iload_n 1, 8, 0), (8, .aload_n 0, 9, 0), (9, .getfield 21, 12, 0), (12, .invokevirtual 65, 15, 0), (15, .if_icmp .ge 32, 18, 47), (18, .aload_n 0, 19, 0), (19, .getfield 21, 22, 0), (22, .iload_n 1, 23, 0), (23, .aload_n 0, 24, 0), (24, .getfield 12, 27, 0), (27, .invokevirtual 68, 30, 0), (30, .invokevirtual 71, 33, 0), (33, .ifCond .eq 8, 36, 41), (36, .aload_n 0, 37, 0), (37, .iload_n 1, 38, 0), (38, .invokevirtual 75, 41, 0), (41, .iinc 1 1, 44, 0), (44, .goto (-37), 47, 7), (47, .aload_n 0, 48, 0), (48, .aload_n 0, 49, 0), (49, .getfield 38, 52, 0), (52, .ifCond .le 24, 55, 76), (55, .aload_n 0, 56, 0), (56, .getfield 21, 59, 0), (59, .aload_n 0, 60, 0), (60, .getfield 12, 63, 0), (63, .invokevirtual 68, 66, 0), (66, .invokevirtual 78, 69, 0), (69, .ifCond .ne 7, 72, 76), (72, .iconst 1, 73, 0), (73, .goto 4, 76, 77), (76, .iconst 0, 77, 0), (77, .putfield 42, 80, 0), (80, .aload_n 0, 81, 0), (81, .getfield 34, 84, 0), (84, .invokevirtual 82, 87, 0), (87, .iconst 0, 88, 0), (88, .istore_n 1, 89, 0), (89, .iload_n 1, 90, 0), (90, .aload_n 0, 91, 0), (91, .getfield 38, 94, 0), (94, .if_icmp .ge 47, 97, 141), (97, .aload_n 0, 98, 0), (98, .getfield 25, 101, 0), (101, .iload_n 1, 102, 0), (102, .iaload, 103, 0), (103, .istore_n 2, 104, 0), (104, .aload_n 0, 105, 0), (105, .getfield 34, 108, 0), (108, .aload_n 0, 109, 0), (109, .getfield 21, 112, 0), (112, .iload_n 2, 113, 0), (113, .invokevirtual 85, 116, 0), (116, .aload_n 0, 117, 0), (117, .getfield 21, 120, 0), (120, .iload_n 2, 121, 0), (121, .invokevirtual 89, 124, 0), (124, .aload_n 0, 125, 0), (125, .getfield 21, 128, 0), (128, .iload_n 2, 129, 0), (129, .invokevirtual 92, 132, 0), (132, .invokevirtual 95, 135, 0), (135, .iinc 1 1, 138, 0), (138, .goto (-49), 141, 89), (141, .aload_n 0, 142, 0), (142, .getfield 34, 145, 0), (145, .invokevirtual 98, 148, 0), (148, .return_, 149, 0)]
def mX0_carve : av_mi := (yX0_carve, cX0_carve, 3, none, tX0_carve)
theorem oX0_carve : av_OK mX0_carve := by unfold av_OK; decide +kernel
def tX0_addVertex : av_T := [(0, .aload_n 0, 1, 0), (1, .getfield 38, 4, 0), (4, .istore_n 2, 5, 0), (5, .iload_n 2, 6, 0), (6, .ifCond .le 28, 9, 34), (9, .aload_n 0, 10, 0), (10, .getfield 21, 13, 0), (13, .aload_n 0, 14, 0), (14, .getfield 25, 17, 0), (17, .iload_n 2, 18, 0), (18, .iconst 1, 19, 0), (19, .isub, 20, 0), (20, .iaload, 21, 0), (21, .iload_n 1, 22, 0), (22, .invokevirtual 101, 25, 0), (25, .ifCond .le 9, 28, 34), (28, .iinc 2 (-1), 31, 0), (31, .goto (-26), 34, 5), (34, .iload_n 2, 35, 0), (35, .ifCond .le 23, 38, 58), (38, .aload_n 0, 39, 0), (39, .getfield 21, 42, 0), (42, .aload_n 0, 43, 0), (43, .getfield 25, 46, 0), (46, .iload_n 2, 47, 0), (47, .iconst 1, 48, 0), (48, .isub, 49, 0), (49, .iaload, 50, 0), (50, .iload_n 1, 51, 0), (51, .invokevirtual 101, 54, 0), (54, .ifCond .ne 4, 57, 58), (57, .return_, 58, 0), (58, .aload_n 0, 59, 0), (59, .getfield 38, 62, 0), (62, .istore_n 3, 63, 0), (63, .iload_n 3, 64, 0), (64, .iload_n 2, 65, 0), (65, .if_icmp .le 23, 68, 88), (68, .aload_n 0, 69, 0), (69, .getfield 25, 72, 0), (72, .iload_n 3, 73, 0), (73, .aload_n 0, 74, 0), (74, .getfield 25, 77, 0), (77, .iload_n 3, 78, 0), (78, .iconst 1, 79, 0), (79, .isub, 80, 0), (80, .iaload, 81, 0), (81, .iastore, 82, 0), (82, .iinc 3 (-1), 85, 0), (85, .goto (-22), 88, 63), (88, .aload_n 0, 89, 0), (89, .getfield 25, 92, 0), (92, .iload_n 2, 93, 0), (93, .iload_n 1, 94, 0), (94, .iastore, 95, 0), (95, .aload_n 0, 96, 0), (96, .dup, 97, 0), (97, .getfield 38, 100, 0), (100, .iconst 1, 101, 0), (101, .iadd, 102, 0), (102, .putfield 38, 105, 0), (105, .return_, 106, 0)]
def mX0_addVertex : av_mi := (yX0_addVertex, cX0_addVertex, 4, none, tX0_addVertex)
theorem oX0_addVertex : av_OK mX0_addVertex := by unfold av_OK; decide +kernel
def tX0_coordinate : av_T := [(0, .aload_n 0, 1, 0), (1, .getfield 25, 4, 0), (4, .iload_n 1, 5, 0), (5, .iaload, 6, 0), (6, .istore 4, 8, 0), (8, .iload_n 2, 9, 0), (9, .ifCond .ne 15, 12, 24), (12, .aload_n 0, 13, 0), (13, .getfield 21, 16, 0), (16, .iload 4, 18, 0), (18, .invokevirtual 85, 21, 0), (21, .goto 29, 24, 50), (24, .iload_n 2, 25, 0), (25, .iconst 1, 26, 0), (26, .if_icmp .ne 15, 29, 41), (29, .aload_n 0, 30, 0), (30, .getfield 21, 33, 0), (33, .iload 4, 35, 0), (35, .invokevirtual 89, 38, 0), (38, .goto 12, 41, 50), (41, .aload_n 0, 42, 0), (42, .getfield 21, 45, 0), (45, .iload 4, 47, 0), (47, .invokevirtual 104, 50, 0), (50, .istore 5, 52, 0), (52, .iload 5, 54, 0), (54, .i2l, 55, 0), (55, .aload_n 0, 56, 0), (56, .getfield 21, 59, 0), (59, .iload 4, 61, 0), (61, .invokevirtual 92, 64, 0), (64, .i2l, 65, 0), (65, .iload_n 3, 66, 0), (66, .invokestatic 107, 69, 0), (69, .lreturn, 70, 0)]
def mX0_coordinate : av_mi := (yX0_coordinate, cX0_coordinate, 6, (some .long), tX0_coordinate)
theorem oX0_coordinate : av_OK mX0_coordinate := by unfold av_OK; decide +kernel
def tX0_tightAt : av_T := [(0, .aload_n 0, 1, 0), (1, .getfield 21, 4, 0), (4, .aload_n 0, 5, 0), (5, .getfield 25, 8, 0), (8, .iload_n 1, 9, 0), (9, .iaload, 10, 0), (10, .invokevirtual 111, 13, 0), (13, .aload_n 0, 14, 0), (14, .getfield 12, 17, 0), (17, .invokevirtual 68, 20, 0), (20, .iand, 21, 0), (21, .ireturn, 22, 0)]
def mX0_tightAt : av_mi := (yX0_tightAt, cX0_tightAt, 2, (some .int), tX0_tightAt)
theorem oX0_tightAt : av_OK mX0_tightAt := by unfold av_OK; decide +kernel
def tX0_rimCount : av_T := [(0, .iconst 0, 1, 0), (1, .istore_n 1, 2, 0), (2, .iconst 0, 3, 0), (3, .istore_n 2, 4, 0), (4, .iload_n 2, 5, 0), (5, .aload_n 0, 6, 0), (6, .getfield 38, 9, 0), (9, .if_icmp .ge 39, 12, 48), (12, .iload_n 2, 13, 0), (13, .iconst 1, 14, 0), (14, .iadd, 15, 0), (15, .istore_n 3, 16, 0), (16, .iload_n 3, 17, 0), (17, .aload_n 0, 18, 0), (18, .getfield 38, 21, 0), (21, .if_icmp .ge 21, 24, 42), (24, .aload_n 0, 25, 0), (25, .iload_n 2, 26, 0), (26, .iload_n 3, 27, 0), (27, .invokevirtual 114, 30, 0), (30, .ifCond .eq 6, 33, 36), (33, .iinc 1 1, 36, 0), (36, .iinc 3 1, 39, 0), (39, .goto (-23), 42, 16), (42, .iinc 2 1, 45, 0), (45, .goto (-41), 48, 4), (48, .iload_n 1, 49, 0), (49, .ireturn, 50, 0)]
def mX0_rimCount : av_mi := (yX0_rimCount, cX0_rimCount, 4, (some .int), tX0_rimCount)
theorem oX0_rimCount : av_OK mX0_rimCount := by unfold av_OK; decide +kernel
def tX0_isRim : av_T := [(0, .aload_n 0, 1, 0), (1, .iload_n 1, 2, 0), (2, .invokevirtual 117, 5, 0), (5, .aload_n 0, 6, 0), (6, .iload_n 2, 7, 0), (7, .invokevirtual 117, 10, 0), (10, .iand, 11, 0), (11, .istore_n 3, 12, 0), (12, .iconst 0, 13, 0), (13, .istore 4, 15, 0), (15, .iload 4, 17, 0), (17, .aload_n 0, 18, 0), (18, .getfield 38, 21, 0), (21, .if_icmp .ge 36, 24, 57), (24, .iload 4, 26, 0), (26, .iload_n 1, 27, 0), (27, .if_icmp .eq 24, 30, 51), (30, .iload 4, 32, 0), (32, .iload_n 2, 33, 0), (33, .if_icmp .eq 18, 36, 51), (36, .iload_n 3, 37, 0), (37, .aload_n 0, 38, 0), (38, .iload 4, 40, 0), (40, .invokevirtual 117, 43, 0), (43, .iconst (-1), 44, 0), (44, .ixor, 45, 0), (45, .iand, 46, 0), (46, .ifCond .ne 5, 49, 51), (49, .iconst 0, 50, 0), (50, .ireturn, 51, 0), (51, .iinc 4 1, 54, 0), (54, .goto (-39), 57, 15), (57, .iconst 1, 58, 0), (58, .ireturn, 59, 0)]
def mX0_isRim : av_mi := (yX0_isRim, cX0_isRim, 5, (some .boolean), tX0_isRim)
theorem oX0_isRim : av_OK mX0_isRim := by unfold av_OK; decide +kernel
def tX0_isIdle : av_T := [(0, .aload_n 0, 1, 0), (1, .getfield 12, 4, 0), (4, .iload_n 1, 5, 0), (5, .invokevirtual 120, 8, 0), (8, .ifCond .ne 5, 11, 13), (11, .iconst 0, 12, 0), (12, .ireturn, 13, 0), (13, .aload_n 0, 14, 0), (14, .getfield 12, 17, 0), (17, .invokevirtual 68, 20, 0), (20, .iconst 1, 21, 0), (21, .iload_n 1, 22, 0), (22, .ishl, 23, 0), (23, .iconst (-1), 24, 0), (24, .ixor, 25, 0), (25, .iand, 26, 0), (26, .istore_n 2, 27, 0), (27, .aload_n 0, 28, 0), (28, .getfield 21, 31, 0), (31, .iload_n 2, 32, 0), (32, .invokevirtual 78, 35, 0), (35, .ifCond .eq 5, 38, 40), (38, .iconst 0, 39, 0), (39, .ireturn, 40, 0), (40, .iconst 0, 41, 0), (41, .istore_n 3, 42, 0), (42, .iload_n 3, 43, 0), (43, .aload_n 0, 44, 0), (44, .getfield 21, 47, 0), (47, .invokevirtual 65, 50, 0), (50, .if_icmp .ge 35, 53, 85), (53, .aload_n 0, 54, 0), (54, .getfield 21, 57, 0), (57, .iload_n 3, 58, 0), (58, .iload_n 2, 59, 0), (59, .invokevirtual 71, 62, 0), (62, .ifCond .eq 17, 65, 79), (65, .aload_n 0, 66, 0), (66, .getfield 21, 69, 0), (69, .iload_n 3, 70, 0), (70, .iload_n 1, 71, 0), (71, .invokevirtual 123, 74, 0), (74, .ifCond .eq 5, 77, 79), (77, .iconst 0, 78, 0), (78, .ireturn, 79, 0), (79, .iinc 3 1, 82, 0), (82, .goto (-40), 85, 42), (85, .iconst 1, 86, 0), (86, .ireturn, 87, 0)]
def mX0_isIdle : av_mi := (yX0_isIdle, cX0_isIdle, 4, (some .boolean), tX0_isIdle)
theorem oX0_isIdle : av_OK mX0_isIdle := by unfold av_OK; decide +kernel
def tX0_firstBest : av_T := [(0, .iconst 0, 1, 0), (1, .istore 4, 3, 0), (3, .iconst 1, 4, 0), (4, .istore 5, 6, 0), (6, .iload 5, 8, 0), (8, .aload_n 0, 9, 0), (9, .getfield 38, 12, 0), (12, .if_icmp .ge 77, 15, 89), (15, .aload_n 0, 16, 0), (16, .iload 5, 18, 0), (18, .iload_n 1, 19, 0), (19, .iload_n 2, 20, 0), (20, .iload_n 3, 21, 0), (21, .invokevirtual 126, 24, 0), (24, .i2l, 25, 0), (25, .aload_n 0, 26, 0), (26, .getfield 21, 29, 0), (29, .aload_n 0, 30, 0), (30, .getfield 25, 33, 0), (33, .iload 4, 35, 0), (35, .iaload, 36, 0), (36, .invokevirtual 92, 39, 0), (39, .i2l, 40, 0), (40, .lmul, 41, 0), (41, .lstore 6, 43, 0), (43, .aload_n 0, 44, 0), (44, .iload 4, 46, 0), (46, .iload_n 1, 47, 0), (47, .iload_n 2, 48, 0), (48, .iload_n 3, 49, 0), (49, .invokevirtual 126, 52, 0), (52, .i2l, 53, 0), (53, .aload_n 0, 54, 0), (54, .getfield 21, 57, 0), (57, .aload_n 0, 58, 0), (58, .getfield 25, 61, 0), (61, .iload 5, 63, 0), (63, .iaload, 64, 0), (64, .invokevirtual 92, 67, 0), (67, .i2l, 68, 0), (68, .lmul, 69, 0), (69, .lstore 8, 71, 0), (71, .lload 6, 73, 0), (73, .lload 8, 75, 0), (75, .lcmp, 76, 0), (76, .ifCond .le 7, 79, 83), (79, .iload 5, 81, 0), (81, .istore 4, 83, 0), (83, .iinc 5 1, 86, 0), (86, .goto (-80), 89, 6), (89, .iload 4, 91, 0), (91, .ireturn, 92, 0)]
def mX0_firstBest : av_mi := (yX0_firstBest, cX0_firstBest, 10, (some .int), tX0_firstBest)
theorem oX0_firstBest : av_OK mX0_firstBest := by unfold av_OK; decide +kernel
def tX0_valueAt : av_T := [(0, .aload_n 0, 1, 0), (1, .iload_n 1, 2, 0), (2, .iload_n 2, 3, 0), (3, .iload_n 3, 4, 0), (4, .iload 4, 6, 0), (6, .invokevirtual 126, 9, 0), (9, .i2l, 10, 0), (10, .aload_n 0, 11, 0), (11, .getfield 21, 14, 0), (14, .aload_n 0, 15, 0), (15, .getfield 25, 18, 0), (18, .iload_n 1, 19, 0), (19, .iaload, 20, 0), (20, .invokevirtual 92, 23, 0), (23, .i2l, 24, 0), (24, .iload 5, 26, 0), (26, .invokestatic 107, 29, 0), (29, .lreturn, 30, 0)]
def mX0_valueAt : av_mi := (yX0_valueAt, cX0_valueAt, 6, (some .long), tX0_valueAt)
theorem oX0_valueAt : av_OK mX0_valueAt := by unfold av_OK; decide +kernel
def tX0_over : av_T := [(0, .aload_n 0, 1, 0), (1, .getfield 25, 4, 0), (4, .iload_n 1, 5, 0), (5, .iaload, 6, 0), (6, .istore 5, 8, 0), (8, .iload_n 2, 9, 0), (9, .aload_n 0, 10, 0), (10, .getfield 21, 13, 0), (13, .iload 5, 15, 0), (15, .invokevirtual 85, 18, 0), (18, .imul, 19, 0), (19, .iload_n 3, 20, 0), (20, .aload_n 0, 21, 0), (21, .getfield 21, 24, 0), (24, .iload 5, 26, 0), (26, .invokevirtual 89, 29, 0), (29, .imul, 30, 0), (30, .iadd, 31, 0), (31, .iload 4, 33, 0), (33, .aload_n 0, 34, 0), (34, .getfield 21, 37, 0), (37, .iload 5, 39, 0), (39, .invokevirtual 104, 42, 0), (42, .imul, 43, 0), (43, .iadd, 44, 0), (44, .ireturn, 45, 0)]
def mX0_over : av_mi := (yX0_over, cX0_over, 6, (some .int), tX0_over)
theorem oX0_over : av_OK mX0_over := by unfold av_OK; decide +kernel
def tX1_forget : av_T := [(0, .aload_n 0, 1, 0), (1, .iconst 0, 2, 0), (2, .putfield 15, 5, 0), (5, .return_, 6, 0)]
def mX1_forget : av_mi := (yX1_forget, cX1_forget, 1, none, tX1_forget)
theorem oX1_forget : av_OK mX1_forget := by unfold av_OK; decide +kernel
def tX1_walls : av_T := [(0, .aload_n 0, 1, 0), (1, .getfield 15, 4, 0), (4, .ifCond .ne 42, 7, 46), (7, .aload_n 0, 8, 0), (8, .aload_n 1, 9, 0), (9, .invokevirtual 19, 12, 0), (12, .ifCond .eq 7, 15, 19), (15, .iconst 0, 16, 0), (16, .goto 22, 19, 38), (19, .aload_n 0, 20, 0), (20, .aload_n 1, 21, 0), (21, .invokevirtual 25, 24, 0), (24, .aload_n 2, 25, 0), (25, .invokevirtual 29, 28, 0), (28, .aload_n 2, 29, 0), (29, .invokevirtual 35, 32, 0), (32, .invokevirtual 39, 35, 0), (35, .invokevirtual 45, 38, 0), (38, .putfield 49, 41, 0), (41, .aload_n 0, 42, 0), (42, .iconst 1, 43, 0), (43, .putfield 15, 46, 0), (46, .aload_n 0, 47, 0), (47, .getfield 49, 50, 0), (50, .ireturn, 51, 0)]
def mX1_walls : av_mi := (yX1_walls, cX1_walls, 3, (some .int), tX1_walls)
theorem oX1_walls : av_OK mX1_walls := by unfold av_OK; decide +kernel
def tX1_search : av_T := [(0, .iconst 1, 1, 0), (1, .aload_n 1, 2, 0), (2, .invokevirtual 53, 5, 0), (5, .ishl, 6, 0), (6, .iconst 1, 7, 0), (7, .isub, 8, 0), (8, .istore 4, 10, 0), (10, .aload_n 0, 11, 0), (11, .aload_n 1, 12, 0), (12, .aload_n 2, 13, 0), (13, .iload_n 3, 14, 0), (14, .invokevirtual 58, 17, 0), (17, .iload 4, 19, 0), (19, .if_icmp .eq 5, 22, 24), (22, .iconst 0, 23, 0), (23, .ireturn, 24, 0), (24, .iconst 0, 25, 0), (25, .istore 5, 27, 0), (27, .sipush 1023, 30, 0), (30, .istore 6, 32, 0), (32, .iload 6, 34, 0), (34, .ifCond .le 64, 37, 98), (37, .iload 5, 39, 0), (39, .ifCond .eq 16, 42, 55), (42, .iload 6, 44, 0), (44, .invokestatic 61, 47, 0), (47, .iload 5, 49, 0), (49, .invokestatic 61, 52, 0), (52, .if_icmp .ge 40, 55, 92), (55, .iload 6, 57, 0), (57, .invokestatic 67, 60, 0), (60, .istore 7, 62, 0), (62, .iload 7, 64, 0), (64, .iload_n 3, 65, 0), (65, .iconst (-1), 66, 0), (66, .ixor, 67, 0), (67, .iand, 68, 0), (68, .ifCond .ne 20, 71, 88), (71, .aload_n 0, 72, 0), (72, .aload_n 2, 73, 0), (73, .iload 7, 75, 0), (75, .iload 4, 77, 0), (77, .invokevirtual 70, 80, 0), (80, .ifCond .eq 8, 83, 88), (83, .iload 7, 85, 0), (85, .goto 5, 88, 90), (88, .iload 5, 90, 0), (90, .istore 5, 92, 0), (92, .iinc 6 (-1), 95, 0), (95, .goto (-63), 98, 32), (98, .iload 5, 100, 0), (100, .ireturn, 101, 0)]
def mX1_search : av_mi := (yX1_search, cX1_search, 8, (some .int), tX1_search)
theorem oX1_search : av_OK mX1_search := by unfold av_OK; decide +kernel
def tX1_mirror : av_T := [(0, .iconst 0, 1, 0), (1, .istore_n 1, 2, 0), (2, .iconst 0, 3, 0), (3, .istore_n 2, 4, 0), (4, .iload_n 2, 5, 0), (5, .bipush 10, 7, 0), (7, .if_icmp .ge 22, 10, 29), (10, .iload_n 1, 11, 0), (11, .iload_n 0, 12, 0), (12, .iload_n 2, 13, 0), (13, .ishr, 14, 0), (14, .iconst 1, 15, 0), (15, .iand, 16, 0), (16, .bipush 9, 18, 0), (18, .iload_n 2, 19, 0), (19, .isub, 20, 0), (20, .ishl, 21, 0), (21, .ior, 22, 0), (22, .istore_n 1, 23, 0), (23, .iinc 2 1, 26, 0), (26, .goto (-22), 29, 4), (29, .iload_n 1, 30, 0), (30, .ireturn, 31, 0)]
def mX1_mirror : av_mi := (yX1_mirror, cX1_mirror, 3, (some .int), tX1_mirror)
theorem oX1_mirror : av_OK mX1_mirror := by unfold av_OK; decide +kernel
def tX1_castAll : av_T := [(0, .iconst 0, 1, 0), (1, .istore 4, 3, 0), (3, .iconst 0, 4, 0), (4, .istore 5, 6, 0), (6, .iload 5, 8, 0), (8, .aload_n 2, 9, 0), (9, .invokevirtual 74, 12, 0), (12, .if_icmp .ge 71, 15, 83), (15, .aload_n 0, 16, 0), (16, .getfield 9, 19, 0), (19, .iload 5, 21, 0), (21, .aload_n 1, 22, 0), (22, .aload_n 2, 23, 0), (23, .iload 5, 25, 0), (25, .invokevirtual 77, 28, 0), (28, .aload_n 2, 29, 0), (29, .iload 5, 31, 0), (31, .invokevirtual 80, 34, 0), (34, .aload_n 2, 35, 0), (35, .iload 5, 37, 0), (37, .invokevirtual 83, 40, 0), (40, .invokestatic 86, 43, 0), (43, .iastore, 44, 0), (44, .aload_n 0, 45, 0), (45, .getfield 9, 48, 0), (48, .iload 5, 50, 0), (50, .iaload, 51, 0), (51, .iconst (-1), 52, 0), (52, .if_icmp .eq 25, 55, 77), (55, .aload_n 2, 56, 0), (56, .iload 5, 58, 0), (58, .iload_n 3, 59, 0), (59, .invokevirtual 90, 62, 0), (62, .ifCond .eq 15, 65, 77), (65, .iload 4, 67, 0), (67, .aload_n 0, 68, 0), (68, .getfield 9, 71, 0), (71, .iload 5, 73, 0), (73, .iaload, 74, 0), (74, .ior, 75, 0), (75, .istore 4, 77, 0), (77, .iinc 5 1, 80, 0), (80, .goto (-74), 83, 6), (83, .iload 4, 85, 0), (85, .ireturn, 86, 0)]
def mX1_castAll : av_mi := (yX1_castAll, cX1_castAll, 6, (some .int), tX1_castAll)
theorem oX1_castAll : av_OK mX1_castAll := by unfold av_OK; decide +kernel
def tX1_cast : av_T := [(0, .aload_n 0, 1, 0), (1, .iload_n 1, 2, 0), (2, .iload_n 2, 3, 0), (3, .iload_n 3, 4, 0), (4, .invokevirtual 94, 7, 0), (7, .ifCond .ne 5, 10, 12), (10, .iconst (-1), 11, 0), (11, .ireturn, 12, 0), (12, .aload_n 0, 13, 0), (13, .iload_n 1, 14, 0), (14, .iload_n 2, 15, 0), (15, .iload_n 3, 16, 0), (16, .invokevirtual 98, 19, 0), (19, .istore 4, 21, 0), (21, .iload 4, 23, 0), (23, .ifCond .ge 7, 26, 30), (26, .iconst 0, 27, 0), (27, .goto 7, 30, 34), (30, .iconst 1, 31, 0), (31, .iload 4, 33, 0), (33, .ishl, 34, 0), (34, .ireturn, 35, 0)]
def mX1_cast : av_mi := (yX1_cast, cX1_cast, 5, (some .int), tX1_cast)
theorem oX1_cast : av_OK mX1_cast := by unfold av_OK; decide +kernel
def tX1_shows : av_T := [(0, .iconst 0, 1, 0), (1, .istore 4, 3, 0), (3, .iconst 0, 4, 0), (4, .istore 5, 6, 0), (6, .iload 5, 8, 0), (8, .aload_n 1, 9, 0), (9, .invokevirtual 74, 12, 0), (12, .if_icmp .ge 44, 15, 56), (15, .aload_n 1, 16, 0), (16, .iload 5, 18, 0), (18, .iload_n 2, 19, 0), (19, .invokevirtual 102, 22, 0), (22, .ifCond .eq 28, 25, 50), (25, .aload_n 0, 26, 0), (26, .getfield 9, 29, 0), (29, .iload 5, 31, 0), (31, .iaload, 32, 0), (32, .iconst (-1), 33, 0), (33, .if_icmp .ne 5, 36, 38), (36, .iconst 0, 37, 0), (37, .ireturn, 38, 0), (38, .iload 4, 40, 0), (40, .aload_n 0, 41, 0), (41, .getfield 9, 44, 0), (44, .iload 5, 46, 0), (46, .iaload, 47, 0), (47, .ior, 48, 0), (48, .istore 4, 50, 0), (50, .iinc 5 1, 53, 0), (53, .goto (-47), 56, 6), (56, .iload 4, 58, 0), (58, .iload_n 3, 59, 0), (59, .if_icmp .ne 15, 62, 74), (62, .aload_n 1, 63, 0), (63, .iload_n 2, 64, 0), (64, .invokevirtual 105, 67, 0), (67, .ifCond .ne 7, 70, 74), (70, .iconst 1, 71, 0), (71, .goto 4, 74, 75), (74, .iconst 0, 75, 0), (75, .ireturn, 76, 0)]
def mX1_shows : av_mi := (yX1_shows, cX1_shows, 6, (some .boolean), tX1_shows)
theorem oX1_shows : av_OK mX1_shows := by unfold av_OK; decide +kernel
def tX2_size : av_T := [(0, .aload_n 0, 1, 0), (1, .getfield 27, 4, 0), (4, .ireturn, 5, 0)]
def mX2_size : av_mi := (yX2_size, cX2_size, 1, (some .int), tX2_size)
theorem oX2_size : av_OK mX2_size := by unfold av_OK; decide +kernel
def tX2_hull : av_T := [(0, .aload_n 0, 1, 0), (1, .getfield 23, 4, 0), (4, .areturn, 5, 0)]
def mX2_hull : av_mi := (yX2_hull, cX2_hull, 1, (some (.object "GreaterBodies$Outline")), tX2_hull)
theorem oX2_hull : av_OK mX2_hull := by unfold av_OK; decide +kernel
def tX2_isFlat : av_T := [(0, .aload_n 0, 1, 0), (1, .getfield 23, 4, 0), (4, .invokevirtual 31, 7, 0), (7, .iconst 3, 8, 0), (8, .if_icmp .ge 7, 11, 15), (11, .iconst 1, 12, 0), (12, .goto 4, 15, 16), (15, .iconst 0, 16, 0), (16, .ireturn, 17, 0)]
def mX2_isFlat : av_mi := (yX2_isFlat, cX2_isFlat, 1, (some .boolean), tX2_isFlat)
theorem oX2_isFlat : av_OK mX2_isFlat := by unfold av_OK; decide +kernel
def tX2_add : av_T := [(0, .aload_n 0, 1, 0), (1, .getfield 27, 4, 0), (4, .istore_n 3, 5, 0), (5, .aload_n 0, 6, 0), (6, .dup, 7, 0), (7, .getfield 27, 10, 0), (10, .iconst 1, 11, 0), (11, .iadd, 12, 0), (12, .putfield 27, 15, 0), (15, .aload_n 0, 16, 0), (16, .iload_n 3, 17, 0), (17, .iload_n 1, 18, 0), (18, .iload_n 2, 19, 0), (19, .invokevirtual 35, 22, 0), (22, .iload_n 3, 23, 0), (23, .ireturn, 24, 0)]
def mX2_add : av_mi := (yX2_add, cX2_add, 4, (some .int), tX2_add)
theorem oX2_add : av_OK mX2_add := by unfold av_OK; decide +kernel
def tX2_put : av_T := [(0, .aload_n 0, 1, 0), (1, .getfield 9, 4, 0), (4, .iload_n 1, 5, 0), (5, .iload_n 2, 6, 0), (6, .iastore, 7, 0), (7, .aload_n 0, 8, 0), (8, .getfield 15, 11, 0), (11, .iload_n 1, 12, 0), (12, .iload_n 3, 13, 0), (13, .iastore, 14, 0), (14, .aload_n 0, 15, 0), (15, .invokevirtual 39, 18, 0), (18, .return_, 19, 0)]
def mX2_put : av_mi := (yX2_put, cX2_put, 4, none, tX2_put)
theorem oX2_put : av_OK mX2_put := by unfold av_OK; decide +kernel
def tX2_drop : av_T := [(0, .aload_n 0, 1, 0), (1, .getfield 27, 4, 0), (4, .istore_n 1, 5, 0), (5, .aload_n 0, 6, 0), (6, .iconst 0, 7, 0), (7, .putfield 27, 10, 0), (10, .aload_n 0, 11, 0), (11, .invokevirtual 39, 14, 0), (14, .iload_n 1, 15, 0), (15, .ireturn, 16, 0)]
def mX2_drop : av_mi := (yX2_drop, cX2_drop, 2, (some .int), tX2_drop)
theorem oX2_drop : av_OK mX2_drop := by unfold av_OK; decide +kernel
def tX2_draw : av_T := [(0, .aload_n 0, 1, 0), (1, .getfield 23, 4, 0), (4, .invokevirtual 42, 7, 0), (7, .iconst 0, 8, 0), (8, .istore_n 1, 9, 0), (9, .iload_n 1, 10, 0), (10, .aload_n 0, 11, 0), (11, .getfield 27, 14, 0), (14, .if_icmp .ge 29, 17, 43), (17, .aload_n 0, 18, 0), (18, .getfield 23, 21, 0), (21, .aload_n 0, 22, 0), (22, .getfield 9, 25, 0), (25, .iload_n 1, 26, 0), (26, .iaload, 27, 0), (27, .aload_n 0, 28, 0), (28, .getfield 15, 31, 0), (31, .iload_n 1, 32, 0), (32, .iaload, 33, 0), (33, .iconst 1, 34, 0), (34, .invokevirtual 45, 37, 0), (37, .iinc 1 1, 40, 0), (40, .goto (-31), 43, 9), (43, .aload_n 0, 44, 0), (44, .getfield 23, 47, 0), (47, .invokevirtual 48, 50, 0), (50, .return_, 51, 0)]
def mX2_draw : av_mi := (yX2_draw, cX2_draw, 2, none, tX2_draw)
theorem oX2_draw : av_OK mX2_draw := by unfold av_OK; decide +kernel
def tX2_wallPart : av_T := [(0, .aload_n 0, 1, 0), (1, .getfield 23, 4, 0), (4, .iload_n 1, 5, 0), (5, .invokevirtual 51, 8, 0), (8, .istore_n 3, 9, 0), (9, .aload_n 0, 10, 0), (10, .getfield 23, 13, 0), (13, .iload_n 3, 14, 0), (14, .invokevirtual 55, 17, 0), (17, .aload_n 0, 18, 0), (18, .getfield 23, 21, 0), (21, .iload_n 1, 22, 0), (22, .invokevirtual 55, 25, 0), (25, .isub, 26, 0), (26, .istore 4, 28, 0), (28, .aload_n 0, 29, 0), (29, .getfield 23, 32, 0), (32, .iload_n 3, 33, 0), (33, .invokevirtual 58, 36, 0), (36, .aload_n 0, 37, 0), (37, .getfield 23, 40, 0), (40, .iload_n 1, 41, 0), (41, .invokevirtual 58, 44, 0), (44, .isub, 45, 0), (45, .istore 5, 47, 0), (47, .iload 4, 49, 0), (49, .i2l, 50, 0), (50, .iload 5, 52, 0), (52, .i2l, 53, 0), (53, .invokestatic 61, 56, 0), (56, .l2i, 57, 0), (57, .istore 6, 59, 0), (59, .iload 6, 61, 0), (61, .ifCond .ne 5, 64, 66), (64, .iconst 0, 65, 0), (65, .ireturn, 66, 0), (66, .iload 5, 68, 0), (68, .iload 6, 70, 0), (70, .idiv, 71, 0), (71, .istore 7, 73, 0), (73, .iload 4, 75, 0), (75, .ineg, 76, 0), (76, .iload 6, 78, 0), (78, .idiv, 79, 0), (79, .istore 8, 81, 0), (81, .iload_n 2, 82, 0), (82, .ifCond .ne 6, 85, 88), (85, .iload 7, 87, 0), (87, .ireturn, 88, 0), (88, .iload_n 2, 89, 0), (89, .iconst 1, 90, 0), (90, .if_icmp .ne 8, 93, 98), (93, .iload 8, 95, 0), (95, .goto 26, 98, 121), (98, .iload 7, 100, 0), (100, .aload_n 0, 101, 0), (101, .getfield 23, 104, 0), (104, .iload_n 1, 105, 0), (105, .invokevirtual 55, 108, 0), (108, .imul, 109, 0), (109, .iload 8, 111, 0), (111, .aload_n 0, 112, 0), (112, .getfield 23, 115, 0), (115, .iload_n 1, 116, 0), (116, .invokevirtual 58, 119, 0), (119, .imul, 120, 0), (120, .iadd, 121, 0), (121, .ireturn, 122, 0)]
def mX2_wallPart : av_mi := (yX2_wallPart, cX2_wallPart, 9, (some .int), tX2_wallPart)
theorem oX2_wallPart : av_OK mX2_wallPart := by unfold av_OK; decide +kernel
def tX2_gap : av_T := [(0, .aload_n 0, 1, 0), (1, .iload_n 1, 2, 0), (2, .iconst 2, 3, 0), (3, .invokevirtual 65, 6, 0), (6, .aload_n 0, 7, 0), (7, .iload_n 1, 8, 0), (8, .iconst 0, 9, 0), (9, .invokevirtual 65, 12, 0), (12, .aload_n 0, 13, 0), (13, .getfield 23, 16, 0), (16, .iload_n 2, 17, 0), (17, .invokevirtual 55, 20, 0), (20, .imul, 21, 0), (21, .isub, 22, 0), (22, .aload_n 0, 23, 0), (23, .iload_n 1, 24, 0), (24, .iconst 1, 25, 0), (25, .invokevirtual 65, 28, 0), (28, .aload_n 0, 29, 0), (29, .getfield 23, 32, 0), (32, .iload_n 2, 33, 0), (33, .invokevirtual 58, 36, 0), (36, .imul, 37, 0), (37, .isub, 38, 0), (38, .ireturn, 39, 0)]
def mX2_gap : av_mi := (yX2_gap, cX2_gap, 3, (some .int), tX2_gap)
theorem oX2_gap : av_OK mX2_gap := by unfold av_OK; decide +kernel
def tX2_openPairs : av_T := [(0, .iconst 0, 1, 0), (1, .istore_n 1, 2, 0), (2, .iconst 0, 3, 0), (3, .istore_n 2, 4, 0), (4, .iload_n 2, 5, 0), (5, .aload_n 0, 6, 0), (6, .getfield 23, 9, 0), (9, .invokevirtual 31, 12, 0), (12, .if_icmp .ge 40, 15, 52), (15, .iconst 0, 16, 0), (16, .istore_n 3, 17, 0), (17, .iload_n 3, 18, 0), (18, .aload_n 0, 19, 0), (19, .getfield 23, 22, 0), (22, .invokevirtual 31, 25, 0), (25, .if_icmp .ge 21, 28, 46), (28, .aload_n 0, 29, 0), (29, .iload_n 2, 30, 0), (30, .iload_n 3, 31, 0), (31, .invokevirtual 69, 34, 0), (34, .ifCond .le 6, 37, 40), (37, .iinc 1 1, 40, 0), (40, .iinc 3 1, 43, 0), (43, .goto (-26), 46, 17), (46, .iinc 2 1, 49, 0), (49, .goto (-45), 52, 4), (52, .iload_n 1, 53, 0), (53, .ireturn, 54, 0)]
def mX2_openPairs : av_mi := (yX2_openPairs, cX2_openPairs, 4, (some .int), tX2_openPairs)
theorem oX2_openPairs : av_OK mX2_openPairs := by unfold av_OK; decide +kernel
def tX2_twiceArea : av_T := [(0, .iconst 0, 1, 0), (1, .istore_n 1, 2, 0), (2, .iconst 0, 3, 0), (3, .istore_n 2, 4, 0), (4, .iload_n 2, 5, 0), (5, .aload_n 0, 6, 0), (6, .getfield 23, 9, 0), (9, .invokevirtual 31, 12, 0), (12, .if_icmp .ge 56, 15, 68), (15, .aload_n 0, 16, 0), (16, .getfield 23, 19, 0), (19, .iload_n 2, 20, 0), (20, .invokevirtual 51, 23, 0), (23, .istore_n 3, 24, 0), (24, .iload_n 1, 25, 0), (25, .aload_n 0, 26, 0), (26, .getfield 23, 29, 0), (29, .iload_n 2, 30, 0), (30, .invokevirtual 55, 33, 0), (33, .aload_n 0, 34, 0), (34, .getfield 23, 37, 0), (37, .iload_n 3, 38, 0), (38, .invokevirtual 58, 41, 0), (41, .imul, 42, 0), (42, .aload_n 0, 43, 0), (43, .getfield 23, 46, 0), (46, .iload_n 2, 47, 0), (47, .invokevirtual 58, 50, 0), (50, .aload_n 0, 51, 0), (51, .getfield 23, 54, 0), (54, .iload_n 3, 55, 0), (55, .invokevirtual 55, 58, 0), (58, .imul, 59, 0), (59, .isub, 60, 0), (60, .iadd, 61, 0), (61, .istore_n 1, 62, 0), (62, .iinc 2 1, 65, 0), (65, .goto (-61), 68, 4), (68, .iload_n 1, 69, 0), (69, .ireturn, 70, 0)]
def mX2_twiceArea : av_mi := (yX2_twiceArea, cX2_twiceArea, 4, (some .int), tX2_twiceArea)
theorem oX2_twiceArea : av_OK mX2_twiceArea := by unfold av_OK; decide +kernel
def tX2_greatest : av_T := [(0, .iload_n 1, 1, 0), (1, .aload_n 0, 2, 0), (2, .getfield 9, 5, 0), (5, .iconst 0, 6, 0), (6, .iaload, 7, 0), (7, .imul, 8, 0), (8, .iload_n 2, 9, 0), (9, .aload_n 0, 10, 0), (10, .getfield 15, 13, 0), (13, .iconst 0, 14, 0), (14, .iaload, 15, 0), (15, .imul, 16, 0), (16, .iadd, 17, 0), (17, .istore_n 3, 18, 0), (18, .iconst 1, 19, 0), (19, .istore 4, 21, 0), (21, .iload 4, 23, 0), (23, .aload_n 0, 24, 0), (24, .getfield 27, 27, 0), (27, .if_icmp .ge 33, 30, 60), (30, .iload_n 3, 31, 0), (31, .iload_n 1, 32, 0), (32, .aload_n 0, 33, 0), (33, .getfield 9, 36, 0), (36, .iload 4, 38, 0), (38, .iaload, 39, 0), (39, .imul, 40, 0), (40, .iload_n 2, 41, 0), (41, .aload_n 0, 42, 0), (42, .getfield 15, 45, 0), (45, .iload 4, 47, 0), (47, .iaload, 48, 0), (48, .imul, 49, 0), (49, .iadd, 50, 0), (50, .invokestatic 72, 53, 0), (53, .istore_n 3, 54, 0), (54, .iinc 4 1, 57, 0), (57, .goto (-36), 60, 21), (60, .iload_n 3, 61, 0), (61, .ireturn, 62, 0)]
def mX2_greatest : av_mi := (yX2_greatest, cX2_greatest, 5, (some .int), tX2_greatest)
theorem oX2_greatest : av_OK mX2_greatest := by unfold av_OK; decide +kernel
def tX3_find : av_T := [(0, .aload_n 0, 1, 0), (1, .iconst 0, 2, 0), (2, .putfield 36, 5, 0), (5, .aload_n 0, 6, 0), (6, .iconst 0, 7, 0), (7, .putfield 40, 10, 0), (10, .iconst 0, 11, 0), (11, .istore_n 2, 12, 0), (12, .iload_n 2, 13, 0), (13, .aload_n 1, 14, 0), (14, .getfield 43, 17, 0), (17, .if_icmp .ge 63, 20, 80), (20, .iload_n 2, 21, 0), (21, .iconst 1, 22, 0), (22, .iadd, 23, 0), (23, .istore_n 3, 24, 0), (24, .iload_n 3, 25, 0), (25, .aload_n 1, 26, 0), (26, .getfield 43, 29, 0), (29, .if_icmp .ge 45, 32, 74), (32, .aload_n 0, 33, 0), (33, .aload_n 1, 34, 0), (34, .iload_n 2, 35, 0), (35, .iload_n 3, 36, 0), (36, .invokevirtual 46, 39, 0), (39, .iload_n 3, 40, 0), (40, .iconst 1, 41, 0), (41, .iadd, 42, 0), (42, .istore 4, 44, 0), (44, .iload 4, 46, 0), (46, .aload_n 1, 47, 0), (47, .getfield 43, 50, 0), (50, .if_icmp .ge 18, 53, 68), (53, .aload_n 0, 54, 0), (54, .aload_n 1, 55, 0), (55, .iload_n 2, 56, 0), (56, .iload_n 3, 57, 0), (57, .iload 4, 59, 0), (59, .invokevirtual 50, 62, 0), (62, .iinc 4 1, 65, 0), (65, .goto (-21), 68, 44), (68, .iinc 3 1, 71, 0), (71, .goto (-47), 74, 24), (74, .iinc 2 1, 77, 0), (77, .goto (-65), 80, 12), (80, .return_, 81, 0)]
def mX3_find : av_mi := (yX3_find, cX3_find, 5, none, tX3_find)
theorem oX3_find : av_OK mX3_find := by unfold av_OK; decide +kernel
def tX3_addMeet : av_T := [(0, .aload_n 1, 1, 0), (1, .getfield 54, 4, 0), (4, .aload_n 1, 5, 0), (5, .getfield 57, 8, 0), (8, .aload_n 1, 9, 0), (9, .getfield 60, 12, 0), (12, .iload_n 2, 13, 0), (13, .iload_n 3, 14, 0), (14, .iload 4, 16, 0), (16, .invokestatic 63, 19, 0), (19, .istore 5, 21, 0), (21, .iload 5, 23, 0), (23, .ifCond .eq 12, 26, 35), (26, .aload_n 0, 27, 0), (27, .getfield 36, 30, 0), (30, .bipush 120, 32, 0), (32, .if_icmp .lt 4, 35, 36), (35, .return_, 36, 0), (36, .iload 5, 38, 0), (38, .ifCond .le 7, 41, 45), (41, .iconst 1, 42, 0), (42, .goto 4, 45, 46), (45, .iconst (-1), 46, 0), (46, .istore 6, 48, 0), (48, .aload_n 0, 49, 0), (49, .getfield 9, 52, 0), (52, .aload_n 0, 53, 0), (53, .getfield 36, 56, 0), (56, .iload 6, 58, 0), (58, .aload_n 1, 59, 0), (59, .getfield 67, 62, 0), (62, .aload_n 1, 63, 0), (63, .getfield 57, 66, 0), (66, .aload_n 1, 67, 0), (67, .getfield 60, 70, 0), (70, .iload_n 2, 71, 0), (71, .iload_n 3, 72, 0), (72, .iload 4, 74, 0), (74, .invokestatic 63, 77, 0), (77, .imul, 78, 0), (78, .iastore, 79, 0), (79, .aload_n 0, 80, 0), (80, .getfield 15, 83, 0), (83, .aload_n 0, 84, 0), (84, .getfield 36, 87, 0), (87, .iload 6, 89, 0), (89, .aload_n 1, 90, 0), (90, .getfield 54, 93, 0), (93, .aload_n 1, 94, 0), (94, .getfield 67, 97, 0), (97, .aload_n 1, 98, 0), (98, .getfield 60, 101, 0), (101, .iload_n 2, 102, 0), (102, .iload_n 3, 103, 0), (103, .iload 4, 105, 0), (105, .invokestatic 63, 108, 0), (108, .imul, 109, 0), (109, .iastore, 110, 0), (110, .aload_n 0, 111, 0), (111, .getfield 18, 114, 0), (114, .aload_n 0, 115, 0), (115, .getfield 36, 118, 0), (118, .iload 6, 120, 0), (120, .aload_n 1, 121, 0), (121, .getfield 54, 124, 0), (124, .aload_n 1, 125, 0), (125, .getfield 57, 128, 0), (128, .aload_n 1, 129, 0), (129, .getfield 67, 132, 0), (132, .iload_n 2, 133, 0), (133, .iload_n 3, 134, 0), (134, .iload 4, 136, 0), (136, .invokestatic 63, 139, 0), (139, .imul, 140, 0), (140, .iastore, 141, 0), (141, .aload_n 0, 142, 0), (142, .getfield 21, 145, 0), (145, .aload_n 0, 146, 0), (146, .getfield 36, 149, 0), (149, .iload 6, 151, 0), (151, .iload 5, 153, 0), (153, .imul, 154, 0), (154, .iastore, 155, 0), (155, .aload_n 0, 156, 0), (156, .getfield 24, 159, 0), (159, .aload_n 0, 160, 0), (160, .getfield 36, 163, 0), (163, .iconst 1, 164, 0), (164, .iload_n 2, 165, 0), (165, .ishl, 166, 0), (166, .iconst 1, 167, 0), (167, .iload_n 3, 168, 0), (168, .ishl, 169, 0), (169, .ior, 170, 0), (170, .iconst 1, 171, 0), (171, .iload 4, 173, 0), (173, .ishl, 174, 0), (174, .ior, 175, 0), (175, .iastore, 176, 0), (176, .aload_n 0, 177, 0), (177, .aload_n 1, 178, 0), (178, .invokevirtual 70, 181, 0), (181, .aload_n 0, 182, 0), (182, .dup, 183, 0), (183, .getfield 36, 186, 0), (186, .iconst 1, 187, 0), (187, .iadd, 188, 0), (188, .putfield 36, 191, 0), (191, .return_, 192, 0)]
def mX3_addMeet : av_mi := (yX3_addMeet, cX3_addMeet, 7, none, tX3_addMeet)
theorem oX3_addMeet : av_OK mX3_addMeet := by unfold av_OK; decide +kernel
def tX3_volume : av_T := [(0, .aload_n 0, 1, 0), (1, .iload_n 3, 2, 0), (2, .iaload, 3, 0), (3, .aload_n 1, 4, 0), (4, .iload 4, 6, 0), (6, .iaload, 7, 0), (7, .aload_n 2, 8, 0), (8, .iload 5, 10, 0), (10, .iaload, 11, 0), (11, .imul, 12, 0), (12, .aload_n 1, 13, 0), (13, .iload 5, 15, 0), (15, .iaload, 16, 0), (16, .aload_n 2, 17, 0), (17, .iload 4, 19, 0), (19, .iaload, 20, 0), (20, .imul, 21, 0), (21, .isub, 22, 0), (22, .imul, 23, 0), (23, .aload_n 0, 24, 0), (24, .iload 4, 26, 0), (26, .iaload, 27, 0), (27, .aload_n 1, 28, 0), (28, .iload_n 3, 29, 0), (29, .iaload, 30, 0), (30, .aload_n 2, 31, 0), (31, .iload 5, 33, 0), (33, .iaload, 34, 0), (34, .imul, 35, 0), (35, .aload_n 1, 36, 0), (36, .iload 5, 38, 0), (38, .iaload, 39, 0), (39, .aload_n 2, 40, 0), (40, .iload_n 3, 41, 0), (41, .iaload, 42, 0), (42, .imul, 43, 0), (43, .isub, 44, 0), (44, .imul, 45, 0), (45, .isub, 46, 0), (46, .aload_n 0, 47, 0), (47, .iload 5, 49, 0), (49, .iaload, 50, 0), (50, .aload_n 1, 51, 0), (51, .iload_n 3, 52, 0), (52, .iaload, 53, 0), (53, .aload_n 2, 54, 0), (54, .iload 4, 56, 0), (56, .iaload, 57, 0), (57, .imul, 58, 0), (58, .aload_n 1, 59, 0), (59, .iload 4, 61, 0), (61, .iaload, 62, 0), (62, .aload_n 2, 63, 0), (63, .iload_n 3, 64, 0), (64, .iaload, 65, 0), (65, .imul, 66, 0), (66, .isub, 67, 0), (67, .imul, 68, 0), (68, .iadd, 69, 0), (69, .ireturn, 70, 0)]
def mX3_volume : av_mi := (yX3_volume, cX3_volume, 6, (some .int), tX3_volume)
theorem oX3_volume : av_OK mX3_volume := by unfold av_OK; decide +kernel
def tX3_mark : av_T := [(0, .aload_n 0, 1, 0), (1, .getfield 27, 4, 0), (4, .aload_n 0, 5, 0), (5, .getfield 36, 8, 0), (8, .iconst 0, 9, 0), (9, .iastore, 10, 0), (10, .aload_n 0, 11, 0), (11, .getfield 30, 14, 0), (14, .aload_n 0, 15, 0), (15, .getfield 36, 18, 0), (18, .iconst 0, 19, 0), (19, .iastore, 20, 0), (20, .iconst 0, 21, 0), (21, .istore_n 2, 22, 0), (22, .iload_n 2, 23, 0), (23, .aload_n 1, 24, 0), (24, .getfield 43, 27, 0), (27, .if_icmp .ge 92, 30, 119), (30, .aload_n 1, 31, 0), (31, .iload_n 2, 32, 0), (32, .aload_n 0, 33, 0), (33, .getfield 9, 36, 0), (36, .aload_n 0, 37, 0), (37, .getfield 36, 40, 0), (40, .iaload, 41, 0), (41, .aload_n 0, 42, 0), (42, .getfield 15, 45, 0), (45, .aload_n 0, 46, 0), (46, .getfield 36, 49, 0), (49, .iaload, 50, 0), (50, .aload_n 0, 51, 0), (51, .getfield 18, 54, 0), (54, .aload_n 0, 55, 0), (55, .getfield 36, 58, 0), (58, .iaload, 59, 0), (59, .aload_n 0, 60, 0), (60, .getfield 21, 63, 0), (63, .aload_n 0, 64, 0), (64, .getfield 36, 67, 0), (67, .iaload, 68, 0), (68, .invokevirtual 74, 71, 0), (71, .istore_n 3, 72, 0), (72, .iload_n 3, 73, 0), (73, .ifCond .le 21, 76, 94), (76, .aload_n 0, 77, 0), (77, .getfield 27, 80, 0), (80, .aload_n 0, 81, 0), (81, .getfield 36, 84, 0), (84, .dup2, 85, 0), (85, .iaload, 86, 0), (86, .iconst 1, 87, 0), (87, .iload_n 2, 88, 0), (88, .ishl, 89, 0), (89, .ior, 90, 0), (90, .iastore, 91, 0), (91, .goto 22, 94, 113), (94, .iload_n 3, 95, 0), (95, .ifCond .ne 18, 98, 113), (98, .aload_n 0, 99, 0), (99, .getfield 30, 102, 0), (102, .aload_n 0, 103, 0), (103, .getfield 36, 106, 0), (106, .dup2, 107, 0), (107, .iaload, 108, 0), (108, .iconst 1, 109, 0), (109, .iload_n 2, 110, 0), (110, .ishl, 111, 0), (111, .ior, 112, 0), (112, .iastore, 113, 0), (113, .iinc 2 1, 116, 0), (116, .goto (-94), 119, 22), (119, .return_, 120, 0)]
def mX3_mark : av_mi := (yX3_mark, cX3_mark, 4, none, tX3_mark)
theorem oX3_mark : av_OK mX3_mark := by unfold av_OK; decide +kernel
def tX3_addRays : av_T := [(0, .aload_n 1, 1, 0), (1, .getfield 57, 4, 0), (4, .iload_n 2, 5, 0), (5, .iaload, 6, 0), (6, .aload_n 1, 7, 0), (7, .getfield 60, 10, 0), (10, .iload_n 3, 11, 0), (11, .iaload, 12, 0), (12, .imul, 13, 0), (13, .aload_n 1, 14, 0), (14, .getfield 60, 17, 0), (17, .iload_n 2, 18, 0), (18, .iaload, 19, 0), (19, .aload_n 1, 20, 0), (20, .getfield 57, 23, 0), (23, .iload_n 3, 24, 0), (24, .iaload, 25, 0), (25, .imul, 26, 0), (26, .isub, 27, 0), (27, .istore 4, 29, 0), (29, .aload_n 1, 30, 0), (30, .getfield 60, 33, 0), (33, .iload_n 2, 34, 0), (34, .iaload, 35, 0), (35, .aload_n 1, 36, 0), (36, .getfield 54, 39, 0), (39, .iload_n 3, 40, 0), (40, .iaload, 41, 0), (41, .imul, 42, 0), (42, .aload_n 1, 43, 0), (43, .getfield 54, 46, 0), (46, .iload_n 2, 47, 0), (47, .iaload, 48, 0), (48, .aload_n 1, 49, 0), (49, .getfield 60, 52, 0), (52, .iload_n 3, 53, 0), (53, .iaload, 54, 0), (54, .imul, 55, 0), (55, .isub, 56, 0), (56, .istore 5, 58, 0), (58, .aload_n 1, 59, 0), (59, .getfield 54, 62, 0), (62, .iload_n 2, 63, 0), (63, .iaload, 64, 0), (64, .aload_n 1, 65, 0), (65, .getfield 57, 68, 0), (68, .iload_n 3, 69, 0), (69, .iaload, 70, 0), (70, .imul, 71, 0), (71, .aload_n 1, 72, 0), (72, .getfield 57, 75, 0), (75, .iload_n 2, 76, 0), (76, .iaload, 77, 0), (77, .aload_n 1, 78, 0), (78, .getfield 54, 81, 0), (81, .iload_n 3, 82, 0), (82, .iaload, 83, 0), (83, .imul, 84, 0), (84, .isub, 85, 0), (85, .istore 6, 87, 0), (87, .iload 4, 89, 0), (89, .ifCond .ne 14, 92, 103), (92, .iload 5, 94, 0), (94, .ifCond .ne 9, 97, 103), (97, .iload 6, 99, 0), (99, .ifCond .ne 4, 102, 103), (102, .return_, 103, 0), (103, .aload_n 0, 104, 0), (104, .aload_n 1, 105, 0), (105, .iload 4, 107, 0), (107, .iload 5, 109, 0), (109, .iload 6, 111, 0), (111, .invokevirtual 78, 114, 0), (114, .aload_n 0, 115, 0), (115, .aload_n 1, 116, 0), (116, .iload 4, 118, 0), (118, .ineg, 119, 0), (119, .iload 5, 121, 0), (121, .ineg, 122, 0), (122, .iload 6, 124, 0), (124, .ineg, 125, 0), (125, .invokevirtual 78, 128, 0), (128, .return_, 129, 0)]
def mX3_addRays : av_mi := (yX3_addRays, cX3_addRays, 7, none, tX3_addRays)
theorem oX3_addRays : av_OK mX3_addRays := by unfold av_OK; decide +kernel
def tX3_addRay : av_T := [(0, .aload_n 0, 1, 0), (1, .getfield 40, 4, 0), (4, .bipush 90, 6, 0), (6, .if_icmp .lt 4, 9, 10), (9, .return_, 10, 0), (10, .iconst 0, 11, 0), (11, .istore 5, 13, 0), (13, .iconst 0, 14, 0), (14, .istore 6, 16, 0), (16, .iload 6, 18, 0), (18, .aload_n 1, 19, 0), (19, .getfield 43, 22, 0), (22, .if_icmp .ge 32, 25, 54), (25, .aload_n 1, 26, 0), (26, .iload 6, 28, 0), (28, .iload_n 2, 29, 0), (29, .iload_n 3, 30, 0), (30, .iload 4, 32, 0), (32, .iconst 0, 33, 0), (33, .invokevirtual 74, 36, 0), (36, .ifCond .le 12, 39, 48), (39, .iload 5, 41, 0), (41, .iconst 1, 42, 0), (42, .iload 6, 44, 0), (44, .ishl, 45, 0), (45, .ior, 46, 0), (46, .istore 5, 48, 0), (48, .iinc 6 1, 51, 0), (51, .goto (-35), 54, 16), (54, .aload_n 0, 55, 0), (55, .getfield 33, 58, 0), (58, .aload_n 0, 59, 0), (59, .getfield 40, 62, 0), (62, .iload 5, 64, 0), (64, .iastore, 65, 0), (65, .aload_n 0, 66, 0), (66, .dup, 67, 0), (67, .getfield 40, 70, 0), (70, .iconst 1, 71, 0), (71, .iadd, 72, 0), (72, .putfield 40, 75, 0), (75, .return_, 76, 0)]
def mX3_addRay : av_mi := (yX3_addRay, cX3_addRay, 7, none, tX3_addRay)
theorem oX3_addRay : av_OK mX3_addRay := by unfold av_OK; decide +kernel
def tX3_size : av_T := [(0, .aload_n 0, 1, 0), (1, .getfield 36, 4, 0), (4, .ireturn, 5, 0)]
def mX3_size : av_mi := (yX3_size, cX3_size, 1, (some .int), tX3_size)
theorem oX3_size : av_OK mX3_size := by unfold av_OK; decide +kernel
def tX3_xOf : av_T := [(0, .aload_n 0, 1, 0), (1, .getfield 9, 4, 0), (4, .iload_n 1, 5, 0), (5, .iaload, 6, 0), (6, .ireturn, 7, 0)]
def mX3_xOf : av_mi := (yX3_xOf, cX3_xOf, 2, (some .int), tX3_xOf)
theorem oX3_xOf : av_OK mX3_xOf := by unfold av_OK; decide +kernel
def tX3_yOf : av_T := [(0, .aload_n 0, 1, 0), (1, .getfield 15, 4, 0), (4, .iload_n 1, 5, 0), (5, .iaload, 6, 0), (6, .ireturn, 7, 0)]
def mX3_yOf : av_mi := (yX3_yOf, cX3_yOf, 2, (some .int), tX3_yOf)
theorem oX3_yOf : av_OK mX3_yOf := by unfold av_OK; decide +kernel
def tX3_zOf : av_T := [(0, .aload_n 0, 1, 0), (1, .getfield 18, 4, 0), (4, .iload_n 1, 5, 0), (5, .iaload, 6, 0), (6, .ireturn, 7, 0)]
def mX3_zOf : av_mi := (yX3_zOf, cX3_zOf, 2, (some .int), tX3_zOf)
theorem oX3_zOf : av_OK mX3_zOf := by unfold av_OK; decide +kernel
def tX3_wOf : av_T := [(0, .aload_n 0, 1, 0), (1, .getfield 21, 4, 0), (4, .iload_n 1, 5, 0), (5, .iaload, 6, 0), (6, .ireturn, 7, 0)]
def mX3_wOf : av_mi := (yX3_wOf, cX3_wOf, 2, (some .int), tX3_wOf)
theorem oX3_wOf : av_OK mX3_wOf := by unfold av_OK; decide +kernel
def tX3_touchersOf : av_T := [(0, .aload_n 0, 1, 0), (1, .getfield 30, 4, 0), (4, .iload_n 1, 5, 0), (5, .iaload, 6, 0), (6, .ireturn, 7, 0)]
def mX3_touchersOf : av_mi := (yX3_touchersOf, cX3_touchersOf, 2, (some .int), tX3_touchersOf)
theorem oX3_touchersOf : av_OK mX3_touchersOf := by unfold av_OK; decide +kernel
def tX3_isBroken : av_T := [(0, .aload_n 0, 1, 0), (1, .getfield 27, 4, 0), (4, .iload_n 1, 5, 0), (5, .iaload, 6, 0), (6, .iload_n 2, 7, 0), (7, .ishr, 8, 0), (8, .iconst 1, 9, 0), (9, .iand, 10, 0), (10, .iconst 1, 11, 0), (11, .if_icmp .ne 7, 14, 18), (14, .iconst 1, 15, 0), (15, .goto 4, 18, 19), (18, .iconst 0, 19, 0), (19, .ireturn, 20, 0)]
def mX3_isBroken : av_mi := (yX3_isBroken, cX3_isBroken, 3, (some .boolean), tX3_isBroken)
theorem oX3_isBroken : av_OK mX3_isBroken := by unfold av_OK; decide +kernel
def tX3_isMadeBy : av_T := [(0, .aload_n 0, 1, 0), (1, .getfield 24, 4, 0), (4, .iload_n 1, 5, 0), (5, .iaload, 6, 0), (6, .iload_n 2, 7, 0), (7, .iconst (-1), 8, 0), (8, .ixor, 9, 0), (9, .iand, 10, 0), (10, .ifCond .ne 7, 13, 17), (13, .iconst 1, 14, 0), (14, .goto 4, 17, 18), (17, .iconst 0, 18, 0), (18, .ireturn, 19, 0)]
def mX3_isMadeBy : av_mi := (yX3_isMadeBy, cX3_isMadeBy, 3, (some .boolean), tX3_isMadeBy)
theorem oX3_isMadeBy : av_OK mX3_isMadeBy := by unfold av_OK; decide +kernel
def tX3_isVertex : av_T := [(0, .aload_n 0, 1, 0), (1, .iload_n 1, 2, 0), (2, .iload_n 2, 3, 0), (3, .invokevirtual 81, 6, 0), (6, .ifCond .eq 18, 9, 24), (9, .aload_n 0, 10, 0), (10, .getfield 27, 13, 0), (13, .iload_n 1, 14, 0), (14, .iaload, 15, 0), (15, .iload_n 2, 16, 0), (16, .iand, 17, 0), (17, .ifCond .ne 7, 20, 24), (20, .iconst 1, 21, 0), (21, .goto 4, 24, 25), (24, .iconst 0, 25, 0), (25, .ireturn, 26, 0)]
def mX3_isVertex : av_mi := (yX3_isVertex, cX3_isVertex, 3, (some .boolean), tX3_isVertex)
theorem oX3_isVertex : av_OK mX3_isVertex := by unfold av_OK; decide +kernel
def tX3_isEndless : av_T := [(0, .iconst 0, 1, 0), (1, .istore_n 2, 2, 0), (2, .iload_n 2, 3, 0), (3, .aload_n 0, 4, 0), (4, .getfield 40, 7, 0), (7, .if_icmp .ge 22, 10, 29), (10, .aload_n 0, 11, 0), (11, .getfield 33, 14, 0), (14, .iload_n 2, 15, 0), (15, .iaload, 16, 0), (16, .iload_n 1, 17, 0), (17, .iand, 18, 0), (18, .ifCond .ne 5, 21, 23), (21, .iconst 1, 22, 0), (22, .ireturn, 23, 0), (23, .iinc 2 1, 26, 0), (26, .goto (-24), 29, 2), (29, .iconst 0, 30, 0), (30, .ireturn, 31, 0)]
def mX3_isEndless : av_mi := (yX3_isEndless, cX3_isEndless, 3, (some .boolean), tX3_isEndless)
theorem oX3_isEndless : av_OK mX3_isEndless := by unfold av_OK; decide +kernel
def tX3_order : av_T := [(0, .aload_n 0, 1, 0), (1, .getfield 9, 4, 0), (4, .iload_n 1, 5, 0), (5, .iaload, 6, 0), (6, .i2l, 7, 0), (7, .aload_n 0, 8, 0), (8, .getfield 21, 11, 0), (11, .iload_n 2, 12, 0), (12, .iaload, 13, 0), (13, .i2l, 14, 0), (14, .lmul, 15, 0), (15, .aload_n 0, 16, 0), (16, .getfield 9, 19, 0), (19, .iload_n 2, 20, 0), (20, .iaload, 21, 0), (21, .i2l, 22, 0), (22, .aload_n 0, 23, 0), (23, .getfield 21, 26, 0), (26, .iload_n 1, 27, 0), (27, .iaload, 28, 0), (28, .i2l, 29, 0), (29, .lmul, 30, 0), (30, .invokestatic 85, 33, 0), (33, .istore_n 3, 34, 0), (34, .iload_n 3, 35, 0), (35, .ifCond .eq 5, 38, 40), (38, .iload_n 3, 39, 0), (39, .ireturn, 40, 0), (40, .aload_n 0, 41, 0), (41, .getfield 15, 44, 0), (44, .iload_n 1, 45, 0), (45, .iaload, 46, 0), (46, .i2l, 47, 0), (47, .aload_n 0, 48, 0), (48, .getfield 21, 51, 0), (51, .iload_n 2, 52, 0), (52, .iaload, 53, 0), (53, .i2l, 54, 0), (54, .lmul, 55, 0), (55, .aload_n 0, 56, 0), (56, .getfield 15, 59, 0), (59, .iload_n 2, 60, 0), (60, .iaload, 61, 0), (61, .i2l, 62, 0), (62, .aload_n 0, 63, 0), (63, .getfield 21, 66, 0), (66, .iload_n 1, 67, 0), (67, .iaload, 68, 0), (68, .i2l, 69, 0), (69, .lmul, 70, 0), (70, .invokestatic 85, 73, 0), (73, .istore 4, 75, 0), (75, .iload 4, 77, 0), (77, .ifCond .eq 8, 80, 85), (80, .iload 4, 82, 0), (82, .goto 36, 85, 118), (85, .aload_n 0, 86, 0), (86, .getfield 18, 89, 0), (89, .iload_n 1, 90, 0), (90, .iaload, 91, 0), (91, .i2l, 92, 0), (92, .aload_n 0, 93, 0), (93, .getfield 21, 96, 0), (96, .iload_n 2, 97, 0), (97, .iaload, 98, 0), (98, .i2l, 99, 0), (99, .lmul, 100, 0), (100, .aload_n 0, 101, 0), (101, .getfield 18, 104, 0), (104, .iload_n 2, 105, 0), (105, .iaload, 106, 0), (106, .i2l, 107, 0), (107, .aload_n 0, 108, 0), (108, .getfield 21, 111, 0), (111, .iload_n 1, 112, 0), (112, .iaload, 113, 0), (113, .i2l, 114, 0), (114, .lmul, 115, 0), (115, .invokestatic 85, 118, 0), (118, .ireturn, 119, 0)]
def mX3_order : av_mi := (yX3_order, cX3_order, 5, (some .int), tX3_order)
theorem oX3_order : av_OK mX3_order := by unfold av_OK; decide +kernel
def tX4_empty : av_T := [(0, .aload_n 0, 1, 0), (1, .iconst 0, 2, 0), (2, .putfield 22, 5, 0), (5, .return_, 6, 0)]
def mX4_empty : av_mi := (yX4_empty, cX4_empty, 1, none, tX4_empty)
theorem oX4_empty : av_OK mX4_empty := by unfold av_OK; decide +kernel
def tX4_add : av_T := [(0, .aload_n 0, 1, 0), (1, .getfield 22, 4, 0), (4, .istore 4, 6, 0), (6, .iload 4, 8, 0), (8, .ifCond .le 23, 11, 31), (11, .aload_n 0, 12, 0), (12, .iload 4, 14, 0), (14, .iconst 1, 15, 0), (15, .isub, 16, 0), (16, .iload_n 1, 17, 0), (17, .iload_n 2, 18, 0), (18, .iload_n 3, 19, 0), (19, .invokevirtual 26, 22, 0), (22, .ifCond .le 9, 25, 31), (25, .iinc 4 (-1), 28, 0), (28, .goto (-22), 31, 6), (31, .iload 4, 33, 0), (33, .ifCond .le 21, 36, 54), (36, .aload_n 0, 37, 0), (37, .iload 4, 39, 0), (39, .iconst 1, 40, 0), (40, .isub, 41, 0), (41, .iload_n 1, 42, 0), (42, .iload_n 2, 43, 0), (43, .iload_n 3, 44, 0), (44, .invokevirtual 26, 47, 0), (47, .ifCond .ne 7, 50, 54), (50, .iconst 1, 51, 0), (51, .goto 4, 54, 55), (54, .iconst 0, 55, 0), (55, .istore 5, 57, 0), (57, .iload 5, 59, 0), (59, .ifCond .ne 15, 62, 74), (62, .aload_n 0, 63, 0), (63, .getfield 22, 66, 0), (66, .aload_n 0, 67, 0), (67, .getfield 7, 70, 0), (70, .arraylength, 71, 0), (71, .if_icmp .lt 4, 74, 75), (74, .return_, 75, 0), (75, .aload_n 0, 76, 0), (76, .getfield 22, 79, 0), (79, .istore 6, 81, 0), (81, .iload 6, 83, 0), (83, .iload 4, 85, 0), (85, .if_icmp .le 57, 88, 142), (88, .aload_n 0, 89, 0), (89, .getfield 7, 92, 0), (92, .iload 6, 94, 0), (94, .aload_n 0, 95, 0), (95, .getfield 7, 98, 0), (98, .iload 6, 100, 0), (100, .iconst 1, 101, 0), (101, .isub, 102, 0), (102, .iaload, 103, 0), (103, .iastore, 104, 0), (104, .aload_n 0, 105, 0), (105, .getfield 13, 108, 0), (108, .iload 6, 110, 0), (110, .aload_n 0, 111, 0), (111, .getfield 13, 114, 0), (114, .iload 6, 116, 0), (116, .iconst 1, 117, 0), (117, .isub, 118, 0), (118, .iaload, 119, 0), (119, .iastore, 120, 0), (120, .aload_n 0, 121, 0), (121, .getfield 16, 124, 0), (124, .iload 6, 126, 0), (126, .aload_n 0, 127, 0), (127, .getfield 16, 130, 0), (130, .iload 6, 132, 0), (132, .iconst 1, 133, 0), (133, .isub, 134, 0), (134, .iaload, 135, 0), (135, .iastore, 136, 0), (136, .iinc 6 (-1), 139, 0), (139, .goto (-58), 142, 81), (142, .aload_n 0, 143, 0), (143, .getfield 7, 146, 0), (146, .iload 4, 148, 0), (148, .iload_n 1, 149, 0), (149, .iastore, 150, 0), (150, .aload_n 0, 151, 0), (151, .getfield 13, 154, 0), (154, .iload 4, 156, 0), (156, .iload_n 2, 157, 0), (157, .iastore, 158, 0), (158, .aload_n 0, 159, 0), (159, .getfield 16, 162, 0), (162, .iload 4, 164, 0), (164, .iload_n 3, 165, 0), (165, .iastore, 166, 0), (166, .aload_n 0, 167, 0), (167, .dup, 168, 0), (168, .getfield 22, 171, 0), (171, .iconst 1, 172, 0), (172, .iadd, 173, 0), (173, .putfield 22, 176, 0), (176, .return_, 177, 0)]
def mX4_add : av_mi := (yX4_add, cX4_add, 7, none, tX4_add)
theorem oX4_add : av_OK mX4_add := by unfold av_OK; decide +kernel
def tX4_side : av_T := [(0, .aload_n 0, 1, 0), (1, .getfield 7, 4, 0), (4, .iload_n 1, 5, 0), (5, .iaload, 6, 0), (6, .i2l, 7, 0), (7, .iload 4, 9, 0), (9, .i2l, 10, 0), (10, .lmul, 11, 0), (11, .iload_n 2, 12, 0), (12, .i2l, 13, 0), (13, .aload_n 0, 14, 0), (14, .getfield 16, 17, 0), (17, .iload_n 1, 18, 0), (18, .iaload, 19, 0), (19, .i2l, 20, 0), (20, .lmul, 21, 0), (21, .invokestatic 30, 24, 0), (24, .istore 5, 26, 0), (26, .iload 5, 28, 0), (28, .ifCond .eq 8, 31, 36), (31, .iload 5, 33, 0), (33, .goto 27, 36, 60), (36, .aload_n 0, 37, 0), (37, .getfield 13, 40, 0), (40, .iload_n 1, 41, 0), (41, .iaload, 42, 0), (42, .i2l, 43, 0), (43, .iload 4, 45, 0), (45, .i2l, 46, 0), (46, .lmul, 47, 0), (47, .iload_n 3, 48, 0), (48, .i2l, 49, 0), (49, .aload_n 0, 50, 0), (50, .getfield 16, 53, 0), (53, .iload_n 1, 54, 0), (54, .iaload, 55, 0), (55, .i2l, 56, 0), (56, .lmul, 57, 0), (57, .invokestatic 30, 60, 0), (60, .ireturn, 61, 0)]
def mX4_side : av_mi := (yX4_side, cX4_side, 6, (some .int), tX4_side)
theorem oX4_side : av_OK mX4_side := by unfold av_OK; decide +kernel
def tX4_turn : av_T := [(0, .aload_n 0, 1, 0), (1, .getfield 13, 4, 0), (4, .iload_n 2, 5, 0), (5, .iaload, 6, 0), (6, .i2l, 7, 0), (7, .iload 5, 9, 0), (9, .i2l, 10, 0), (10, .lmul, 11, 0), (11, .aload_n 0, 12, 0), (12, .getfield 16, 15, 0), (15, .iload_n 2, 16, 0), (16, .iaload, 17, 0), (17, .i2l, 18, 0), (18, .iload 4, 20, 0), (20, .i2l, 21, 0), (21, .lmul, 22, 0), (22, .lsub, 23, 0), (23, .lstore 6, 25, 0), (25, .aload_n 0, 26, 0), (26, .getfield 7, 29, 0), (29, .iload_n 2, 30, 0), (30, .iaload, 31, 0), (31, .i2l, 32, 0), (32, .iload 5, 34, 0), (34, .i2l, 35, 0), (35, .lmul, 36, 0), (36, .aload_n 0, 37, 0), (37, .getfield 16, 40, 0), (40, .iload_n 2, 41, 0), (41, .iaload, 42, 0), (42, .i2l, 43, 0), (43, .iload_n 3, 44, 0), (44, .i2l, 45, 0), (45, .lmul, 46, 0), (46, .lsub, 47, 0), (47, .lstore 8, 49, 0), (49, .aload_n 0, 50, 0), (50, .getfield 7, 53, 0), (53, .iload_n 2, 54, 0), (54, .iaload, 55, 0), (55, .i2l, 56, 0), (56, .iload 4, 58, 0), (58, .i2l, 59, 0), (59, .lmul, 60, 0), (60, .aload_n 0, 61, 0), (61, .getfield 13, 64, 0), (64, .iload_n 2, 65, 0), (65, .iaload, 66, 0), (66, .i2l, 67, 0), (67, .iload_n 3, 68, 0), (68, .i2l, 69, 0), (69, .lmul, 70, 0), (70, .lsub, 71, 0), (71, .lstore 10, 73, 0), (73, .aload_n 0, 74, 0), (74, .getfield 7, 77, 0), (77, .iload_n 1, 78, 0), (78, .iaload, 79, 0), (79, .i2l, 80, 0), (80, .lload 6, 82, 0), (82, .lmul, 83, 0), (83, .aload_n 0, 84, 0), (84, .getfield 13, 87, 0), (87, .iload_n 1, 88, 0), (88, .iaload, 89, 0), (89, .i2l, 90, 0), (90, .lload 8, 92, 0), (92, .lmul, 93, 0), (93, .lsub, 94, 0), (94, .aload_n 0, 95, 0), (95, .getfield 16, 98, 0), (98, .iload_n 1, 99, 0), (99, .iaload, 100, 0), (100, .i2l, 101, 0), (101, .lload 10, 103, 0), (103, .lmul, 104, 0), (104, .ladd, 105, 0), (105, .lreturn, 106, 0)]
def mX4_turn : av_mi := (yX4_turn, cX4_turn, 12, (some .long), tX4_turn)
theorem oX4_turn : av_OK mX4_turn := by unfold av_OK; decide +kernel
def tX4_wrap : av_T := [(0, .aload_n 0, 1, 0), (1, .iconst 0, 2, 0), (2, .putfield 36, 5, 0), (5, .iconst 0, 6, 0), (6, .istore_n 1, 7, 0), (7, .iload_n 1, 8, 0), (8, .aload_n 0, 9, 0), (9, .getfield 22, 12, 0), (12, .if_icmp .ge 15, 15, 27), (15, .aload_n 0, 16, 0), (16, .iload_n 1, 17, 0), (17, .iconst 2, 18, 0), (18, .invokevirtual 39, 21, 0), (21, .iinc 1 1, 24, 0), (24, .goto (-17), 27, 7), (27, .aload_n 0, 28, 0), (28, .getfield 36, 31, 0), (31, .iconst 1, 32, 0), (32, .iadd, 33, 0), (33, .istore_n 1, 34, 0), (34, .aload_n 0, 35, 0), (35, .getfield 22, 38, 0), (38, .iconst 2, 39, 0), (39, .isub, 40, 0), (40, .istore_n 2, 41, 0), (41, .iload_n 2, 42, 0), (42, .ifCond .lt 15, 45, 57), (45, .aload_n 0, 46, 0), (46, .iload_n 2, 47, 0), (47, .iload_n 1, 48, 0), (48, .invokevirtual 39, 51, 0), (51, .iinc 2 (-1), 54, 0), (54, .goto (-13), 57, 41), (57, .aload_n 0, 58, 0), (58, .getfield 22, 61, 0), (61, .iconst 1, 62, 0), (62, .if_icmp .le 13, 65, 75), (65, .aload_n 0, 66, 0), (66, .dup, 67, 0), (67, .getfield 36, 70, 0), (70, .iconst 1, 71, 0), (71, .isub, 72, 0), (72, .putfield 36, 75, 0), (75, .return_, 76, 0)]
def mX4_wrap : av_mi := (yX4_wrap, cX4_wrap, 3, none, tX4_wrap)
theorem oX4_wrap : av_OK mX4_wrap := by unfold av_OK; decide +kernel
def tX4_extend : av_T := [(0, .aload_n 0, 1, 0), (1, .getfield 36, 4, 0), (4, .iload_n 2, 5, 0), (5, .if_icmp .lt 65, 8, 70), (8, .aload_n 0, 9, 0), (9, .aload_n 0, 10, 0), (10, .getfield 19, 13, 0), (13, .aload_n 0, 14, 0), (14, .getfield 36, 17, 0), (17, .iconst 2, 18, 0), (18, .isub, 19, 0), (19, .iaload, 20, 0), (20, .aload_n 0, 21, 0), (21, .getfield 19, 24, 0), (24, .aload_n 0, 25, 0), (25, .getfield 36, 28, 0), (28, .iconst 1, 29, 0), (29, .isub, 30, 0), (30, .iaload, 31, 0), (31, .aload_n 0, 32, 0), (32, .getfield 7, 35, 0), (35, .iload_n 1, 36, 0), (36, .iaload, 37, 0), (37, .aload_n 0, 38, 0), (38, .getfield 13, 41, 0), (41, .iload_n 1, 42, 0), (42, .iaload, 43, 0), (43, .aload_n 0, 44, 0), (44, .getfield 16, 47, 0), (47, .iload_n 1, 48, 0), (48, .iaload, 49, 0), (49, .invokevirtual 43, 52, 0), (52, .lconst 0, 53, 0), (53, .lcmp, 54, 0), (54, .ifCond .gt 16, 57, 70), (57, .aload_n 0, 58, 0), (58, .dup, 59, 0), (59, .getfield 36, 62, 0), (62, .iconst 1, 63, 0), (63, .isub, 64, 0), (64, .putfield 36, 67, 0), (67, .goto (-67), 70, 0), (70, .aload_n 0, 71, 0), (71, .getfield 36, 74, 0), (74, .aload_n 0, 75, 0), (75, .getfield 19, 78, 0), (78, .arraylength, 79, 0), (79, .if_icmp .ge 23, 82, 102), (82, .aload_n 0, 83, 0), (83, .getfield 19, 86, 0), (86, .aload_n 0, 87, 0), (87, .getfield 36, 90, 0), (90, .iload_n 1, 91, 0), (91, .iastore, 92, 0), (92, .aload_n 0, 93, 0), (93, .dup, 94, 0), (94, .getfield 36, 97, 0), (97, .iconst 1, 98, 0), (98, .iadd, 99, 0), (99, .putfield 36, 102, 0), (102, .return_, 103, 0)]
def mX4_extend : av_mi := (yX4_extend, cX4_extend, 3, none, tX4_extend)
theorem oX4_extend : av_OK mX4_extend := by unfold av_OK; decide +kernel
def tX4_size : av_T := [(0, .aload_n 0, 1, 0), (1, .getfield 36, 4, 0), (4, .ireturn, 5, 0)]
def mX4_size : av_mi := (yX4_size, cX4_size, 1, (some .int), tX4_size)
theorem oX4_size : av_OK mX4_size := by unfold av_OK; decide +kernel
def tX4_has : av_T := [(0, .iload_n 1, 1, 0), (1, .ifCond .lt 15, 4, 16), (4, .iload_n 1, 5, 0), (5, .aload_n 0, 6, 0), (6, .getfield 36, 9, 0), (9, .if_icmp .ge 7, 12, 16), (12, .iconst 1, 13, 0), (13, .goto 4, 16, 17), (16, .iconst 0, 17, 0), (17, .ireturn, 18, 0)]
def mX4_has : av_mi := (yX4_has, cX4_has, 2, (some .boolean), tX4_has)
theorem oX4_has : av_OK mX4_has := by unfold av_OK; decide +kernel
def tX4_next : av_T := [(0, .iload_n 1, 1, 0), (1, .iconst 1, 2, 0), (2, .iadd, 3, 0), (3, .aload_n 0, 4, 0), (4, .getfield 36, 7, 0), (7, .if_icmp .ge 9, 10, 16), (10, .iload_n 1, 11, 0), (11, .iconst 1, 12, 0), (12, .iadd, 13, 0), (13, .goto 4, 16, 17), (16, .iconst 0, 17, 0), (17, .ireturn, 18, 0)]
def mX4_next : av_mi := (yX4_next, cX4_next, 2, (some .int), tX4_next)
theorem oX4_next : av_OK mX4_next := by unfold av_OK; decide +kernel
def tX4_xOf : av_T := [(0, .aload_n 0, 1, 0), (1, .getfield 7, 4, 0), (4, .aload_n 0, 5, 0), (5, .getfield 19, 8, 0), (8, .iload_n 1, 9, 0), (9, .iaload, 10, 0), (10, .iaload, 11, 0), (11, .ireturn, 12, 0)]
def mX4_xOf : av_mi := (yX4_xOf, cX4_xOf, 2, (some .int), tX4_xOf)
theorem oX4_xOf : av_OK mX4_xOf := by unfold av_OK; decide +kernel
def tX4_yOf : av_T := [(0, .aload_n 0, 1, 0), (1, .getfield 13, 4, 0), (4, .aload_n 0, 5, 0), (5, .getfield 19, 8, 0), (8, .iload_n 1, 9, 0), (9, .iaload, 10, 0), (10, .iaload, 11, 0), (11, .ireturn, 12, 0)]
def mX4_yOf : av_mi := (yX4_yOf, cX4_yOf, 2, (some .int), tX4_yOf)
theorem oX4_yOf : av_OK mX4_yOf := by unfold av_OK; decide +kernel
def tX4_wOf : av_T := [(0, .aload_n 0, 1, 0), (1, .getfield 16, 4, 0), (4, .aload_n 0, 5, 0), (5, .getfield 19, 8, 0), (8, .iload_n 1, 9, 0), (9, .iaload, 10, 0), (10, .iaload, 11, 0), (11, .ireturn, 12, 0)]
def mX4_wOf : av_mi := (yX4_wOf, cX4_wOf, 2, (some .int), tX4_wOf)
theorem oX4_wOf : av_OK mX4_wOf := by unfold av_OK; decide +kernel
def tX4_cornerAt : av_T := [(0, .iconst 0, 1, 0), (1, .istore 4, 3, 0), (3, .iload 4, 5, 0), (5, .aload_n 0, 6, 0), (6, .getfield 36, 9, 0), (9, .if_icmp .ge 29, 12, 38), (12, .aload_n 0, 13, 0), (13, .aload_n 0, 14, 0), (14, .getfield 19, 17, 0), (17, .iload 4, 19, 0), (19, .iaload, 20, 0), (20, .iload_n 1, 21, 0), (21, .iload_n 2, 22, 0), (22, .iload_n 3, 23, 0), (23, .invokevirtual 26, 26, 0), (26, .ifCond .ne 6, 29, 32), (29, .iload 4, 31, 0), (31, .ireturn, 32, 0), (32, .iinc 4 1, 35, 0), (35, .goto (-32), 38, 3), (38, .iconst (-1), 39, 0), (39, .ireturn, 40, 0)]
def mX4_cornerAt : av_mi := (yX4_cornerAt, cX4_cornerAt, 5, (some .int), tX4_cornerAt)
theorem oX4_cornerAt : av_OK mX4_cornerAt := by unfold av_OK; decide +kernel
def tX4_holds : av_T := [(0, .aload_n 0, 1, 0), (1, .getfield 22, 4, 0), (4, .ifCond .eq 30, 7, 34), (7, .aload_n 0, 8, 0), (8, .iconst 0, 9, 0), (9, .iload_n 1, 10, 0), (10, .iload_n 2, 11, 0), (11, .iload_n 3, 12, 0), (12, .invokevirtual 26, 15, 0), (15, .ifCond .gt 19, 18, 34), (18, .aload_n 0, 19, 0), (19, .aload_n 0, 20, 0), (20, .getfield 22, 23, 0), (23, .iconst 1, 24, 0), (24, .isub, 25, 0), (25, .iload_n 1, 26, 0), (26, .iload_n 2, 27, 0), (27, .iload_n 3, 28, 0), (28, .invokevirtual 26, 31, 0), (31, .ifCond .ge 5, 34, 36), (34, .iconst 0, 35, 0), (35, .ireturn, 36, 0), (36, .iconst 0, 37, 0), (37, .istore 4, 39, 0), (39, .iload 4, 41, 0), (41, .aload_n 0, 42, 0), (42, .getfield 36, 45, 0), (45, .if_icmp .ge 41, 48, 86), (48, .aload_n 0, 49, 0), (49, .aload_n 0, 50, 0), (50, .getfield 19, 53, 0), (53, .iload 4, 55, 0), (55, .iaload, 56, 0), (56, .aload_n 0, 57, 0), (57, .getfield 19, 60, 0), (60, .aload_n 0, 61, 0), (61, .iload 4, 63, 0), (63, .invokevirtual 47, 66, 0), (66, .iaload, 67, 0), (67, .iload_n 1, 68, 0), (68, .iload_n 2, 69, 0), (69, .iload_n 3, 70, 0), (70, .invokevirtual 43, 73, 0), (73, .lconst 0, 74, 0), (74, .lcmp, 75, 0), (75, .ifCond .ge 5, 78, 80), (78, .iconst 0, 79, 0), (79, .ireturn, 80, 0), (80, .iinc 4 1, 83, 0), (83, .goto (-44), 86, 39), (86, .iconst 1, 87, 0), (87, .ireturn, 88, 0)]
def mX4_holds : av_mi := (yX4_holds, cX4_holds, 5, (some .boolean), tX4_holds)
theorem oX4_holds : av_OK mX4_holds := by unfold av_OK; decide +kernel
def tX4_cornersMissing : av_T := [(0, .iconst 0, 1, 0), (1, .istore_n 2, 2, 0), (2, .iconst 0, 3, 0), (3, .istore_n 3, 4, 0), (4, .iload_n 3, 5, 0), (5, .aload_n 1, 6, 0), (6, .getfield 36, 9, 0), (9, .if_icmp .ge 34, 12, 43), (12, .aload_n 0, 13, 0), (13, .aload_n 1, 14, 0), (14, .iload_n 3, 15, 0), (15, .invokevirtual 51, 18, 0), (18, .aload_n 1, 19, 0), (19, .iload_n 3, 20, 0), (20, .invokevirtual 54, 23, 0), (23, .aload_n 1, 24, 0), (24, .iload_n 3, 25, 0), (25, .invokevirtual 57, 28, 0), (28, .invokevirtual 60, 31, 0), (31, .ifCond .ne 6, 34, 37), (34, .iinc 2 1, 37, 0), (37, .iinc 3 1, 40, 0), (40, .goto (-36), 43, 4), (43, .iload_n 2, 44, 0), (44, .ireturn, 45, 0)]
def mX4_cornersMissing : av_mi := (yX4_cornersMissing, cX4_cornersMissing, 4, (some .int), tX4_cornersMissing)
theorem oX4_cornersMissing : av_OK mX4_cornersMissing := by unfold av_OK; decide +kernel
def tX4_isRoundOrigin : av_T := [(0, .iconst 0, 1, 0), (1, .istore_n 1, 2, 0), (2, .iload_n 1, 3, 0), (3, .aload_n 0, 4, 0), (4, .getfield 36, 7, 0), (7, .if_icmp .ge 39, 10, 46), (10, .aload_n 0, 11, 0), (11, .aload_n 0, 12, 0), (12, .getfield 19, 15, 0), (15, .iload_n 1, 16, 0), (16, .iaload, 17, 0), (17, .aload_n 0, 18, 0), (18, .getfield 19, 21, 0), (21, .aload_n 0, 22, 0), (22, .iload_n 1, 23, 0), (23, .invokevirtual 47, 26, 0), (26, .iaload, 27, 0), (27, .iconst 0, 28, 0), (28, .iconst 0, 29, 0), (29, .iconst 1, 30, 0), (30, .invokevirtual 43, 33, 0), (33, .lconst 0, 34, 0), (34, .lcmp, 35, 0), (35, .ifCond .gt 5, 38, 40), (38, .iconst 0, 39, 0), (39, .ireturn, 40, 0), (40, .iinc 1 1, 43, 0), (43, .goto (-41), 46, 2), (46, .aload_n 0, 47, 0), (47, .getfield 36, 50, 0), (50, .ifCond .le 7, 53, 57), (53, .iconst 1, 54, 0), (54, .goto 4, 57, 58), (57, .iconst 0, 58, 0), (58, .ireturn, 59, 0)]
def mX4_isRoundOrigin : av_mi := (yX4_isRoundOrigin, cX4_isRoundOrigin, 2, (some .boolean), tX4_isRoundOrigin)
theorem oX4_isRoundOrigin : av_OK mX4_isRoundOrigin := by unfold av_OK; decide +kernel
def tX4_growth : av_T := [(0, .lconst 0, 1, 0), (1, .lstore_n 3, 2, 0), (2, .lconst 1, 3, 0), (3, .lstore 5, 5, 0), (5, .iconst 0, 6, 0), (6, .istore 7, 8, 0), (8, .iload 7, 10, 0), (10, .aload_n 0, 11, 0), (11, .getfield 36, 14, 0), (14, .if_icmp .ge 247, 17, 261), (17, .aload_n 0, 18, 0), (18, .getfield 19, 21, 0), (21, .iload 7, 23, 0), (23, .iaload, 24, 0), (24, .istore 8, 26, 0), (26, .aload_n 0, 27, 0), (27, .getfield 19, 30, 0), (30, .aload_n 0, 31, 0), (31, .iload 7, 33, 0), (33, .invokevirtual 47, 36, 0), (36, .iaload, 37, 0), (37, .istore 9, 39, 0), (39, .aload_n 0, 40, 0), (40, .getfield 16, 43, 0), (43, .iload 8, 45, 0), (45, .iaload, 46, 0), (46, .i2l, 47, 0), (47, .aload_n 0, 48, 0), (48, .getfield 13, 51, 0), (51, .iload 9, 53, 0), (53, .iaload, 54, 0), (54, .i2l, 55, 0), (55, .lmul, 56, 0), (56, .aload_n 0, 57, 0), (57, .getfield 13, 60, 0), (60, .iload 8, 62, 0), (62, .iaload, 63, 0), (63, .i2l, 64, 0), (64, .aload_n 0, 65, 0), (65, .getfield 16, 68, 0), (68, .iload 9, 70, 0), (70, .iaload, 71, 0), (71, .i2l, 72, 0), (72, .lmul, 73, 0), (73, .lsub, 74, 0), (74, .lstore 10, 76, 0), (76, .aload_n 0, 77, 0), (77, .getfield 7, 80, 0), (80, .iload 8, 82, 0), (82, .iaload, 83, 0), (83, .i2l, 84, 0), (84, .aload_n 0, 85, 0), (85, .getfield 16, 88, 0), (88, .iload 9, 90, 0), (90, .iaload, 91, 0), (91, .i2l, 92, 0), (92, .lmul, 93, 0), (93, .aload_n 0, 94, 0), (94, .getfield 16, 97, 0), (97, .iload 8, 99, 0), (99, .iaload, 100, 0), (100, .i2l, 101, 0), (101, .aload_n 0, 102, 0), (102, .getfield 7, 105, 0), (105, .iload 9, 107, 0), (107, .iaload, 108, 0), (108, .i2l, 109, 0), (109, .lmul, 110, 0), (110, .lsub, 111, 0), (111, .lstore 12, 113, 0), (113, .aload_n 0, 114, 0), (114, .getfield 7, 117, 0), (117, .iload 8, 119, 0), (119, .iaload, 120, 0), (120, .i2l, 121, 0), (121, .aload_n 0, 122, 0), (122, .getfield 13, 125, 0), (125, .iload 9, 127, 0), (127, .iaload, 128, 0), (128, .i2l, 129, 0), (129, .lmul, 130, 0), (130, .aload_n 0, 131, 0), (131, .getfield 13, 134, 0), (134, .iload 8, 136, 0), (136, .iaload, 137, 0), (137, .i2l, 138, 0), (138, .aload_n 0, 139, 0), (139, .getfield 7, 142, 0), (142, .iload 9, 144, 0), (144, .iaload, 145, 0), (145, .i2l, 146, 0), (146, .lmul, 147, 0), (147, .lsub, 148, 0), (148, .lstore 14, 150, 0), (150, .lload 10, 152, 0), (152, .lload 12, 154, 0), (154, .invokestatic 64, 157, 0), (157, .lload 14, 159, 0), (159, .invokestatic 64, 162, 0), (162, .lstore 16, 164, 0), (164, .lload 16, 166, 0), (166, .lconst 0, 167, 0), (167, .lcmp, 168, 0), (168, .ifCond .eq 87, 171, 255), (171, .lload 14, 173, 0), (173, .lconst 0, 174, 0), (174, .lcmp, 175, 0), (175, .ifCond .gt 6, 178, 181), (178, .goto 77, 181, 255), (181, .lload 14, 183, 0), (183, .lload 16, 185, 0), (185, .ldiv, 186, 0), (186, .lstore 18, 188, 0), (188, .iconst 0, 189, 0), (189, .istore 20, 191, 0), (191, .iload 20, 193, 0), (193, .aload_n 1, 194, 0), (194, .getfield 36, 197, 0), (197, .if_icmp .ge 58, 200, 255), (200, .lload 10, 202, 0), (202, .lload 16, 204, 0), (204, .ldiv, 205, 0), (205, .aload_n 1, 206, 0), (206, .iload 20, 208, 0), (208, .invokevirtual 51, 211, 0), (211, .i2l, 212, 0), (212, .lmul, 213, 0), (213, .lload 12, 215, 0), (215, .lload 16, 217, 0), (217, .ldiv, 218, 0), (218, .aload_n 1, 219, 0), (219, .iload 20, 221, 0), (221, .invokevirtual 54, 224, 0), (224, .i2l, 225, 0), (225, .lmul, 226, 0), (226, .ladd, 227, 0), (227, .lstore 21, 229, 0), (229, .lload 21, 231, 0), (231, .lload 5, 233, 0), (233, .lmul, 234, 0), (234, .lload_n 3, 235, 0), (235, .lload 18, 237, 0), (237, .lmul, 238, 0), (238, .lcmp, 239, 0), (239, .ifCond .le 10, 242, 249), (242, .lload 21, 244, 0), (244, .lstore_n 3, 245, 0), (245, .lload 18, 247, 0), (247, .lstore 5, 249, 0), (249, .iinc 20 1, 252, 0), (252, .goto (-61), 255, 191), (255, .iinc 7 1, 258, 0), (258, .goto (-250), 261, 8), (261, .lload_n 3, 262, 0), (262, .lload 5, 264, 0), (264, .iload_n 2, 265, 0), (265, .invokestatic 70, 268, 0), (268, .lreturn, 269, 0)]
def mX4_growth : av_mi := (yX4_growth, cX4_growth, 23, (some .long), tX4_growth)
theorem oX4_growth : av_OK mX4_growth := by unfold av_OK; decide +kernel
def tX5_inner : av_T := [(0, .aload_n 0, 1, 0), (1, .getfield 18, 4, 0), (4, .ireturn, 5, 0)]
def mX5_inner : av_mi := (yX5_inner, cX5_inner, 1, (some .int), tX5_inner)
theorem oX5_inner : av_OK mX5_inner := by unfold av_OK; decide +kernel
def tX5_scale : av_T := [(0, .aload_n 0, 1, 0), (1, .getfield 22, 4, 0), (4, .ireturn, 5, 0)]
def mX5_scale : av_mi := (yX5_scale, cX5_scale, 1, (some .int), tX5_scale)
theorem oX5_scale : av_OK mX5_scale := by unfold av_OK; decide +kernel
def tX5_resize : av_T := [(0, .aload_n 0, 1, 0), (1, .getfield 18, 4, 0), (4, .istore_n 3, 5, 0), (5, .aload_n 0, 6, 0), (6, .iload_n 1, 7, 0), (7, .putfield 18, 10, 0), (10, .aload_n 0, 11, 0), (11, .iload_n 2, 12, 0), (12, .putfield 22, 15, 0), (15, .iload_n 3, 16, 0), (16, .ireturn, 17, 0)]
def mX5_resize : av_mi := (yX5_resize, cX5_resize, 4, (some .int), tX5_resize)
theorem oX5_resize : av_OK mX5_resize := by unfold av_OK; decide +kernel
def tX5_put : av_T := [(0, .iload_n 1, 1, 0), (1, .ifCond .eq 10, 4, 11), (4, .aload_n 0, 5, 0), (5, .getfield 9, 8, 0), (8, .goto 7, 11, 15), (11, .aload_n 0, 12, 0), (12, .getfield 15, 15, 0), (15, .astore 4, 17, 0), (17, .aload 4, 19, 0), (19, .iload_n 2, 20, 0), (20, .iaload, 21, 0), (21, .istore 5, 23, 0), (23, .aload 4, 25, 0), (25, .iload_n 2, 26, 0), (26, .iload_n 3, 27, 0), (27, .iastore, 28, 0), (28, .iload 5, 30, 0), (30, .ireturn, 31, 0)]
def mX5_put : av_mi := (yX5_put, cX5_put, 6, (some .int), tX5_put)
theorem oX5_put : av_OK mX5_put := by unfold av_OK; decide +kernel
def tX5_firstWrong : av_T := [(0, .aload_n 1, 1, 0), (1, .invokevirtual 25, 4, 0), (4, .invokevirtual 31, 7, 0), (7, .istore_n 2, 8, 0), (8, .iconst 0, 9, 0), (9, .istore_n 3, 10, 0), (10, .iload_n 3, 11, 0), (11, .iload_n 2, 12, 0), (12, .if_icmp .ge 54, 15, 66), (15, .iconst 0, 16, 0), (16, .istore 4, 18, 0), (18, .iload 4, 20, 0), (20, .iload_n 2, 21, 0), (21, .if_icmp .ge 39, 24, 60), (24, .aload_n 0, 25, 0), (25, .iload_n 3, 26, 0), (26, .iload 4, 28, 0), (28, .invokevirtual 37, 31, 0), (31, .aload_n 0, 32, 0), (32, .getfield 22, 35, 0), (35, .aload_n 1, 36, 0), (36, .iload_n 3, 37, 0), (37, .iload 4, 39, 0), (39, .invokevirtual 41, 42, 0), (42, .imul, 43, 0), (43, .if_icmp .eq 11, 46, 54), (46, .bipush 100, 48, 0), (48, .iload_n 3, 49, 0), (49, .imul, 50, 0), (50, .iload 4, 52, 0), (52, .iadd, 53, 0), (53, .ireturn, 54, 0), (54, .iinc 4 1, 57, 0), (57, .goto (-39), 60, 18), (60, .iinc 3 1, 63, 0), (63, .goto (-53), 66, 10), (66, .ldc 44, 68, 0), (68, .ireturn, 69, 0)]
def mX5_firstWrong : av_mi := (yX5_firstWrong, cX5_firstWrong, 5, (some .int), tX5_firstWrong)
theorem oX5_firstWrong : av_OK mX5_firstWrong := by unfold av_OK; decide +kernel
def tX5_product : av_T := [(0, .iconst 0, 1, 0), (1, .istore_n 3, 2, 0), (2, .iconst 0, 3, 0), (3, .istore 4, 5, 0), (5, .iload 4, 7, 0), (7, .aload_n 0, 8, 0), (8, .getfield 18, 11, 0), (11, .if_icmp .ge 37, 14, 48), (14, .iload_n 3, 15, 0), (15, .aload_n 0, 16, 0), (16, .getfield 9, 19, 0), (19, .iload_n 1, 20, 0), (20, .bipush 8, 22, 0), (22, .imul, 23, 0), (23, .iload 4, 25, 0), (25, .iadd, 26, 0), (26, .iaload, 27, 0), (27, .aload_n 0, 28, 0), (28, .getfield 15, 31, 0), (31, .iload 4, 33, 0), (33, .bipush 12, 35, 0), (35, .imul, 36, 0), (36, .iload_n 2, 37, 0), (37, .iadd, 38, 0), (38, .iaload, 39, 0), (39, .imul, 40, 0), (40, .iadd, 41, 0), (41, .istore_n 3, 42, 0), (42, .iinc 4 1, 45, 0), (45, .goto (-40), 48, 5), (48, .iload_n 3, 49, 0), (49, .ireturn, 50, 0)]
def mX5_product : av_mi := (yX5_product, cX5_product, 5, (some .int), tX5_product)
theorem oX5_product : av_OK mX5_product := by unfold av_OK; decide +kernel
def tX6_size : av_T := [(0, .aload_n 0, 1, 0), (1, .getfield 24, 4, 0), (4, .ireturn, 5, 0)]
def mX6_size : av_mi := (yX6_size, cX6_size, 1, (some .int), tX6_size)
theorem oX6_size : av_OK mX6_size := by unfold av_OK; decide +kernel
def tX6_onSet : av_T := [(0, .aload_n 0, 1, 0), (1, .getfield 28, 4, 0), (4, .ireturn, 5, 0)]
def mX6_onSet : av_mi := (yX6_onSet, cX6_onSet, 1, (some .int), tX6_onSet)
theorem oX6_onSet : av_OK mX6_onSet := by unfold av_OK; decide +kernel
def tX6_has : av_T := [(0, .iload_n 1, 1, 0), (1, .ifCond .lt 15, 4, 16), (4, .iload_n 1, 5, 0), (5, .aload_n 0, 6, 0), (6, .getfield 24, 9, 0), (9, .if_icmp .ge 7, 12, 16), (12, .iconst 1, 13, 0), (13, .goto 4, 16, 17), (16, .iconst 0, 17, 0), (17, .ireturn, 18, 0)]
def mX6_has : av_mi := (yX6_has, cX6_has, 2, (some .boolean), tX6_has)
theorem oX6_has : av_OK mX6_has := by unfold av_OK; decide +kernel
def tX6_isOn : av_T := [(0, .aload_n 0, 1, 0), (1, .getfield 28, 4, 0), (4, .iload_n 1, 5, 0), (5, .ishr, 6, 0), (6, .iconst 1, 7, 0), (7, .iand, 8, 0), (8, .iconst 1, 9, 0), (9, .if_icmp .ne 7, 12, 16), (12, .iconst 1, 13, 0), (13, .goto 4, 16, 17), (16, .iconst 0, 17, 0), (17, .ireturn, 18, 0)]
def mX6_isOn : av_mi := (yX6_isOn, cX6_isOn, 2, (some .boolean), tX6_isOn)
theorem oX6_isOn : av_OK mX6_isOn := by unfold av_OK; decide +kernel
def tX6_part : av_T := [(0, .iload_n 2, 1, 0), (1, .tableswitch 59 0 3 #[31, 38, 45, 52], 32, 0), (32, .aload_n 0, 33, 0), (33, .getfield 9, 36, 0), (36, .iload_n 1, 37, 0), (37, .iaload, 38, 0), (38, .ireturn, 39, 0), (39, .aload_n 0, 40, 0), (40, .getfield 15, 43, 0), (43, .iload_n 1, 44, 0), (44, .iaload, 45, 0), (45, .ireturn, 46, 0), (46, .aload_n 0, 47, 0), (47, .getfield 18, 50, 0), (50, .iload_n 1, 51, 0), (51, .iaload, 52, 0), (52, .ireturn, 53, 0), (53, .aload_n 0, 54, 0), (54, .getfield 21, 57, 0), (57, .iload_n 1, 58, 0), (58, .iaload, 59, 0), (59, .ireturn, 60, 0), (60, .aload_n 0, 61, 0), (61, .iload_n 1, 62, 0), (62, .invokevirtual 31, 65, 0), (65, .ifCond .eq 7, 68, 72), (68, .iconst 1, 69, 0), (69, .goto 4, 72, 73), (72, .iconst 0, 73, 0), (73, .ireturn, 74, 0)]
def mX6_part : av_mi := (yX6_part, cX6_part, 3, (some .int), tX6_part)
theorem oX6_part : av_OK mX6_part := by unfold av_OK; decide +kernel
def tX6_add : av_T := [(0, .aload_n 0, 1, 0), (1, .getfield 24, 4, 0), (4, .istore 5, 6, 0), (6, .aload_n 0, 7, 0), (7, .getfield 9, 10, 0), (10, .iload 5, 12, 0), (12, .iload_n 1, 13, 0), (13, .iastore, 14, 0), (14, .aload_n 0, 15, 0), (15, .getfield 15, 18, 0), (18, .iload 5, 20, 0), (20, .iload_n 2, 21, 0), (21, .iastore, 22, 0), (22, .aload_n 0, 23, 0), (23, .getfield 18, 26, 0), (26, .iload 5, 28, 0), (28, .iload_n 3, 29, 0), (29, .iastore, 30, 0), (30, .aload_n 0, 31, 0), (31, .getfield 21, 34, 0), (34, .iload 5, 36, 0), (36, .iload 4, 38, 0), (38, .iastore, 39, 0), (39, .aload_n 0, 40, 0), (40, .dup, 41, 0), (41, .getfield 24, 44, 0), (44, .iconst 1, 45, 0), (45, .iadd, 46, 0), (46, .putfield 24, 49, 0), (49, .aload_n 0, 50, 0), (50, .iload 5, 52, 0), (52, .iconst 1, 53, 0), (53, .invokevirtual 35, 56, 0), (56, .pop, 57, 0), (57, .iload 5, 59, 0), (59, .ireturn, 60, 0)]
def mX6_add : av_mi := (yX6_add, cX6_add, 6, (some .int), tX6_add)
theorem oX6_add : av_OK mX6_add := by unfold av_OK; decide +kernel
def tX6_push : av_T := [(0, .aload_n 0, 1, 0), (1, .getfield 21, 4, 0), (4, .iload_n 1, 5, 0), (5, .iaload, 6, 0), (6, .istore_n 3, 7, 0), (7, .aload_n 0, 8, 0), (8, .getfield 21, 11, 0), (11, .iload_n 1, 12, 0), (12, .iload_n 2, 13, 0), (13, .iastore, 14, 0), (14, .iload_n 3, 15, 0), (15, .ireturn, 16, 0)]
def mX6_push : av_mi := (yX6_push, cX6_push, 4, (some .int), tX6_push)
theorem oX6_push : av_OK mX6_push := by unfold av_OK; decide +kernel
def tX6_turn : av_T := [(0, .aload_n 0, 1, 0), (1, .iload_n 1, 2, 0), (2, .invokevirtual 31, 5, 0), (5, .ifCond .eq 7, 8, 12), (8, .iconst 1, 9, 0), (9, .goto 4, 12, 13), (12, .iconst 0, 13, 0), (13, .istore_n 3, 14, 0), (14, .aload_n 0, 15, 0), (15, .iload_n 2, 16, 0), (16, .ifCond .eq 14, 19, 30), (19, .aload_n 0, 20, 0), (20, .getfield 28, 23, 0), (23, .iconst 1, 24, 0), (24, .iload_n 1, 25, 0), (25, .ishl, 26, 0), (26, .ior, 27, 0), (27, .goto 13, 30, 40), (30, .aload_n 0, 31, 0), (31, .getfield 28, 34, 0), (34, .iconst 1, 35, 0), (35, .iload_n 1, 36, 0), (36, .ishl, 37, 0), (37, .iconst (-1), 38, 0), (38, .ixor, 39, 0), (39, .iand, 40, 0), (40, .putfield 28, 43, 0), (43, .iload_n 3, 44, 0), (44, .ireturn, 45, 0)]
def mX6_turn : av_mi := (yX6_turn, cX6_turn, 4, (some .int), tX6_turn)
theorem oX6_turn : av_OK mX6_turn := by unfold av_OK; decide +kernel
def tX6_excess : av_T := [(0, .aload_n 0, 1, 0), (1, .getfield 9, 4, 0), (4, .iload_n 1, 5, 0), (5, .iaload, 6, 0), (6, .iload_n 2, 7, 0), (7, .imul, 8, 0), (8, .aload_n 0, 9, 0), (9, .getfield 15, 12, 0), (12, .iload_n 1, 13, 0), (13, .iaload, 14, 0), (14, .iload_n 3, 15, 0), (15, .imul, 16, 0), (16, .iadd, 17, 0), (17, .aload_n 0, 18, 0), (18, .getfield 18, 21, 0), (21, .iload_n 1, 22, 0), (22, .iaload, 23, 0), (23, .iload 4, 25, 0), (25, .imul, 26, 0), (26, .iadd, 27, 0), (27, .aload_n 0, 28, 0), (28, .getfield 21, 31, 0), (31, .iload_n 1, 32, 0), (32, .iaload, 33, 0), (33, .iload 5, 35, 0), (35, .imul, 36, 0), (36, .isub, 37, 0), (37, .ireturn, 38, 0)]
def mX6_excess : av_mi := (yX6_excess, cX6_excess, 6, (some .int), tX6_excess)
theorem oX6_excess : av_OK mX6_excess := by unfold av_OK; decide +kernel
def tX7_point : av_T := [(0, .iload_n 1, 1, 0), (1, .iload_n 2, 2, 0), (2, .invokestatic 37, 5, 0), (5, .ifCond .ne 6, 8, 11), (8, .ldc 41, 10, 0), (10, .ireturn, 11, 0), (11, .aload_n 0, 12, 0), (12, .getfield 10, 15, 0), (15, .invokevirtual 42, 18, 0), (18, .bipush 12, 20, 0), (20, .if_icmp .lt 6, 23, 26), (23, .ldc 46, 25, 0), (25, .ireturn, 26, 0), (26, .aload_n 0, 27, 0), (27, .getfield 33, 30, 0), (30, .invokevirtual 47, 33, 0), (33, .aload_n 0, 34, 0), (34, .getfield 10, 37, 0), (37, .iload_n 1, 38, 0), (38, .iload_n 2, 39, 0), (39, .invokevirtual 50, 42, 0), (42, .ireturn, 43, 0)]
def mX7_point : av_mi := (yX7_point, cX7_point, 3, (some .int), tX7_point)
theorem oX7_point : av_OK mX7_point := by unfold av_OK; decide +kernel
def tX7_move : av_T := [(0, .iload_n 1, 1, 0), (1, .ifCond .lt 14, 4, 15), (4, .iload_n 1, 5, 0), (5, .aload_n 0, 6, 0), (6, .getfield 10, 9, 0), (9, .invokevirtual 42, 12, 0), (12, .if_icmp .lt 6, 15, 18), (15, .ldc 54, 17, 0), (17, .ireturn, 18, 0), (18, .iload_n 2, 19, 0), (19, .iload_n 3, 20, 0), (20, .invokestatic 37, 23, 0), (23, .ifCond .ne 6, 26, 29), (26, .ldc 41, 28, 0), (28, .ireturn, 29, 0), (29, .aload_n 0, 30, 0), (30, .getfield 33, 33, 0), (33, .invokevirtual 47, 36, 0), (36, .aload_n 0, 37, 0), (37, .getfield 10, 40, 0), (40, .iload_n 1, 41, 0), (41, .iload_n 2, 42, 0), (42, .iload_n 3, 43, 0), (43, .invokevirtual 55, 46, 0), (46, .iconst 1, 47, 0), (47, .ireturn, 48, 0)]
def mX7_move : av_mi := (yX7_move, cX7_move, 4, (some .int), tX7_move)
theorem oX7_move : av_OK mX7_move := by unfold av_OK; decide +kernel
def tX7_clear : av_T := [(0, .aload_n 0, 1, 0), (1, .getfield 33, 4, 0), (4, .invokevirtual 47, 7, 0), (7, .aload_n 0, 8, 0), (8, .getfield 10, 11, 0), (11, .invokevirtual 59, 14, 0), (14, .ireturn, 15, 0)]
def mX7_clear : av_mi := (yX7_clear, cX7_clear, 1, (some .int), tX7_clear)
theorem oX7_clear : av_OK mX7_clear := by unfold av_OK; decide +kernel
def tX7_corners : av_T := [(0, .aload_n 0, 1, 0), (1, .getfield 10, 4, 0), (4, .invokevirtual 62, 7, 0), (7, .invokevirtual 66, 10, 0), (10, .ireturn, 11, 0)]
def mX7_corners : av_mi := (yX7_corners, cX7_corners, 1, (some .int), tX7_corners)
theorem oX7_corners : av_OK mX7_corners := by unfold av_OK; decide +kernel
def tX7_corner : av_T := [(0, .aload_n 0, 1, 0), (1, .getfield 10, 4, 0), (4, .invokevirtual 62, 7, 0), (7, .iload_n 1, 8, 0), (8, .invokevirtual 69, 11, 0), (11, .ifCond .ne 6, 14, 17), (14, .ldc 54, 16, 0), (16, .ireturn, 17, 0), (17, .iload_n 2, 18, 0), (18, .ifCond .eq 17, 21, 35), (21, .aload_n 0, 22, 0), (22, .getfield 10, 25, 0), (25, .invokevirtual 62, 28, 0), (28, .iload_n 1, 29, 0), (29, .invokevirtual 73, 32, 0), (32, .goto 14, 35, 46), (35, .aload_n 0, 36, 0), (36, .getfield 10, 39, 0), (39, .invokevirtual 62, 42, 0), (42, .iload_n 1, 43, 0), (43, .invokevirtual 77, 46, 0), (46, .ireturn, 47, 0)]
def mX7_corner : av_mi := (yX7_corner, cX7_corner, 3, (some .int), tX7_corner)
theorem oX7_corner : av_OK mX7_corner := by unfold av_OK; decide +kernel
def tX7_wallOf : av_T := [(0, .aload_n 0, 1, 0), (1, .getfield 10, 4, 0), (4, .invokevirtual 62, 7, 0), (7, .iload_n 1, 8, 0), (8, .invokevirtual 69, 11, 0), (11, .ifCond .ne 6, 14, 17), (14, .ldc 54, 16, 0), (16, .ireturn, 17, 0), (17, .aload_n 0, 18, 0), (18, .getfield 10, 21, 0), (21, .invokevirtual 80, 24, 0), (24, .ifCond .eq 6, 27, 30), (27, .ldc 84, 29, 0), (29, .ireturn, 30, 0), (30, .iload_n 2, 31, 0), (31, .iconst 0, 32, 0), (32, .iconst 2, 33, 0), (33, .invokestatic 85, 36, 0), (36, .ifCond .ne 6, 39, 42), (39, .ldc 41, 41, 0), (41, .ireturn, 42, 0), (42, .aload_n 0, 43, 0), (43, .getfield 10, 46, 0), (46, .iload_n 1, 47, 0), (47, .iload_n 2, 48, 0), (48, .invokevirtual 89, 51, 0), (51, .ireturn, 52, 0)]
def mX7_wallOf : av_mi := (yX7_wallOf, cX7_wallOf, 3, (some .int), tX7_wallOf)
theorem oX7_wallOf : av_OK mX7_wallOf := by unfold av_OK; decide +kernel
def tX7_slack : av_T := [(0, .aload_n 0, 1, 0), (1, .getfield 10, 4, 0), (4, .invokevirtual 62, 7, 0), (7, .iload_n 1, 8, 0), (8, .invokevirtual 69, 11, 0), (11, .ifCond .eq 17, 14, 28), (14, .aload_n 0, 15, 0), (15, .getfield 10, 18, 0), (18, .invokevirtual 62, 21, 0), (21, .iload_n 2, 22, 0), (22, .invokevirtual 69, 25, 0), (25, .ifCond .ne 6, 28, 31), (28, .ldc 54, 30, 0), (30, .ireturn, 31, 0), (31, .aload_n 0, 32, 0), (32, .getfield 10, 35, 0), (35, .invokevirtual 80, 38, 0), (38, .ifCond .eq 8, 41, 46), (41, .ldc 84, 43, 0), (43, .goto 12, 46, 55), (46, .aload_n 0, 47, 0), (47, .getfield 10, 50, 0), (50, .iload_n 1, 51, 0), (51, .iload_n 2, 52, 0), (52, .invokevirtual 92, 55, 0), (55, .ireturn, 56, 0)]
def mX7_slack : av_mi := (yX7_slack, cX7_slack, 3, (some .int), tX7_slack)
theorem oX7_slack : av_OK mX7_slack := by unfold av_OK; decide +kernel
def tX7_area : av_T := [(0, .aload_n 0, 1, 0), (1, .getfield 10, 4, 0), (4, .invokevirtual 95, 7, 0), (7, .ireturn, 8, 0)]
def mX7_area : av_mi := (yX7_area, cX7_area, 1, (some .int), tX7_area)
theorem oX7_area : av_OK mX7_area := by unfold av_OK; decide +kernel
def tX7_open : av_T := [(0, .aload_n 0, 1, 0), (1, .getfield 10, 4, 0), (4, .invokevirtual 80, 7, 0), (7, .ifCond .eq 8, 10, 15), (10, .ldc 84, 12, 0), (12, .goto 10, 15, 22), (15, .aload_n 0, 16, 0), (16, .getfield 10, 19, 0), (19, .invokevirtual 98, 22, 0), (22, .ireturn, 23, 0)]
def mX7_open : av_mi := (yX7_open, cX7_open, 1, (some .int), tX7_open)
theorem oX7_open : av_OK mX7_open := by unfold av_OK; decide +kernel
def tX7_cover : av_T := [(0, .aload_n 0, 1, 0), (1, .invokevirtual 101, 4, 0), (4, .ifCond .eq 20, 7, 24), (7, .getstatic 104, 10, 0), (10, .aload_n 0, 11, 0), (11, .getfield 10, 14, 0), (14, .invokevirtual 62, 17, 0), (17, .invokevirtual 66, 20, 0), (20, .iaload, 21, 0), (21, .goto 5, 24, 26), (24, .ldc 84, 26, 0), (26, .ireturn, 27, 0)]
def mX7_cover : av_mi := (yX7_cover, cX7_cover, 1, (some .int), tX7_cover)
theorem oX7_cover : av_OK mX7_cover := by unfold av_OK; decide +kernel
def tX7_fools : av_T := [(0, .aload_n 0, 1, 0), (1, .invokevirtual 101, 4, 0), (4, .ifCond .eq 20, 7, 24), (7, .getstatic 108, 10, 0), (10, .aload_n 0, 11, 0), (11, .getfield 10, 14, 0), (14, .invokevirtual 62, 17, 0), (17, .invokevirtual 66, 20, 0), (20, .iaload, 21, 0), (21, .goto 5, 24, 26), (24, .ldc 84, 26, 0), (26, .ireturn, 27, 0)]
def mX7_fools : av_mi := (yX7_fools, cX7_fools, 1, (some .int), tX7_fools)
theorem oX7_fools : av_OK mX7_fools := by unfold av_OK; decide +kernel
def tX7_log : av_T := [(0, .aload_n 0, 1, 0), (1, .invokevirtual 101, 4, 0), (4, .ifCond .eq 10, 7, 14), (7, .aload_n 0, 8, 0), (8, .invokevirtual 111, 11, 0), (11, .goto 5, 14, 16), (14, .ldc 84, 16, 0), (16, .ireturn, 17, 0)]
def mX7_log : av_mi := (yX7_log, cX7_log, 1, (some .int), tX7_log)
theorem oX7_log : av_OK mX7_log := by unfold av_OK; decide +kernel
def tX7_low : av_T := [(0, .aload_n 0, 1, 0), (1, .invokevirtual 101, 4, 0), (4, .ifCond .ne 6, 7, 10), (7, .ldc 84, 9, 0), (9, .ireturn, 10, 0), (10, .iconst 3, 11, 0), (11, .getstatic 104, 14, 0), (14, .aload_n 0, 15, 0), (15, .getfield 10, 18, 0), (18, .invokevirtual 62, 21, 0), (21, .invokevirtual 66, 24, 0), (24, .iaload, 25, 0), (25, .aload_n 0, 26, 0), (26, .invokevirtual 111, 29, 0), (29, .invokestatic 114, 32, 0), (32, .invokestatic 114, 35, 0), (35, .ireturn, 36, 0)]
def mX7_low : av_mi := (yX7_low, cX7_low, 1, (some .int), tX7_low)
theorem oX7_low : av_OK mX7_low := by unfold av_OK; decide +kernel
def tX7_high : av_T := [(0, .aload_n 0, 1, 0), (1, .getfield 10, 4, 0), (4, .invokevirtual 80, 7, 0), (7, .ifCond .eq 6, 10, 13), (10, .ldc 84, 12, 0), (12, .ireturn, 13, 0), (13, .aload_n 0, 14, 0), (14, .getfield 10, 17, 0), (17, .invokevirtual 62, 20, 0), (20, .invokevirtual 66, 23, 0), (23, .istore_n 1, 24, 0), (24, .aload_n 0, 25, 0), (25, .getfield 19, 28, 0), (28, .aload_n 0, 29, 0), (29, .getfield 10, 32, 0), (32, .invokevirtual 119, 35, 0), (35, .ldc 123, 37, 0), (37, .if_icmp .ne 15, 40, 52), (40, .iload_n 1, 41, 0), (41, .aload_n 0, 42, 0), (42, .getfield 19, 45, 0), (45, .invokevirtual 124, 48, 0), (48, .invokestatic 127, 51, 0), (51, .istore_n 1, 52, 0), (52, .aload_n 0, 53, 0), (53, .getfield 33, 56, 0), (56, .aload_n 0, 57, 0), (57, .getfield 10, 60, 0), (60, .aload_n 0, 61, 0), (61, .getfield 26, 64, 0), (64, .invokevirtual 130, 67, 0), (67, .istore_n 2, 68, 0), (68, .iload_n 2, 69, 0), (69, .ifCond .ne 7, 72, 76), (72, .iload_n 1, 73, 0), (73, .goto 11, 76, 84), (76, .iload_n 1, 77, 0), (77, .iload_n 2, 78, 0), (78, .invokestatic 134, 81, 0), (81, .invokestatic 127, 84, 0), (84, .ireturn, 85, 0)]
def mX7_high : av_mi := (yX7_high, cX7_high, 3, (some .int), tX7_high)
theorem oX7_high : av_OK mX7_high := by unfold av_OK; decide +kernel
def tX7_factors : av_T := [(0, .iload_n 1, 1, 0), (1, .iconst 1, 2, 0), (2, .bipush 8, 4, 0), (4, .invokestatic 85, 7, 0), (7, .ifCond .eq 14, 10, 21), (10, .iload_n 2, 11, 0), (11, .iconst 1, 12, 0), (12, .sipush 999, 15, 0), (15, .invokestatic 85, 18, 0), (18, .ifCond .ne 6, 21, 24), (21, .ldc 41, 23, 0), (23, .ireturn, 24, 0), (24, .aload_n 0, 25, 0), (25, .getfield 19, 28, 0), (28, .iload_n 1, 29, 0), (29, .iload_n 2, 30, 0), (30, .invokevirtual 139, 33, 0), (33, .ireturn, 34, 0)]
def mX7_factors : av_mi := (yX7_factors, cX7_factors, 3, (some .int), tX7_factors)
theorem oX7_factors : av_OK mX7_factors := by unfold av_OK; decide +kernel
def tX7_entry : av_T := [(0, .iload_n 1, 1, 0), (1, .ifCond .eq 8, 4, 9), (4, .bipush 12, 6, 0), (6, .goto 5, 9, 11), (9, .bipush 8, 11, 0), (11, .istore 5, 13, 0), (13, .iload_n 1, 14, 0), (14, .ifCond .eq 8, 17, 22), (17, .bipush 8, 19, 0), (19, .goto 5, 22, 24), (22, .bipush 12, 24, 0), (24, .istore 6, 26, 0), (26, .iload_n 2, 27, 0), (27, .iconst 0, 28, 0), (28, .iload 5, 30, 0), (30, .iconst 1, 31, 0), (31, .isub, 32, 0), (32, .invokestatic 85, 35, 0), (35, .ifCond .eq 15, 38, 50), (38, .iload_n 3, 39, 0), (39, .iconst 0, 40, 0), (40, .iload 6, 42, 0), (42, .iconst 1, 43, 0), (43, .isub, 44, 0), (44, .invokestatic 85, 47, 0), (47, .ifCond .ne 6, 50, 53), (50, .ldc 54, 52, 0), (52, .ireturn, 53, 0), (53, .iload 4, 55, 0), (55, .iconst 0, 56, 0), (56, .sipush 9999, 59, 0), (59, .invokestatic 85, 62, 0), (62, .ifCond .ne 6, 65, 68), (65, .ldc 41, 67, 0), (67, .ireturn, 68, 0), (68, .aload_n 0, 69, 0), (69, .getfield 19, 72, 0), (72, .iload_n 1, 73, 0), (73, .iload_n 2, 74, 0), (74, .iload 6, 76, 0), (76, .imul, 77, 0), (77, .iload_n 3, 78, 0), (78, .iadd, 79, 0), (79, .iload 4, 81, 0), (81, .invokevirtual 142, 84, 0), (84, .ireturn, 85, 0)]
def mX7_entry : av_mi := (yX7_entry, cX7_entry, 7, (some .int), tX7_entry)
theorem oX7_entry : av_OK mX7_entry := by unfold av_OK; decide +kernel
def tX7_hold : av_T := [(0, .aload_n 0, 1, 0), (1, .getfield 10, 4, 0), (4, .invokevirtual 80, 7, 0), (7, .ifCond .eq 6, 10, 13), (10, .ldc 84, 12, 0), (12, .ireturn, 13, 0), (13, .aload_n 0, 14, 0), (14, .getfield 19, 17, 0), (17, .aload_n 0, 18, 0), (18, .getfield 10, 21, 0), (21, .invokevirtual 119, 24, 0), (24, .ldc 123, 26, 0), (26, .if_icmp .ne 7, 29, 33), (29, .iconst 1, 30, 0), (30, .goto 4, 33, 34), (33, .iconst 0, 34, 0), (34, .ireturn, 35, 0)]
def mX7_hold : av_mi := (yX7_hold, cX7_hold, 1, (some .int), tX7_hold)
theorem oX7_hold : av_OK mX7_hold := by unfold av_OK; decide +kernel
def tX7_wrong : av_T := [(0, .aload_n 0, 1, 0), (1, .getfield 10, 4, 0), (4, .invokevirtual 80, 7, 0), (7, .ifCond .eq 8, 10, 15), (10, .ldc 84, 12, 0), (12, .goto 14, 15, 26), (15, .aload_n 0, 16, 0), (16, .getfield 19, 19, 0), (19, .aload_n 0, 20, 0), (20, .getfield 10, 23, 0), (23, .invokevirtual 119, 26, 0), (26, .ireturn, 27, 0)]
def mX7_wrong : av_mi := (yX7_wrong, cX7_wrong, 1, (some .int), tX7_wrong)
theorem oX7_wrong : av_OK mX7_wrong := by unfold av_OK; decide +kernel
def tX7_wall : av_T := [(0, .iload_n 1, 1, 0), (1, .invokestatic 145, 4, 0), (4, .ifCond .eq 21, 7, 25), (7, .iload_n 2, 8, 0), (8, .invokestatic 145, 11, 0), (11, .ifCond .eq 14, 14, 25), (14, .iload_n 3, 15, 0), (15, .invokestatic 145, 18, 0), (18, .ifCond .eq 7, 21, 25), (21, .iconst 1, 22, 0), (22, .goto 4, 25, 26), (25, .iconst 0, 26, 0), (26, .istore 5, 28, 0), (28, .iload 5, 30, 0), (30, .ifCond .eq 23, 33, 53), (33, .iload_n 1, 34, 0), (34, .ifCond .ne 11, 37, 45), (37, .iload_n 2, 38, 0), (38, .ifCond .ne 7, 41, 45), (41, .iload_n 3, 42, 0), (42, .ifCond .eq 11, 45, 53), (45, .iload 4, 47, 0), (47, .invokestatic 148, 50, 0), (50, .ifCond .ne 6, 53, 56), (53, .ldc 41, 55, 0), (55, .ireturn, 56, 0), (56, .aload_n 0, 57, 0), (57, .getfield 26, 60, 0), (60, .invokevirtual 151, 63, 0), (63, .invokevirtual 154, 66, 0), (66, .bipush 10, 68, 0), (68, .if_icmp .lt 6, 71, 74), (71, .ldc 46, 73, 0), (73, .ireturn, 74, 0), (74, .aload_n 0, 75, 0), (75, .getfield 33, 78, 0), (78, .invokevirtual 47, 81, 0), (81, .aload_n 0, 82, 0), (82, .getfield 26, 85, 0), (85, .iload_n 1, 86, 0), (86, .iload_n 2, 87, 0), (87, .iload_n 3, 88, 0), (88, .iload 4, 90, 0), (90, .invokevirtual 157, 93, 0), (93, .ireturn, 94, 0)]
def mX7_wall : av_mi := (yX7_wall, cX7_wall, 6, (some .int), tX7_wall)
theorem oX7_wall : av_OK mX7_wall := by unfold av_OK; decide +kernel
def tX7_shift : av_T := [(0, .aload_n 0, 1, 0), (1, .getfield 26, 4, 0), (4, .invokevirtual 151, 7, 0), (7, .iload_n 1, 8, 0), (8, .invokevirtual 161, 11, 0), (11, .ifCond .ne 6, 14, 17), (14, .ldc 54, 16, 0), (16, .ireturn, 17, 0), (17, .iload_n 2, 18, 0), (18, .invokestatic 148, 21, 0), (21, .ifCond .ne 6, 24, 27), (24, .ldc 41, 26, 0), (26, .ireturn, 27, 0), (27, .aload_n 0, 28, 0), (28, .getfield 33, 31, 0), (31, .invokevirtual 47, 34, 0), (34, .aload_n 0, 35, 0), (35, .getfield 26, 38, 0), (38, .iload_n 1, 39, 0), (39, .iload_n 2, 40, 0), (40, .invokevirtual 162, 43, 0), (43, .ireturn, 44, 0)]
def mX7_shift : av_mi := (yX7_shift, cX7_shift, 3, (some .int), tX7_shift)
theorem oX7_shift : av_OK mX7_shift := by unfold av_OK; decide +kernel
def tX7_on : av_T := [(0, .aload_n 0, 1, 0), (1, .getfield 26, 4, 0), (4, .invokevirtual 151, 7, 0), (7, .iload_n 1, 8, 0), (8, .invokevirtual 161, 11, 0), (11, .ifCond .ne 6, 14, 17), (14, .ldc 54, 16, 0), (16, .ireturn, 17, 0), (17, .aload_n 0, 18, 0), (18, .getfield 33, 21, 0), (21, .invokevirtual 47, 24, 0), (24, .aload_n 0, 25, 0), (25, .getfield 26, 28, 0), (28, .iload_n 1, 29, 0), (29, .iload_n 2, 30, 0), (30, .invokevirtual 165, 33, 0), (33, .ireturn, 34, 0)]
def mX7_on : av_mi := (yX7_on, cX7_on, 3, (some .int), tX7_on)
theorem oX7_on : av_OK mX7_on := by unfold av_OK; decide +kernel
def tX7_about : av_T := [(0, .aload_n 0, 1, 0), (1, .getfield 26, 4, 0), (4, .invokevirtual 151, 7, 0), (7, .iload_n 1, 8, 0), (8, .invokevirtual 161, 11, 0), (11, .ifCond .ne 6, 14, 17), (14, .ldc 54, 16, 0), (16, .ireturn, 17, 0), (17, .iload_n 2, 18, 0), (18, .iconst 0, 19, 0), (19, .iconst 4, 20, 0), (20, .invokestatic 85, 23, 0), (23, .ifCond .eq 18, 26, 41), (26, .aload_n 0, 27, 0), (27, .getfield 26, 30, 0), (30, .invokevirtual 151, 33, 0), (33, .iload_n 1, 34, 0), (34, .iload_n 2, 35, 0), (35, .invokevirtual 169, 38, 0), (38, .goto 5, 41, 43), (41, .ldc 41, 43, 0), (43, .ireturn, 44, 0)]
def mX7_about : av_mi := (yX7_about, cX7_about, 3, (some .int), tX7_about)
theorem oX7_about : av_OK mX7_about := by unfold av_OK; decide +kernel
def tX7_sound : av_T := [(0, .aload_n 0, 1, 0), (1, .getfield 26, 4, 0), (4, .invokevirtual 172, 7, 0), (7, .ifCond .eq 7, 10, 14), (10, .iconst 1, 11, 0), (11, .goto 4, 14, 15), (14, .iconst 0, 15, 0), (15, .ireturn, 16, 0)]
def mX7_sound : av_mi := (yX7_sound, cX7_sound, 1, (some .int), tX7_sound)
theorem oX7_sound : av_OK mX7_sound := by unfold av_OK; decide +kernel
def tX7_vertices : av_T := [(0, .aload_n 0, 1, 0), (1, .getfield 26, 4, 0), (4, .invokevirtual 175, 7, 0), (7, .ireturn, 8, 0)]
def mX7_vertices : av_mi := (yX7_vertices, cX7_vertices, 1, (some .int), tX7_vertices)
theorem oX7_vertices : av_OK mX7_vertices := by unfold av_OK; decide +kernel
def tX7_vertex : av_T := [(0, .aload_n 0, 1, 0), (1, .getfield 26, 4, 0), (4, .iload_n 1, 5, 0), (5, .invokevirtual 176, 8, 0), (8, .ifCond .ne 7, 11, 15), (11, .ldc2_w 177, 14, 0), (14, .lreturn, 15, 0), (15, .iload_n 2, 16, 0), (16, .iconst 0, 17, 0), (17, .iconst 2, 18, 0), (18, .invokestatic 85, 21, 0), (21, .ifCond .eq 16, 24, 37), (24, .aload_n 0, 25, 0), (25, .getfield 26, 28, 0), (28, .iload_n 1, 29, 0), (29, .iload_n 2, 30, 0), (30, .iload_n 3, 31, 0), (31, .invokevirtual 179, 34, 0), (34, .goto 6, 37, 40), (37, .ldc2_w 183, 40, 0), (40, .lreturn, 41, 0)]
def mX7_vertex : av_mi := (yX7_vertex, cX7_vertex, 4, (some .long), tX7_vertex)
theorem oX7_vertex : av_OK mX7_vertex := by unfold av_OK; decide +kernel
def tX7_tight : av_T := [(0, .aload_n 0, 1, 0), (1, .getfield 26, 4, 0), (4, .iload_n 1, 5, 0), (5, .invokevirtual 176, 8, 0), (8, .ifCond .eq 14, 11, 22), (11, .aload_n 0, 12, 0), (12, .getfield 26, 15, 0), (15, .iload_n 1, 16, 0), (16, .invokevirtual 185, 19, 0), (19, .goto 5, 22, 24), (22, .ldc 54, 24, 0), (24, .ireturn, 25, 0)]
def mX7_tight : av_mi := (yX7_tight, cX7_tight, 2, (some .int), tX7_tight)
theorem oX7_tight : av_OK mX7_tight := by unfold av_OK; decide +kernel
def tX7_rims : av_T := [(0, .aload_n 0, 1, 0), (1, .getfield 26, 4, 0), (4, .invokevirtual 172, 7, 0), (7, .ifCond .eq 13, 10, 20), (10, .aload_n 0, 11, 0), (11, .getfield 26, 14, 0), (14, .invokevirtual 188, 17, 0), (17, .goto 5, 20, 22), (20, .ldc 84, 22, 0), (22, .ireturn, 23, 0)]
def mX7_rims : av_mi := (yX7_rims, cX7_rims, 1, (some .int), tX7_rims)
theorem oX7_rims : av_OK mX7_rims := by unfold av_OK; decide +kernel
def tX7_idle : av_T := [(0, .aload_n 0, 1, 0), (1, .getfield 26, 4, 0), (4, .invokevirtual 151, 7, 0), (7, .iload_n 1, 8, 0), (8, .invokevirtual 161, 11, 0), (11, .ifCond .ne 6, 14, 17), (14, .ldc 54, 16, 0), (16, .ireturn, 17, 0), (17, .aload_n 0, 18, 0), (18, .getfield 26, 21, 0), (21, .invokevirtual 172, 24, 0), (24, .ifCond .ne 6, 27, 30), (27, .ldc 84, 29, 0), (29, .ireturn, 30, 0), (30, .aload_n 0, 31, 0), (31, .getfield 26, 34, 0), (34, .iload_n 1, 35, 0), (35, .invokevirtual 191, 38, 0), (38, .ifCond .eq 7, 41, 45), (41, .iconst 1, 42, 0), (42, .goto 4, 45, 46), (45, .iconst 0, 46, 0), (46, .ireturn, 47, 0)]
def mX7_idle : av_mi := (yX7_idle, cX7_idle, 2, (some .int), tX7_idle)
theorem oX7_idle : av_OK mX7_idle := by unfold av_OK; decide +kernel
def tX7_shadow : av_T := [(0, .aload_n 0, 1, 0), (1, .getfield 26, 4, 0), (4, .invokevirtual 172, 7, 0), (7, .ifCond .eq 16, 10, 23), (10, .aload_n 0, 11, 0), (11, .getfield 26, 14, 0), (14, .invokevirtual 194, 17, 0), (17, .invokevirtual 66, 20, 0), (20, .goto 5, 23, 25), (23, .ldc 84, 25, 0), (25, .ireturn, 26, 0)]
def mX7_shadow : av_mi := (yX7_shadow, cX7_shadow, 1, (some .int), tX7_shadow)
theorem oX7_shadow : av_OK mX7_shadow := by unfold av_OK; decide +kernel
def tX7_shadowAt : av_T := [(0, .aload_n 0, 1, 0), (1, .getfield 26, 4, 0), (4, .invokevirtual 172, 7, 0), (7, .ifCond .ne 7, 10, 14), (10, .ldc2_w 197, 13, 0), (13, .lreturn, 14, 0), (14, .aload_n 0, 15, 0), (15, .getfield 26, 18, 0), (18, .invokevirtual 194, 21, 0), (21, .astore 4, 23, 0), (23, .aload 4, 25, 0), (25, .iload_n 1, 26, 0), (26, .invokevirtual 69, 29, 0), (29, .ifCond .ne 7, 32, 36), (32, .ldc2_w 177, 35, 0), (35, .lreturn, 36, 0), (36, .iload_n 2, 37, 0), (37, .ifCond .eq 13, 40, 50), (40, .aload 4, 42, 0), (42, .iload_n 1, 43, 0), (43, .invokevirtual 73, 46, 0), (46, .i2l, 47, 0), (47, .goto 10, 50, 57), (50, .aload 4, 52, 0), (52, .iload_n 1, 53, 0), (53, .invokevirtual 77, 56, 0), (56, .i2l, 57, 0), (57, .aload 4, 59, 0), (59, .iload_n 1, 60, 0), (60, .invokevirtual 199, 63, 0), (63, .i2l, 64, 0), (64, .iload_n 3, 65, 0), (65, .invokestatic 202, 68, 0), (68, .lreturn, 69, 0)]
def mX7_shadowAt : av_mi := (yX7_shadowAt, cX7_shadowAt, 5, (some .long), tX7_shadowAt)
theorem oX7_shadowAt : av_OK mX7_shadowAt := by unfold av_OK; decide +kernel
def tX7_seen : av_T := [(0, .aload_n 0, 1, 0), (1, .getfield 26, 4, 0), (4, .invokevirtual 172, 7, 0), (7, .ifCond .ne 6, 10, 13), (10, .ldc 84, 12, 0), (12, .ireturn, 13, 0), (13, .aload_n 0, 14, 0), (14, .getfield 10, 17, 0), (17, .invokevirtual 80, 20, 0), (20, .ifCond .eq 5, 23, 25), (23, .iconst 0, 24, 0), (24, .ireturn, 25, 0), (25, .aload_n 0, 26, 0), (26, .getfield 26, 29, 0), (29, .invokevirtual 194, 32, 0), (32, .aload_n 0, 33, 0), (33, .getfield 10, 36, 0), (36, .invokevirtual 62, 39, 0), (39, .invokevirtual 206, 42, 0), (42, .ifCond .ne 27, 45, 69), (45, .aload_n 0, 46, 0), (46, .getfield 10, 49, 0), (49, .invokevirtual 62, 52, 0), (52, .aload_n 0, 53, 0), (53, .getfield 26, 56, 0), (56, .invokevirtual 194, 59, 0), (59, .invokevirtual 206, 62, 0), (62, .ifCond .ne 7, 65, 69), (65, .iconst 1, 66, 0), (66, .goto 4, 69, 70), (69, .iconst 0, 70, 0), (70, .istore_n 1, 71, 0), (71, .iload_n 1, 72, 0), (72, .ifCond .eq 7, 75, 79), (75, .iconst 1, 76, 0), (76, .goto 4, 79, 80), (79, .iconst 0, 80, 0), (80, .ireturn, 81, 0)]
def mX7_seen : av_mi := (yX7_seen, cX7_seen, 2, (some .int), tX7_seen)
theorem oX7_seen : av_OK mX7_seen := by unfold av_OK; decide +kernel
def tX7_missed : av_T := [(0, .aload_n 0, 1, 0), (1, .getfield 26, 4, 0), (4, .invokevirtual 172, 7, 0), (7, .ifCond .eq 23, 10, 30), (10, .aload_n 0, 11, 0), (11, .getfield 26, 14, 0), (14, .invokevirtual 194, 17, 0), (17, .aload_n 0, 18, 0), (18, .getfield 10, 21, 0), (21, .invokevirtual 62, 24, 0), (24, .invokevirtual 206, 27, 0), (27, .goto 5, 30, 32), (30, .ldc 84, 32, 0), (32, .ireturn, 33, 0)]
def mX7_missed : av_mi := (yX7_missed, cX7_missed, 1, (some .int), tX7_missed)
theorem oX7_missed : av_OK mX7_missed := by unfold av_OK; decide +kernel
def tX7_beyond : av_T := [(0, .aload_n 0, 1, 0), (1, .getfield 26, 4, 0), (4, .invokevirtual 172, 7, 0), (7, .ifCond .eq 13, 10, 20), (10, .aload_n 0, 11, 0), (11, .getfield 10, 14, 0), (14, .invokevirtual 42, 17, 0), (17, .ifCond .ne 6, 20, 23), (20, .ldc 84, 22, 0), (22, .ireturn, 23, 0), (23, .aload_n 0, 24, 0), (24, .getfield 10, 27, 0), (27, .invokevirtual 62, 30, 0), (30, .aload_n 0, 31, 0), (31, .getfield 26, 34, 0), (34, .invokevirtual 194, 37, 0), (37, .invokevirtual 206, 40, 0), (40, .ireturn, 41, 0)]
def mX7_beyond : av_mi := (yX7_beyond, cX7_beyond, 1, (some .int), tX7_beyond)
theorem oX7_beyond : av_OK mX7_beyond := by unfold av_OK; decide +kernel
def tX7_fewest : av_T := [(0, .aload_n 0, 1, 0), (1, .getfield 33, 4, 0), (4, .aload_n 0, 5, 0), (5, .getfield 10, 8, 0), (8, .aload_n 0, 9, 0), (9, .getfield 26, 12, 0), (12, .invokevirtual 130, 15, 0), (15, .istore_n 1, 16, 0), (16, .iload_n 1, 17, 0), (17, .ifCond .ne 8, 20, 25), (20, .ldc 123, 22, 0), (22, .goto 7, 25, 29), (25, .iload_n 1, 26, 0), (26, .invokestatic 134, 29, 0), (29, .ireturn, 30, 0)]
def mX7_fewest : av_mi := (yX7_fewest, cX7_fewest, 2, (some .int), tX7_fewest)
theorem oX7_fewest : av_OK mX7_fewest := by unfold av_OK; decide +kernel
def tX7_needed : av_T := [(0, .aload_n 0, 1, 0), (1, .getfield 33, 4, 0), (4, .aload_n 0, 5, 0), (5, .getfield 10, 8, 0), (8, .aload_n 0, 9, 0), (9, .getfield 26, 12, 0), (12, .invokevirtual 130, 15, 0), (15, .istore_n 2, 16, 0), (16, .iconst 0, 17, 0), (17, .istore_n 3, 18, 0), (18, .iconst 0, 19, 0), (19, .istore 4, 21, 0), (21, .iload 4, 23, 0), (23, .bipush 10, 25, 0), (25, .if_icmp .ge 30, 28, 55), (28, .iload_n 2, 29, 0), (29, .iload 4, 31, 0), (31, .ishr, 32, 0), (32, .iconst 1, 33, 0), (33, .iand, 34, 0), (34, .iconst 1, 35, 0), (35, .if_icmp .ne 14, 38, 49), (38, .iload_n 3, 39, 0), (39, .iload_n 1, 40, 0), (40, .if_icmp .ne 6, 43, 46), (43, .iload 4, 45, 0), (45, .ireturn, 46, 0), (46, .iinc 3 1, 49, 0), (49, .iinc 4 1, 52, 0), (52, .goto (-31), 55, 21), (55, .ldc 123, 57, 0), (57, .ireturn, 58, 0)]
def mX7_needed : av_mi := (yX7_needed, cX7_needed, 5, (some .int), tX7_needed)
theorem oX7_needed : av_OK mX7_needed := by unfold av_OK; decide +kernel
def tX7_blow : av_T := [(0, .aload_n 0, 1, 0), (1, .getfield 26, 4, 0), (4, .invokevirtual 172, 7, 0), (7, .ifCond .eq 26, 10, 33), (10, .aload_n 0, 11, 0), (11, .getfield 10, 14, 0), (14, .invokevirtual 42, 17, 0), (17, .ifCond .eq 16, 20, 33), (20, .aload_n 0, 21, 0), (21, .getfield 26, 24, 0), (24, .invokevirtual 194, 27, 0), (27, .invokevirtual 210, 30, 0), (30, .ifCond .ne 7, 33, 37), (33, .ldc2_w 197, 36, 0), (36, .lreturn, 37, 0), (37, .aload_n 0, 38, 0), (38, .getfield 26, 41, 0), (41, .invokevirtual 194, 44, 0), (44, .aload_n 0, 45, 0), (45, .getfield 10, 48, 0), (48, .invokevirtual 62, 51, 0), (51, .iload_n 1, 52, 0), (52, .invokevirtual 213, 55, 0), (55, .lreturn, 56, 0)]
def mX7_blow : av_mi := (yX7_blow, cX7_blow, 2, (some .long), tX7_blow)
theorem oX7_blow : av_OK mX7_blow := by unfold av_OK; decide +kernel
def tX7_most : av_T := [(0, .iload_n 1, 1, 0), (1, .invokestatic 217, 4, 0), (4, .ifCond .eq 10, 7, 14), (7, .iload_n 2, 8, 0), (8, .invokestatic 217, 11, 0), (11, .ifCond .ne 6, 14, 17), (14, .ldc 41, 16, 0), (16, .ireturn, 17, 0), (17, .aload_n 0, 18, 0), (18, .getfield 10, 21, 0), (21, .invokevirtual 42, 24, 0), (24, .ifCond .ne 8, 27, 32), (27, .ldc 84, 29, 0), (29, .goto 12, 32, 41), (32, .aload_n 0, 33, 0), (33, .getfield 10, 36, 0), (36, .iload_n 1, 37, 0), (37, .iload_n 2, 38, 0), (38, .invokevirtual 220, 41, 0), (41, .ireturn, 42, 0)]
def mX7_most : av_mi := (yX7_most, cX7_most, 3, (some .int), tX7_most)
theorem oX7_most : av_OK mX7_most := by unfold av_OK; decide +kernel
def tX7_mostOf : av_T := [(0, .aload_n 0, 1, 0), (1, .iload_n 1, 2, 0), (2, .iload_n 2, 3, 0), (3, .iload_n 3, 4, 0), (4, .invokevirtual 223, 7, 0), (7, .istore 5, 9, 0), (9, .iload 5, 11, 0), (11, .ifCond .ne 28, 14, 39), (14, .aload_n 0, 15, 0), (15, .getfield 26, 18, 0), (18, .aload_n 0, 19, 0), (19, .getfield 26, 22, 0), (22, .iload_n 1, 23, 0), (23, .iload_n 2, 24, 0), (24, .iload_n 3, 25, 0), (25, .invokevirtual 227, 28, 0), (28, .iload_n 1, 29, 0), (29, .iload_n 2, 30, 0), (30, .iload_n 3, 31, 0), (31, .iload 4, 33, 0), (33, .invokevirtual 230, 36, 0), (36, .goto 6, 39, 42), (39, .iload 5, 41, 0), (41, .i2l, 42, 0), (42, .lreturn, 43, 0)]
def mX7_mostOf : av_mi := (yX7_mostOf, cX7_mostOf, 6, (some .long), tX7_mostOf)
theorem oX7_mostOf : av_OK mX7_mostOf := by unfold av_OK; decide +kernel
def tX7_at : av_T := [(0, .aload_n 0, 1, 0), (1, .iload_n 1, 2, 0), (2, .iload_n 2, 3, 0), (3, .iload_n 3, 4, 0), (4, .invokevirtual 223, 7, 0), (7, .istore 4, 9, 0), (9, .iload 4, 11, 0), (11, .ifCond .ne 16, 14, 27), (14, .aload_n 0, 15, 0), (15, .getfield 26, 18, 0), (18, .iload_n 1, 19, 0), (19, .iload_n 2, 20, 0), (20, .iload_n 3, 21, 0), (21, .invokevirtual 227, 24, 0), (24, .goto 5, 27, 29), (27, .iload 4, 29, 0), (29, .ireturn, 30, 0)]
def mX7_at : av_mi := (yX7_at, cX7_at, 5, (some .int), tX7_at)
theorem oX7_at : av_OK mX7_at := by unfold av_OK; decide +kernel
def tX7_count : av_T := [(0, .iload_n 1, 1, 0), (1, .tableswitch 84 0 4 #[35, 43, 54, 68, 76], 36, 0), (36, .aload_n 0, 37, 0), (37, .getfield 10, 40, 0), (40, .invokevirtual 42, 43, 0), (43, .ireturn, 44, 0), (44, .aload_n 0, 45, 0), (45, .getfield 26, 48, 0), (48, .invokevirtual 151, 51, 0), (51, .invokevirtual 154, 54, 0), (54, .ireturn, 55, 0), (55, .aload_n 0, 56, 0), (56, .getfield 26, 59, 0), (59, .invokevirtual 151, 62, 0), (62, .invokevirtual 234, 65, 0), (65, .invokestatic 134, 68, 0), (68, .ireturn, 69, 0), (69, .aload_n 0, 70, 0), (70, .getfield 19, 73, 0), (73, .invokevirtual 124, 76, 0), (76, .ireturn, 77, 0), (77, .aload_n 0, 78, 0), (78, .getfield 19, 81, 0), (81, .invokevirtual 237, 84, 0), (84, .ireturn, 85, 0), (85, .ldc 41, 87, 0), (87, .ireturn, 88, 0)]
def mX7_count : av_mi := (yX7_count, cX7_count, 2, (some .int), tX7_count)
theorem oX7_count : av_OK mX7_count := by unfold av_OK; decide +kernel
def tX7_isWithin : av_T := [(0, .iload_n 0, 1, 0), (1, .iload_n 1, 2, 0), (2, .if_icmp .lt 12, 5, 14), (5, .iload_n 0, 6, 0), (6, .iload_n 2, 7, 0), (7, .if_icmp .gt 7, 10, 14), (10, .iconst 1, 11, 0), (11, .goto 4, 14, 15), (14, .iconst 0, 15, 0), (15, .ireturn, 16, 0)]
def mX7_isWithin : av_mi := (yX7_isWithin, cX7_isWithin, 3, (some .boolean), tX7_isWithin)
theorem oX7_isWithin : av_OK mX7_isWithin := by unfold av_OK; decide +kernel
def tX7_isPlace : av_T := [(0, .iload_n 0, 1, 0), (1, .bipush (-50), 3, 0), (3, .bipush 50, 5, 0), (5, .invokestatic 85, 8, 0), (8, .ifCond .eq 18, 11, 26), (11, .iload_n 1, 12, 0), (12, .bipush (-50), 14, 0), (14, .bipush 50, 16, 0), (16, .invokestatic 85, 19, 0), (19, .ifCond .eq 7, 22, 26), (22, .iconst 1, 23, 0), (23, .goto 4, 26, 27), (26, .iconst 0, 27, 0), (27, .ireturn, 28, 0)]
def mX7_isPlace : av_mi := (yX7_isPlace, cX7_isPlace, 2, (some .boolean), tX7_isPlace)
theorem oX7_isPlace : av_OK mX7_isPlace := by unfold av_OK; decide +kernel
def tX7_isStep : av_T := [(0, .iload_n 0, 1, 0), (1, .bipush (-9), 3, 0), (3, .bipush 9, 5, 0), (5, .invokestatic 85, 8, 0), (8, .ireturn, 9, 0)]
def mX7_isStep : av_mi := (yX7_isStep, cX7_isStep, 1, (some .boolean), tX7_isStep)
theorem oX7_isStep : av_OK mX7_isStep := by unfold av_OK; decide +kernel
def tX7_isFar : av_T := [(0, .iload_n 0, 1, 0), (1, .bipush (-99), 3, 0), (3, .bipush 99, 5, 0), (5, .invokestatic 85, 8, 0), (8, .ireturn, 9, 0)]
def mX7_isFar : av_mi := (yX7_isFar, cX7_isFar, 1, (some .boolean), tX7_isFar)
theorem oX7_isFar : av_OK mX7_isFar := by unfold av_OK; decide +kernel
def tX7_isAim : av_T := [(0, .iload_n 0, 1, 0), (1, .bipush (-99), 3, 0), (3, .bipush 99, 5, 0), (5, .invokestatic 85, 8, 0), (8, .ireturn, 9, 0)]
def mX7_isAim : av_mi := (yX7_isAim, cX7_isAim, 1, (some .boolean), tX7_isAim)
theorem oX7_isAim : av_OK mX7_isAim := by unfold av_OK; decide +kernel
def tX7_aimRefusal : av_T := [(0, .iload_n 1, 1, 0), (1, .invokestatic 217, 4, 0), (4, .ifCond .eq 17, 7, 21), (7, .iload_n 2, 8, 0), (8, .invokestatic 217, 11, 0), (11, .ifCond .eq 10, 14, 21), (14, .iload_n 3, 15, 0), (15, .invokestatic 217, 18, 0), (18, .ifCond .ne 6, 21, 24), (21, .ldc 41, 23, 0), (23, .ireturn, 24, 0), (24, .aload_n 0, 25, 0), (25, .getfield 26, 28, 0), (28, .invokevirtual 172, 31, 0), (31, .ifCond .eq 7, 34, 38), (34, .iconst 0, 35, 0), (35, .goto 5, 38, 40), (38, .ldc 84, 40, 0), (40, .ireturn, 41, 0)]
def mX7_aimRefusal : av_mi := (yX7_aimRefusal, cX7_aimRefusal, 4, (some .int), tX7_aimRefusal)
theorem oX7_aimRefusal : av_OK mX7_aimRefusal := by unfold av_OK; decide +kernel
def tX7_isBounded : av_T := [(0, .aload_n 0, 1, 0), (1, .getfield 10, 4, 0), (4, .invokevirtual 62, 7, 0), (7, .invokevirtual 66, 10, 0), (10, .iconst 3, 11, 0), (11, .bipush 8, 13, 0), (13, .invokestatic 85, 16, 0), (16, .ireturn, 17, 0)]
def mX7_isBounded : av_mi := (yX7_isBounded, cX7_isBounded, 1, (some .boolean), tX7_isBounded)
theorem oX7_isBounded : av_OK mX7_isBounded := by unfold av_OK; decide +kernel
def tX7_levels : av_T := [(0, .iconst 2, 1, 0), (1, .aload_n 0, 2, 0), (2, .getfield 10, 5, 0), (5, .invokevirtual 62, 8, 0), (8, .invokevirtual 66, 11, 0), (11, .imul, 12, 0), (12, .iconst 2, 13, 0), (13, .iadd, 14, 0), (14, .istore_n 1, 15, 0), (15, .iconst 0, 16, 0), (16, .istore_n 2, 17, 0), (17, .iload_n 2, 18, 0), (18, .bipush 30, 20, 0), (20, .if_icmp .ge 16, 23, 36), (23, .iconst 1, 24, 0), (24, .iload_n 2, 25, 0), (25, .ishl, 26, 0), (26, .iload_n 1, 27, 0), (27, .if_icmp .ge 9, 30, 36), (30, .iinc 2 1, 33, 0), (33, .goto (-16), 36, 17), (36, .iload_n 2, 37, 0), (37, .ireturn, 38, 0)]
def mX7_levels : av_mi := (yX7_levels, cX7_levels, 3, (some .int), tX7_levels)
theorem oX7_levels : av_OK mX7_levels := by unfold av_OK; decide +kernel
def tX7_gcd : av_T := [(0, .lload_n 0, 1, 0), (1, .invokestatic 240, 4, 0), (4, .lstore 4, 6, 0), (6, .lload_n 2, 7, 0), (7, .invokestatic 240, 10, 0), (10, .lstore 6, 12, 0), (12, .iconst 0, 13, 0), (13, .istore 8, 15, 0), (15, .iload 8, 17, 0), (17, .sipush 200, 20, 0), (20, .if_icmp .ge 31, 23, 51), (23, .lload 6, 25, 0), (25, .lconst 0, 26, 0), (26, .lcmp, 27, 0), (27, .ifCond .eq 24, 30, 51), (30, .lload 4, 32, 0), (32, .lload 6, 34, 0), (34, .lrem, 35, 0), (35, .lstore 9, 37, 0), (37, .lload 6, 39, 0), (39, .lstore 4, 41, 0), (41, .lload 9, 43, 0), (43, .lstore 6, 45, 0), (45, .iinc 8 1, 48, 0), (48, .goto (-33), 51, 15), (51, .lload 4, 53, 0), (53, .lreturn, 54, 0)]
def mX7_gcd : av_mi := (yX7_gcd, cX7_gcd, 11, (some .long), tX7_gcd)
theorem oX7_gcd : av_OK mX7_gcd := by unfold av_OK; decide +kernel
def tX7_told : av_T := [(0, .lload_n 0, 1, 0), (1, .lload_n 2, 2, 0), (2, .invokestatic 244, 5, 0), (5, .lstore 5, 7, 0), (7, .lload 5, 9, 0), (9, .lconst 0, 10, 0), (10, .lcmp, 11, 0), (11, .ifCond .ne 5, 14, 16), (14, .lconst 0, 15, 0), (15, .lreturn, 16, 0), (16, .iload 4, 18, 0), (18, .ifCond .eq 7, 21, 25), (21, .lload_n 0, 22, 0), (22, .goto 4, 25, 26), (25, .lload_n 2, 26, 0), (26, .lload 5, 28, 0), (28, .ldiv, 29, 0), (29, .lreturn, 30, 0)]
def mX7_told : av_mi := (yX7_told, cX7_told, 7, (some .long), tX7_told)
theorem oX7_told : av_OK mX7_told := by unfold av_OK; decide +kernel
def tX8_in : av_T := [(0, .lload_n 0, 1, 0), (1, .lload_n 2, 2, 0), (2, .lcmp, 3, 0), (3, .ifCond .lt 14, 6, 17), (6, .lload_n 0, 7, 0), (7, .lload 4, 9, 0), (9, .lcmp, 10, 0), (10, .ifCond .gt 7, 13, 17), (13, .iconst 1, 14, 0), (14, .goto 4, 17, 18), (17, .iconst 0, 18, 0), (18, .ireturn, 19, 0)]
def mX8_in : av_mi := (yX8_in, cX8_in, 6, (some .boolean), tX8_in)
theorem oX8_in : av_OK mX8_in := by unfold av_OK; decide +kernel
def tX8_common : av_T := [(0, .lload_n 0, 1, 0), (1, .lconst 0, 2, 0), (2, .lcmp, 3, 0), (3, .ifCond .ge 8, 6, 11), (6, .lload_n 0, 7, 0), (7, .lneg, 8, 0), (8, .goto 4, 11, 12), (11, .lload_n 0, 12, 0), (12, .lstore 4, 14, 0), (14, .lload_n 2, 15, 0), (15, .lconst 0, 16, 0), (16, .lcmp, 17, 0), (17, .ifCond .ge 8, 20, 25), (20, .lload_n 2, 21, 0), (21, .lneg, 22, 0), (22, .goto 4, 25, 26), (25, .lload_n 2, 26, 0), (26, .lstore 6, 28, 0), (28, .lload 6, 30, 0), (30, .lconst 0, 31, 0), (31, .lcmp, 32, 0), (32, .ifCond .eq 21, 35, 53), (35, .lload 4, 37, 0), (37, .lload 6, 39, 0), (39, .lrem, 40, 0), (40, .lstore 8, 42, 0), (42, .lload 6, 44, 0), (44, .lstore 4, 46, 0), (46, .lload 8, 48, 0), (48, .lstore 6, 50, 0), (50, .goto (-22), 53, 28), (53, .lload 4, 55, 0), (55, .lreturn, 56, 0)]
def mX8_common : av_mi := (yX8_common, cX8_common, 10, (some .long), tX8_common)
theorem oX8_common : av_OK mX8_common := by unfold av_OK; decide +kernel
def tX8_told : av_T := [(0, .lload_n 0, 1, 0), (1, .lload_n 2, 2, 0), (2, .invokestatic 88, 5, 0), (5, .lstore 5, 7, 0), (7, .iload 4, 9, 0), (9, .ifCond .eq 10, 12, 19), (12, .lload_n 0, 13, 0), (13, .lload 5, 15, 0), (15, .ldiv, 16, 0), (16, .goto 7, 19, 23), (19, .lload_n 2, 20, 0), (20, .lload 5, 22, 0), (22, .ldiv, 23, 0), (23, .lreturn, 24, 0)]
def mX8_told : av_mi := (yX8_told, cX8_told, 7, (some .long), tX8_told)
theorem oX8_told : av_OK mX8_told := by unfold av_OK; decide +kernel
def tX8_point : av_T := [(0, .iload_n 1, 1, 0), (1, .i2l, 2, 0), (2, .ldc2_w 92, 5, 0), (5, .ldc2_w 94, 8, 0), (8, .invokestatic 96, 11, 0), (11, .ifCond .eq 17, 14, 28), (14, .iload_n 2, 15, 0), (15, .i2l, 16, 0), (16, .ldc2_w 92, 19, 0), (19, .ldc2_w 94, 22, 0), (22, .invokestatic 96, 25, 0), (25, .ifCond .ne 6, 28, 31), (28, .ldc 100, 30, 0), (30, .ireturn, 31, 0), (31, .aload_n 0, 32, 0), (32, .getfield 101, 35, 0), (35, .bipush 12, 37, 0), (37, .if_icmp .ne 6, 40, 43), (40, .ldc 104, 42, 0), (42, .ireturn, 43, 0), (43, .aload_n 0, 44, 0), (44, .getfield 7, 47, 0), (47, .aload_n 0, 48, 0), (48, .getfield 101, 51, 0), (51, .iload_n 1, 52, 0), (52, .iastore, 53, 0), (53, .aload_n 0, 54, 0), (54, .getfield 13, 57, 0), (57, .aload_n 0, 58, 0), (58, .getfield 101, 61, 0), (61, .iload_n 2, 62, 0), (62, .iastore, 63, 0), (63, .aload_n 0, 64, 0), (64, .dup, 65, 0), (65, .getfield 101, 68, 0), (68, .iconst 1, 69, 0), (69, .iadd, 70, 0), (70, .putfield 101, 73, 0), (73, .aload_n 0, 74, 0), (74, .getfield 101, 77, 0), (77, .iconst 1, 78, 0), (78, .isub, 79, 0), (79, .ireturn, 80, 0)]
def mX8_point : av_mi := (yX8_point, cX8_point, 3, (some .int), tX8_point)
theorem oX8_point : av_OK mX8_point := by unfold av_OK; decide +kernel
def tX8_move : av_T := [(0, .iload_n 1, 1, 0), (1, .i2l, 2, 0), (2, .lconst 0, 3, 0), (3, .aload_n 0, 4, 0), (4, .getfield 101, 7, 0), (7, .iconst 1, 8, 0), (8, .isub, 9, 0), (9, .i2l, 10, 0), (10, .invokestatic 96, 13, 0), (13, .ifCond .ne 6, 16, 19), (16, .ldc 105, 18, 0), (18, .ireturn, 19, 0), (19, .iload_n 2, 20, 0), (20, .i2l, 21, 0), (21, .ldc2_w 92, 24, 0), (24, .ldc2_w 94, 27, 0), (27, .invokestatic 96, 30, 0), (30, .ifCond .eq 17, 33, 47), (33, .iload_n 3, 34, 0), (34, .i2l, 35, 0), (35, .ldc2_w 92, 38, 0), (38, .ldc2_w 94, 41, 0), (41, .invokestatic 96, 44, 0), (44, .ifCond .ne 6, 47, 50), (47, .ldc 100, 49, 0), (49, .ireturn, 50, 0), (50, .aload_n 0, 51, 0), (51, .getfield 7, 54, 0), (54, .iload_n 1, 55, 0), (55, .iload_n 2, 56, 0), (56, .iastore, 57, 0), (57, .aload_n 0, 58, 0), (58, .getfield 13, 61, 0), (61, .iload_n 1, 62, 0), (62, .iload_n 3, 63, 0), (63, .iastore, 64, 0), (64, .iconst 1, 65, 0), (65, .ireturn, 66, 0)]
def mX8_move : av_mi := (yX8_move, cX8_move, 4, (some .int), tX8_move)
theorem oX8_move : av_OK mX8_move := by unfold av_OK; decide +kernel
def tX8_clear : av_T := [(0, .aload_n 0, 1, 0), (1, .getfield 101, 4, 0), (4, .istore_n 1, 5, 0), (5, .aload_n 0, 6, 0), (6, .iconst 0, 7, 0), (7, .putfield 101, 10, 0), (10, .iload_n 1, 11, 0), (11, .ireturn, 12, 0)]
def mX8_clear : av_mi := (yX8_clear, cX8_clear, 2, (some .int), tX8_clear)
theorem oX8_clear : av_OK mX8_clear := by unfold av_OK; decide +kernel
def tX8_side : av_T := [(0, .aload_n 0, 1, 0), (1, .getfield 16, 4, 0), (4, .iload_n 1, 5, 0), (5, .laload, 6, 0), (6, .aload_n 0, 7, 0), (7, .getfield 20, 10, 0), (10, .iload_n 2, 11, 0), (11, .laload, 12, 0), (12, .aload_n 0, 13, 0), (13, .getfield 23, 16, 0), (16, .iload_n 3, 17, 0), (17, .laload, 18, 0), (18, .lmul, 19, 0), (19, .aload_n 0, 20, 0), (20, .getfield 20, 23, 0), (23, .iload_n 3, 24, 0), (24, .laload, 25, 0), (25, .aload_n 0, 26, 0), (26, .getfield 23, 29, 0), (29, .iload_n 2, 30, 0), (30, .laload, 31, 0), (31, .lmul, 32, 0), (32, .lsub, 33, 0), (33, .lmul, 34, 0), (34, .aload_n 0, 35, 0), (35, .getfield 20, 38, 0), (38, .iload_n 1, 39, 0), (39, .laload, 40, 0), (40, .aload_n 0, 41, 0), (41, .getfield 16, 44, 0), (44, .iload_n 2, 45, 0), (45, .laload, 46, 0), (46, .aload_n 0, 47, 0), (47, .getfield 23, 50, 0), (50, .iload_n 3, 51, 0), (51, .laload, 52, 0), (52, .lmul, 53, 0), (53, .aload_n 0, 54, 0), (54, .getfield 16, 57, 0), (57, .iload_n 3, 58, 0), (58, .laload, 59, 0), (59, .aload_n 0, 60, 0), (60, .getfield 23, 63, 0), (63, .iload_n 2, 64, 0), (64, .laload, 65, 0), (65, .lmul, 66, 0), (66, .lsub, 67, 0), (67, .lmul, 68, 0), (68, .lsub, 69, 0), (69, .aload_n 0, 70, 0), (70, .getfield 23, 73, 0), (73, .iload_n 1, 74, 0), (74, .laload, 75, 0), (75, .aload_n 0, 76, 0), (76, .getfield 16, 79, 0), (79, .iload_n 2, 80, 0), (80, .laload, 81, 0), (81, .aload_n 0, 82, 0), (82, .getfield 20, 85, 0), (85, .iload_n 3, 86, 0), (86, .laload, 87, 0), (87, .lmul, 88, 0), (88, .aload_n 0, 89, 0), (89, .getfield 16, 92, 0), (92, .iload_n 3, 93, 0), (93, .laload, 94, 0), (94, .aload_n 0, 95, 0), (95, .getfield 20, 98, 0), (98, .iload_n 2, 99, 0), (99, .laload, 100, 0), (100, .lmul, 101, 0), (101, .lsub, 102, 0), (102, .lmul, 103, 0), (103, .ladd, 104, 0), (104, .lreturn, 105, 0)]
def mX8_side : av_mi := (yX8_side, cX8_side, 4, (some .long), tX8_side)
theorem oX8_side : av_OK mX8_side := by unfold av_OK; decide +kernel
def tX8_compare : av_T := [(0, .lload_n 1, 1, 0), (1, .lload 7, 3, 0), (3, .lmul, 4, 0), (4, .lload 5, 6, 0), (6, .lload_n 3, 7, 0), (7, .lmul, 8, 0), (8, .lsub, 9, 0), (9, .lreturn, 10, 0)]
def mX8_compare : av_mi := (yX8_compare, cX8_compare, 9, (some .long), tX8_compare)
theorem oX8_compare : av_OK mX8_compare := by unfold av_OK; decide +kernel
def tX8_isAhead : av_T := [(0, .aload_n 0, 1, 0), (1, .aload_n 0, 2, 0), (2, .getfield 16, 5, 0), (5, .iload_n 1, 6, 0), (6, .laload, 7, 0), (7, .aload_n 0, 8, 0), (8, .getfield 23, 11, 0), (11, .iload_n 1, 12, 0), (12, .laload, 13, 0), (13, .aload_n 0, 14, 0), (14, .getfield 16, 17, 0), (17, .iload_n 2, 18, 0), (18, .laload, 19, 0), (19, .aload_n 0, 20, 0), (20, .getfield 23, 23, 0), (23, .iload_n 2, 24, 0), (24, .laload, 25, 0), (25, .invokevirtual 106, 28, 0), (28, .lstore_n 3, 29, 0), (29, .lload_n 3, 30, 0), (30, .lconst 0, 31, 0), (31, .lcmp, 32, 0), (32, .ifCond .lt 42, 35, 74), (35, .lload_n 3, 36, 0), (36, .lconst 0, 37, 0), (37, .lcmp, 38, 0), (38, .ifCond .ne 40, 41, 78), (41, .aload_n 0, 42, 0), (42, .aload_n 0, 43, 0), (43, .getfield 20, 46, 0), (46, .iload_n 1, 47, 0), (47, .laload, 48, 0), (48, .aload_n 0, 49, 0), (49, .getfield 23, 52, 0), (52, .iload_n 1, 53, 0), (53, .laload, 54, 0), (54, .aload_n 0, 55, 0), (55, .getfield 20, 58, 0), (58, .iload_n 2, 59, 0), (59, .laload, 60, 0), (60, .aload_n 0, 61, 0), (61, .getfield 23, 64, 0), (64, .iload_n 2, 65, 0), (65, .laload, 66, 0), (66, .invokevirtual 106, 69, 0), (69, .lconst 0, 70, 0), (70, .lcmp, 71, 0), (71, .ifCond .ge 7, 74, 78), (74, .iconst 1, 75, 0), (75, .goto 4, 78, 79), (78, .iconst 0, 79, 0), (79, .ireturn, 80, 0)]
def mX8_isAhead : av_mi := (yX8_isAhead, cX8_isAhead, 5, (some .boolean), tX8_isAhead)
theorem oX8_isAhead : av_OK mX8_isAhead := by unfold av_OK; decide +kernel
def tX8_isOne : av_T := [(0, .aload_n 0, 1, 0), (1, .aload_n 0, 2, 0), (2, .getfield 16, 5, 0), (5, .iload_n 1, 6, 0), (6, .laload, 7, 0), (7, .aload_n 0, 8, 0), (8, .getfield 23, 11, 0), (11, .iload_n 1, 12, 0), (12, .laload, 13, 0), (13, .aload_n 0, 14, 0), (14, .getfield 16, 17, 0), (17, .iload_n 2, 18, 0), (18, .laload, 19, 0), (19, .aload_n 0, 20, 0), (20, .getfield 23, 23, 0), (23, .iload_n 2, 24, 0), (24, .laload, 25, 0), (25, .invokevirtual 106, 28, 0), (28, .lconst 0, 29, 0), (29, .lcmp, 30, 0), (30, .ifCond .ne 40, 33, 70), (33, .aload_n 0, 34, 0), (34, .aload_n 0, 35, 0), (35, .getfield 20, 38, 0), (38, .iload_n 1, 39, 0), (39, .laload, 40, 0), (40, .aload_n 0, 41, 0), (41, .getfield 23, 44, 0), (44, .iload_n 1, 45, 0), (45, .laload, 46, 0), (46, .aload_n 0, 47, 0), (47, .getfield 20, 50, 0), (50, .iload_n 2, 51, 0), (51, .laload, 52, 0), (52, .aload_n 0, 53, 0), (53, .getfield 23, 56, 0), (56, .iload_n 2, 57, 0), (57, .laload, 58, 0), (58, .invokevirtual 106, 61, 0), (61, .lconst 0, 62, 0), (62, .lcmp, 63, 0), (63, .ifCond .ne 7, 66, 70), (66, .iconst 1, 67, 0), (67, .goto 4, 70, 71), (70, .iconst 0, 71, 0), (71, .ireturn, 72, 0)]
def mX8_isOne : av_mi := (yX8_isOne, cX8_isOne, 3, (some .boolean), tX8_isOne)
theorem oX8_isOne : av_OK mX8_isOne := by unfold av_OK; decide +kernel
def tX8_isBetween : av_T := [(0, .aload_n 0, 1, 0), (1, .iload_n 1, 2, 0), (2, .iload_n 2, 3, 0), (3, .invokevirtual 110, 6, 0), (6, .ifCond .eq 16, 9, 22), (9, .aload_n 0, 10, 0), (10, .iload_n 2, 11, 0), (11, .iload_n 3, 12, 0), (12, .invokevirtual 110, 15, 0), (15, .ifCond .eq 7, 18, 22), (18, .iconst 1, 19, 0), (19, .goto 4, 22, 23), (22, .iconst 0, 23, 0), (23, .istore 4, 25, 0), (25, .iload 4, 27, 0), (27, .ifCond .ne 21, 30, 48), (30, .aload_n 0, 31, 0), (31, .iload_n 3, 32, 0), (32, .iload_n 2, 33, 0), (33, .invokevirtual 110, 36, 0), (36, .ifCond .eq 16, 39, 52), (39, .aload_n 0, 40, 0), (40, .iload_n 2, 41, 0), (41, .iload_n 1, 42, 0), (42, .invokevirtual 110, 45, 0), (45, .ifCond .eq 7, 48, 52), (48, .iconst 1, 49, 0), (49, .goto 4, 52, 53), (52, .iconst 0, 53, 0), (53, .ireturn, 54, 0)]
def mX8_isBetween : av_mi := (yX8_isBetween, cX8_isBetween, 5, (some .boolean), tX8_isBetween)
theorem oX8_isBetween : av_OK mX8_isBetween := by unfold av_OK; decide +kernel
def tX8_hull : av_T := [(0, .iload_n 1, 1, 0), (1, .istore 4, 3, 0), (3, .iload_n 1, 4, 0), (4, .istore 5, 6, 0), (6, .iload 5, 8, 0), (8, .iload_n 2, 9, 0), (9, .if_icmp .ge 29, 12, 38), (12, .aload_n 0, 13, 0), (13, .iload 5, 15, 0), (15, .iload 4, 17, 0), (17, .invokevirtual 110, 20, 0), (20, .ifCond .eq 8, 23, 28), (23, .iload 5, 25, 0), (25, .goto 5, 28, 30), (28, .iload 4, 30, 0), (30, .istore 4, 32, 0), (32, .iinc 5 1, 35, 0), (35, .goto (-29), 38, 6), (38, .iload_n 1, 39, 0), (39, .iload_n 2, 40, 0), (40, .if_icmp .lt 5, 43, 45), (43, .iconst 0, 44, 0), (44, .ireturn, 45, 0), (45, .iconst 0, 46, 0), (46, .istore 5, 48, 0), (48, .iload 4, 50, 0), (50, .istore 6, 52, 0), (52, .iconst 1, 53, 0), (53, .istore 7, 55, 0), (55, .iload 7, 57, 0), (57, .ifCond .eq 132, 60, 189), (60, .aload_n 3, 61, 0), (61, .iload 5, 63, 0), (63, .iload 6, 65, 0), (65, .iastore, 66, 0), (66, .iinc 5 1, 69, 0), (69, .iload 6, 71, 0), (71, .istore 8, 73, 0), (73, .iload_n 1, 74, 0), (74, .istore 9, 76, 0), (76, .iload 9, 78, 0), (78, .iload_n 2, 79, 0), (79, .if_icmp .ge 85, 82, 164), (82, .aload_n 0, 83, 0), (83, .iload 9, 85, 0), (85, .iload 6, 87, 0), (87, .invokevirtual 114, 90, 0), (90, .ifCond .ne 68, 93, 158), (93, .aload_n 0, 94, 0), (94, .iload 8, 96, 0), (96, .iload 6, 98, 0), (98, .invokevirtual 114, 101, 0), (101, .ifCond .eq 9, 104, 110), (104, .ldc2_w 117, 107, 0), (107, .goto 13, 110, 120), (110, .aload_n 0, 111, 0), (111, .iload 6, 113, 0), (113, .iload 8, 115, 0), (115, .iload 9, 117, 0), (117, .invokevirtual 119, 120, 0), (120, .lstore 10, 122, 0), (122, .lload 10, 124, 0), (124, .lconst 0, 125, 0), (125, .lcmp, 126, 0), (126, .ifCond .lt 23, 129, 149), (129, .lload 10, 131, 0), (131, .lconst 0, 132, 0), (132, .lcmp, 133, 0), (133, .ifCond .ne 21, 136, 154), (136, .aload_n 0, 137, 0), (137, .iload 6, 139, 0), (139, .iload 8, 141, 0), (141, .iload 9, 143, 0), (143, .invokevirtual 123, 146, 0), (146, .ifCond .eq 8, 149, 154), (149, .iload 9, 151, 0), (151, .goto 5, 154, 156), (154, .iload 8, 156, 0), (156, .istore 8, 158, 0), (158, .iinc 9 1, 161, 0), (161, .goto (-85), 164, 76), (164, .iload 8, 166, 0), (166, .istore 6, 168, 0), (168, .aload_n 0, 169, 0), (169, .iload 6, 171, 0), (171, .iload 4, 173, 0), (173, .invokevirtual 114, 176, 0), (176, .ifCond .ne 7, 179, 183), (179, .iconst 1, 180, 0), (180, .goto 4, 183, 184), (183, .iconst 0, 184, 0), (184, .istore 7, 186, 0), (186, .goto (-131), 189, 55), (189, .iload 5, 191, 0), (191, .ireturn, 192, 0)]
def mX8_hull : av_mi := (yX8_hull, cX8_hull, 12, (some .int), tX8_hull)
theorem oX8_hull : av_OK mX8_hull := by unfold av_OK; decide +kernel
def tX8_layFigure : av_T := [(0, .iconst 0, 1, 0), (1, .istore_n 1, 2, 0), (2, .iload_n 1, 3, 0), (3, .aload_n 0, 4, 0), (4, .getfield 101, 7, 0), (7, .if_icmp .ge 42, 10, 49), (10, .aload_n 0, 11, 0), (11, .getfield 16, 14, 0), (14, .iload_n 1, 15, 0), (15, .aload_n 0, 16, 0), (16, .getfield 7, 19, 0), (19, .iload_n 1, 20, 0), (20, .iaload, 21, 0), (21, .i2l, 22, 0), (22, .lastore, 23, 0), (23, .aload_n 0, 24, 0), (24, .getfield 20, 27, 0), (27, .iload_n 1, 28, 0), (28, .aload_n 0, 29, 0), (29, .getfield 13, 32, 0), (32, .iload_n 1, 33, 0), (33, .iaload, 34, 0), (34, .i2l, 35, 0), (35, .lastore, 36, 0), (36, .aload_n 0, 37, 0), (37, .getfield 23, 40, 0), (40, .iload_n 1, 41, 0), (41, .lconst 1, 42, 0), (42, .lastore, 43, 0), (43, .iinc 1 1, 46, 0), (46, .goto (-44), 49, 2), (49, .aload_n 0, 50, 0), (50, .aload_n 0, 51, 0), (51, .iconst 0, 52, 0), (52, .aload_n 0, 53, 0), (53, .getfield 101, 56, 0), (56, .aload_n 0, 57, 0), (57, .getfield 26, 60, 0), (60, .invokevirtual 127, 63, 0), (63, .putfield 131, 66, 0), (66, .return_, 67, 0)]
def mX8_layFigure : av_mi := (yX8_layFigure, cX8_layFigure, 2, none, tX8_layFigure)
theorem oX8_layFigure : av_OK mX8_layFigure := by unfold av_OK; decide +kernel
def tX8_isFlat : av_T := [(0, .aload_n 0, 1, 0), (1, .invokevirtual 134, 4, 0), (4, .aload_n 0, 5, 0), (5, .getfield 131, 8, 0), (8, .iconst 3, 9, 0), (9, .if_icmp .ge 7, 12, 16), (12, .iconst 1, 13, 0), (13, .goto 4, 16, 17), (16, .iconst 0, 17, 0), (17, .ireturn, 18, 0)]
def mX8_isFlat : av_mi := (yX8_isFlat, cX8_isFlat, 1, (some .boolean), tX8_isFlat)
theorem oX8_isFlat : av_OK mX8_isFlat := by unfold av_OK; decide +kernel
def tX8_corners : av_T := [(0, .aload_n 0, 1, 0), (1, .invokevirtual 134, 4, 0), (4, .aload_n 0, 5, 0), (5, .getfield 131, 8, 0), (8, .ireturn, 9, 0)]
def mX8_corners : av_mi := (yX8_corners, cX8_corners, 1, (some .int), tX8_corners)
theorem oX8_corners : av_OK mX8_corners := by unfold av_OK; decide +kernel
def tX8_corner : av_T := [(0, .aload_n 0, 1, 0), (1, .invokevirtual 134, 4, 0), (4, .iload_n 1, 5, 0), (5, .i2l, 6, 0), (6, .lconst 0, 7, 0), (7, .aload_n 0, 8, 0), (8, .getfield 131, 11, 0), (11, .iconst 1, 12, 0), (12, .isub, 13, 0), (13, .i2l, 14, 0), (14, .invokestatic 96, 17, 0), (17, .ifCond .ne 8, 20, 25), (20, .ldc 105, 22, 0), (22, .goto 32, 25, 54), (25, .iload_n 2, 26, 0), (26, .ifCond .eq 17, 29, 43), (29, .aload_n 0, 30, 0), (30, .getfield 13, 33, 0), (33, .aload_n 0, 34, 0), (34, .getfield 26, 37, 0), (37, .iload_n 1, 38, 0), (38, .iaload, 39, 0), (39, .iaload, 40, 0), (40, .goto 14, 43, 54), (43, .aload_n 0, 44, 0), (44, .getfield 7, 47, 0), (47, .aload_n 0, 48, 0), (48, .getfield 26, 51, 0), (51, .iload_n 1, 52, 0), (52, .iaload, 53, 0), (53, .iaload, 54, 0), (54, .ireturn, 55, 0)]
def mX8_corner : av_mi := (yX8_corner, cX8_corner, 3, (some .int), tX8_corner)
theorem oX8_corner : av_OK mX8_corner := by unfold av_OK; decide +kernel
def tX8_wallPart : av_T := [(0, .aload_n 0, 1, 0), (1, .getfield 26, 4, 0), (4, .iload_n 1, 5, 0), (5, .iaload, 6, 0), (6, .istore_n 3, 7, 0), (7, .aload_n 0, 8, 0), (8, .getfield 26, 11, 0), (11, .iload_n 1, 12, 0), (12, .iconst 1, 13, 0), (13, .iadd, 14, 0), (14, .aload_n 0, 15, 0), (15, .getfield 131, 18, 0), (18, .irem, 19, 0), (19, .iaload, 20, 0), (20, .istore 4, 22, 0), (22, .aload_n 0, 23, 0), (23, .getfield 13, 26, 0), (26, .iload 4, 28, 0), (28, .iaload, 29, 0), (29, .aload_n 0, 30, 0), (30, .getfield 13, 33, 0), (33, .iload_n 3, 34, 0), (34, .iaload, 35, 0), (35, .isub, 36, 0), (36, .istore 5, 38, 0), (38, .aload_n 0, 39, 0), (39, .getfield 7, 42, 0), (42, .iload_n 3, 43, 0), (43, .iaload, 44, 0), (44, .aload_n 0, 45, 0), (45, .getfield 7, 48, 0), (48, .iload 4, 50, 0), (50, .iaload, 51, 0), (51, .isub, 52, 0), (52, .istore 6, 54, 0), (54, .iload 5, 56, 0), (56, .i2l, 57, 0), (57, .iload 6, 59, 0), (59, .i2l, 60, 0), (60, .invokestatic 88, 63, 0), (63, .l2i, 64, 0), (64, .istore 7, 66, 0), (66, .iload 5, 68, 0), (68, .iload 7, 70, 0), (70, .idiv, 71, 0), (71, .istore 5, 73, 0), (73, .iload 6, 75, 0), (75, .iload 7, 77, 0), (77, .idiv, 78, 0), (78, .istore 6, 80, 0), (80, .iload_n 2, 81, 0), (81, .ifCond .ne 8, 84, 89), (84, .iload 5, 86, 0), (86, .goto 32, 89, 118), (89, .iload_n 2, 90, 0), (90, .iconst 1, 91, 0), (91, .if_icmp .ne 8, 94, 99), (94, .iload 6, 96, 0), (96, .goto 22, 99, 118), (99, .iload 5, 101, 0), (101, .aload_n 0, 102, 0), (102, .getfield 7, 105, 0), (105, .iload_n 3, 106, 0), (106, .iaload, 107, 0), (107, .imul, 108, 0), (108, .iload 6, 110, 0), (110, .aload_n 0, 111, 0), (111, .getfield 13, 114, 0), (114, .iload_n 3, 115, 0), (115, .iaload, 116, 0), (116, .imul, 117, 0), (117, .iadd, 118, 0), (118, .ireturn, 119, 0)]
def mX8_wallPart : av_mi := (yX8_wallPart, cX8_wallPart, 8, (some .int), tX8_wallPart)
theorem oX8_wallPart : av_OK mX8_wallPart := by unfold av_OK; decide +kernel
def tX8_wallOf : av_T := [(0, .aload_n 0, 1, 0), (1, .invokevirtual 134, 4, 0), (4, .iload_n 1, 5, 0), (5, .i2l, 6, 0), (6, .lconst 0, 7, 0), (7, .aload_n 0, 8, 0), (8, .getfield 131, 11, 0), (11, .iconst 1, 12, 0), (12, .isub, 13, 0), (13, .i2l, 14, 0), (14, .invokestatic 96, 17, 0), (17, .ifCond .ne 6, 20, 23), (20, .ldc 105, 22, 0), (22, .ireturn, 23, 0), (23, .aload_n 0, 24, 0), (24, .getfield 131, 27, 0), (27, .iconst 3, 28, 0), (28, .if_icmp .ge 8, 31, 36), (31, .ldc 137, 33, 0), (33, .goto 26, 36, 59), (36, .iload_n 2, 37, 0), (37, .i2l, 38, 0), (38, .lconst 0, 39, 0), (39, .ldc2_w 138, 42, 0), (42, .invokestatic 96, 45, 0), (45, .ifCond .eq 12, 48, 57), (48, .aload_n 0, 49, 0), (49, .iload_n 1, 50, 0), (50, .iload_n 2, 51, 0), (51, .invokevirtual 140, 54, 0), (54, .goto 5, 57, 59), (57, .ldc 100, 59, 0), (59, .ireturn, 60, 0)]
def mX8_wallOf : av_mi := (yX8_wallOf, cX8_wallOf, 3, (some .int), tX8_wallOf)
theorem oX8_wallOf : av_OK mX8_wallOf := by unfold av_OK; decide +kernel
def tX8_slackOf : av_T := [(0, .aload_n 0, 1, 0), (1, .iload_n 1, 2, 0), (2, .iconst 2, 3, 0), (3, .invokevirtual 140, 6, 0), (6, .aload_n 0, 7, 0), (7, .iload_n 1, 8, 0), (8, .iconst 0, 9, 0), (9, .invokevirtual 140, 12, 0), (12, .aload_n 0, 13, 0), (13, .getfield 7, 16, 0), (16, .aload_n 0, 17, 0), (17, .getfield 26, 20, 0), (20, .iload_n 2, 21, 0), (21, .iaload, 22, 0), (22, .iaload, 23, 0), (23, .imul, 24, 0), (24, .isub, 25, 0), (25, .aload_n 0, 26, 0), (26, .iload_n 1, 27, 0), (27, .iconst 1, 28, 0), (28, .invokevirtual 140, 31, 0), (31, .aload_n 0, 32, 0), (32, .getfield 13, 35, 0), (35, .aload_n 0, 36, 0), (36, .getfield 26, 39, 0), (39, .iload_n 2, 40, 0), (40, .iaload, 41, 0), (41, .iaload, 42, 0), (42, .imul, 43, 0), (43, .isub, 44, 0), (44, .ireturn, 45, 0)]
def mX8_slackOf : av_mi := (yX8_slackOf, cX8_slackOf, 3, (some .int), tX8_slackOf)
theorem oX8_slackOf : av_OK mX8_slackOf := by unfold av_OK; decide +kernel
def tX8_slack : av_T := [(0, .aload_n 0, 1, 0), (1, .invokevirtual 134, 4, 0), (4, .iload_n 1, 5, 0), (5, .i2l, 6, 0), (6, .lconst 0, 7, 0), (7, .aload_n 0, 8, 0), (8, .getfield 131, 11, 0), (11, .iconst 1, 12, 0), (12, .isub, 13, 0), (13, .i2l, 14, 0), (14, .invokestatic 96, 17, 0), (17, .ifCond .eq 19, 20, 36), (20, .iload_n 2, 21, 0), (21, .i2l, 22, 0), (22, .lconst 0, 23, 0), (23, .aload_n 0, 24, 0), (24, .getfield 131, 27, 0), (27, .iconst 1, 28, 0), (28, .isub, 29, 0), (29, .i2l, 30, 0), (30, .invokestatic 96, 33, 0), (33, .ifCond .ne 6, 36, 39), (36, .ldc 105, 38, 0), (38, .ireturn, 39, 0), (39, .aload_n 0, 40, 0), (40, .getfield 131, 43, 0), (43, .iconst 3, 44, 0), (44, .if_icmp .ge 8, 47, 52), (47, .ldc 137, 49, 0), (49, .goto 9, 52, 58), (52, .aload_n 0, 53, 0), (53, .iload_n 1, 54, 0), (54, .iload_n 2, 55, 0), (55, .invokevirtual 144, 58, 0), (58, .ireturn, 59, 0)]
def mX8_slack : av_mi := (yX8_slack, cX8_slack, 3, (some .int), tX8_slack)
theorem oX8_slack : av_OK mX8_slack := by unfold av_OK; decide +kernel
def tX8_area : av_T := [(0, .aload_n 0, 1, 0), (1, .invokevirtual 134, 4, 0), (4, .iconst 0, 5, 0), (5, .istore_n 1, 6, 0), (6, .iconst 0, 7, 0), (7, .istore_n 2, 8, 0), (8, .iload_n 2, 9, 0), (9, .aload_n 0, 10, 0), (10, .getfield 131, 13, 0), (13, .if_icmp .ge 63, 16, 76), (16, .aload_n 0, 17, 0), (17, .getfield 26, 20, 0), (20, .iload_n 2, 21, 0), (21, .iaload, 22, 0), (22, .istore_n 3, 23, 0), (23, .aload_n 0, 24, 0), (24, .getfield 26, 27, 0), (27, .iload_n 2, 28, 0), (28, .iconst 1, 29, 0), (29, .iadd, 30, 0), (30, .aload_n 0, 31, 0), (31, .getfield 131, 34, 0), (34, .irem, 35, 0), (35, .iaload, 36, 0), (36, .istore 4, 38, 0), (38, .iload_n 1, 39, 0), (39, .aload_n 0, 40, 0), (40, .getfield 7, 43, 0), (43, .iload_n 3, 44, 0), (44, .iaload, 45, 0), (45, .aload_n 0, 46, 0), (46, .getfield 13, 49, 0), (49, .iload 4, 51, 0), (51, .iaload, 52, 0), (52, .imul, 53, 0), (53, .aload_n 0, 54, 0), (54, .getfield 7, 57, 0), (57, .iload 4, 59, 0), (59, .iaload, 60, 0), (60, .aload_n 0, 61, 0), (61, .getfield 13, 64, 0), (64, .iload_n 3, 65, 0), (65, .iaload, 66, 0), (66, .imul, 67, 0), (67, .isub, 68, 0), (68, .iadd, 69, 0), (69, .istore_n 1, 70, 0), (70, .iinc 2 1, 73, 0), (73, .goto (-65), 76, 8), (76, .iload_n 1, 77, 0), (77, .ireturn, 78, 0)]
def mX8_area : av_mi := (yX8_area, cX8_area, 5, (some .int), tX8_area)
theorem oX8_area : av_OK mX8_area := by unfold av_OK; decide +kernel
def tX8_open : av_T := [(0, .aload_n 0, 1, 0), (1, .invokevirtual 147, 4, 0), (4, .ifCond .eq 6, 7, 10), (7, .ldc 137, 9, 0), (9, .ireturn, 10, 0), (10, .iconst 0, 11, 0), (11, .istore_n 1, 12, 0), (12, .iconst 0, 13, 0), (13, .istore_n 2, 14, 0), (14, .iload_n 2, 15, 0), (15, .aload_n 0, 16, 0), (16, .getfield 131, 19, 0), (19, .if_icmp .ge 42, 22, 61), (22, .iconst 0, 23, 0), (23, .istore_n 3, 24, 0), (24, .iload_n 3, 25, 0), (25, .aload_n 0, 26, 0), (26, .getfield 131, 29, 0), (29, .if_icmp .ge 26, 32, 55), (32, .iload_n 1, 33, 0), (33, .aload_n 0, 34, 0), (34, .iload_n 2, 35, 0), (35, .iload_n 3, 36, 0), (36, .invokevirtual 144, 39, 0), (39, .ifCond .le 7, 42, 46), (42, .iconst 1, 43, 0), (43, .goto 4, 46, 47), (46, .iconst 0, 47, 0), (47, .iadd, 48, 0), (48, .istore_n 1, 49, 0), (49, .iinc 3 1, 52, 0), (52, .goto (-28), 55, 24), (55, .iinc 2 1, 58, 0), (58, .goto (-44), 61, 14), (61, .iload_n 1, 62, 0), (62, .ireturn, 63, 0)]
def mX8_open : av_mi := (yX8_open, cX8_open, 4, (some .int), tX8_open)
theorem oX8_open : av_OK mX8_open := by unfold av_OK; decide +kernel
def tX8_layOpen : av_T := [(0, .aload_n 0, 1, 0), (1, .lconst 0, 2, 0), (2, .putfield 151, 5, 0), (5, .iconst 0, 6, 0), (6, .istore_n 1, 7, 0), (7, .iload_n 1, 8, 0), (8, .aload_n 0, 9, 0), (9, .getfield 131, 12, 0), (12, .if_icmp .ge 78, 15, 90), (15, .aload_n 0, 16, 0), (16, .getfield 35, 19, 0), (19, .iload_n 1, 20, 0), (20, .iconst 0, 21, 0), (21, .iastore, 22, 0), (22, .iconst 0, 23, 0), (23, .istore_n 2, 24, 0), (24, .iload_n 2, 25, 0), (25, .aload_n 0, 26, 0), (26, .getfield 131, 29, 0), (29, .if_icmp .ge 34, 32, 63), (32, .aload_n 0, 33, 0), (33, .getfield 35, 36, 0), (36, .iload_n 1, 37, 0), (37, .dup2, 38, 0), (38, .iaload, 39, 0), (39, .aload_n 0, 40, 0), (40, .iload_n 1, 41, 0), (41, .iload_n 2, 42, 0), (42, .invokevirtual 144, 45, 0), (45, .ifCond .le 9, 48, 54), (48, .iconst 1, 49, 0), (49, .iload_n 2, 50, 0), (50, .ishl, 51, 0), (51, .goto 4, 54, 55), (54, .iconst 0, 55, 0), (55, .ior, 56, 0), (56, .iastore, 57, 0), (57, .iinc 2 1, 60, 0), (60, .goto (-36), 63, 24), (63, .aload_n 0, 64, 0), (64, .dup, 65, 0), (65, .getfield 151, 68, 0), (68, .aload_n 0, 69, 0), (69, .getfield 35, 72, 0), (72, .iload_n 1, 73, 0), (73, .iaload, 74, 0), (74, .i2l, 75, 0), (75, .bipush 8, 77, 0), (77, .iload_n 1, 78, 0), (78, .imul, 79, 0), (79, .lshl, 80, 0), (80, .lor, 81, 0), (81, .putfield 151, 84, 0), (84, .iinc 1 1, 87, 0), (87, .goto (-80), 90, 7), (90, .return_, 91, 0)]
def mX8_layOpen : av_mi := (yX8_layOpen, cX8_layOpen, 3, none, tX8_layOpen)
theorem oX8_layOpen : av_OK mX8_layOpen := by unfold av_OK; decide +kernel
def tX8_layBlocks : av_T := [(0, .aload_n 0, 1, 0), (1, .iconst 0, 2, 0), (2, .putfield 155, 5, 0), (5, .iconst 1, 6, 0), (6, .istore_n 1, 7, 0), (7, .iload_n 1, 8, 0), (8, .iconst 1, 9, 0), (9, .aload_n 0, 10, 0), (10, .getfield 131, 13, 0), (13, .ishl, 14, 0), (14, .if_icmp .ge 167, 17, 181), (17, .iconst 1, 18, 0), (18, .aload_n 0, 19, 0), (19, .getfield 131, 22, 0), (22, .ishl, 23, 0), (23, .iconst 1, 24, 0), (24, .isub, 25, 0), (25, .istore_n 2, 26, 0), (26, .iconst 0, 27, 0), (27, .istore_n 3, 28, 0), (28, .iload_n 3, 29, 0), (29, .aload_n 0, 30, 0), (30, .getfield 131, 33, 0), (33, .if_icmp .ge 31, 36, 64), (36, .iload_n 2, 37, 0), (37, .iload_n 1, 38, 0), (38, .iload_n 3, 39, 0), (39, .ishr, 40, 0), (40, .iconst 1, 41, 0), (41, .iand, 42, 0), (42, .iconst 1, 43, 0), (43, .if_icmp .ne 12, 46, 55), (46, .aload_n 0, 47, 0), (47, .getfield 35, 50, 0), (50, .iload_n 3, 51, 0), (51, .iaload, 52, 0), (52, .goto 4, 55, 56), (55, .iload_n 2, 56, 0), (56, .iand, 57, 0), (57, .istore_n 2, 58, 0), (58, .iinc 3 1, 61, 0), (61, .goto (-33), 64, 28), (64, .iconst 0, 65, 0), (65, .istore_n 3, 66, 0), (66, .lconst 0, 67, 0), (67, .lstore 4, 69, 0), (69, .iconst 0, 70, 0), (70, .istore 6, 72, 0), (72, .iload 6, 74, 0), (74, .aload_n 0, 75, 0), (75, .getfield 131, 78, 0), (78, .if_icmp .ge 67, 81, 145), (81, .aload_n 0, 82, 0), (82, .getfield 35, 85, 0), (85, .iload 6, 87, 0), (87, .iaload, 88, 0), (88, .iload_n 2, 89, 0), (89, .iand, 90, 0), (90, .iload_n 2, 91, 0), (91, .if_icmp .ne 7, 94, 98), (94, .iconst 1, 95, 0), (95, .goto 4, 98, 99), (98, .iconst 0, 99, 0), (99, .istore 7, 101, 0), (101, .iload_n 3, 102, 0), (102, .iload 7, 104, 0), (104, .ifCond .eq 10, 107, 114), (107, .iconst 1, 108, 0), (108, .iload 6, 110, 0), (110, .ishl, 111, 0), (111, .goto 4, 114, 115), (114, .iconst 0, 115, 0), (115, .ior, 116, 0), (116, .istore_n 3, 117, 0), (117, .lload 4, 119, 0), (119, .iload 7, 121, 0), (121, .ifCond .eq 14, 124, 135), (124, .iload_n 2, 125, 0), (125, .i2l, 126, 0), (126, .bipush 8, 128, 0), (128, .iload 6, 130, 0), (130, .imul, 131, 0), (131, .lshl, 132, 0), (132, .goto 4, 135, 136), (135, .lconst 0, 136, 0), (136, .lor, 137, 0), (137, .lstore 4, 139, 0), (139, .iinc 6 1, 142, 0), (142, .goto (-70), 145, 72), (145, .iload_n 2, 146, 0), (146, .ifCond .eq 29, 149, 175), (149, .iload_n 3, 150, 0), (150, .iload_n 1, 151, 0), (151, .if_icmp .ne 24, 154, 175), (154, .aload_n 0, 155, 0), (155, .getfield 32, 158, 0), (158, .aload_n 0, 159, 0), (159, .getfield 155, 162, 0), (162, .lload 4, 164, 0), (164, .lastore, 165, 0), (165, .aload_n 0, 166, 0), (166, .dup, 167, 0), (167, .getfield 155, 170, 0), (170, .iconst 1, 171, 0), (171, .iadd, 172, 0), (172, .putfield 155, 175, 0), (175, .iinc 1 1, 178, 0), (178, .goto (-171), 181, 7), (181, .return_, 182, 0)]
def mX8_layBlocks : av_mi := (yX8_layBlocks, cX8_layBlocks, 8, none, tX8_layBlocks)
theorem oX8_layBlocks : av_OK mX8_layBlocks := by unfold av_OK; decide +kernel
def tX8_firstBit : av_T := [(0, .iconst 0, 1, 0), (1, .istore_n 2, 2, 0), (2, .iload_n 2, 3, 0), (3, .bipush 64, 5, 0), (5, .if_icmp .ge 19, 8, 24), (8, .lload_n 0, 9, 0), (9, .iload_n 2, 10, 0), (10, .lshr, 11, 0), (11, .lconst 1, 12, 0), (12, .land, 13, 0), (13, .lconst 0, 14, 0), (14, .lcmp, 15, 0), (15, .ifCond .ne 9, 18, 24), (18, .iinc 2 1, 21, 0), (21, .goto (-19), 24, 2), (24, .iload_n 2, 25, 0), (25, .ireturn, 26, 0)]
def mX8_firstBit : av_mi := (yX8_firstBit, cX8_firstBit, 3, (some .int), tX8_firstBit)
theorem oX8_firstBit : av_OK mX8_firstBit := by unfold av_OK; decide +kernel
def tX8_ones : av_T := [(0, .iconst 0, 1, 0), (1, .istore_n 2, 2, 0), (2, .iconst 0, 3, 0), (3, .istore_n 3, 4, 0), (4, .iload_n 3, 5, 0), (5, .bipush 64, 7, 0), (7, .if_icmp .ge 18, 10, 25), (10, .iload_n 2, 11, 0), (11, .lload_n 0, 12, 0), (12, .iload_n 3, 13, 0), (13, .lshr, 14, 0), (14, .lconst 1, 15, 0), (15, .land, 16, 0), (16, .l2i, 17, 0), (17, .iadd, 18, 0), (18, .istore_n 2, 19, 0), (19, .iinc 3 1, 22, 0), (22, .goto (-18), 25, 4), (25, .iload_n 2, 26, 0), (26, .ireturn, 27, 0)]
def mX8_ones : av_mi := (yX8_ones, cX8_ones, 4, (some .int), tX8_ones)
theorem oX8_ones : av_OK mX8_ones := by unfold av_OK; decide +kernel
def tX8_covers : av_T := [(0, .iconst 0, 1, 0), (1, .istore_n 2, 2, 0), (2, .aload_n 0, 3, 0), (3, .getfield 44, 6, 0), (6, .iconst 0, 7, 0), (7, .lconst 0, 8, 0), (8, .lastore, 9, 0), (9, .aload_n 0, 10, 0), (10, .getfield 47, 13, 0), (13, .iconst 0, 14, 0), (14, .iconst 0, 15, 0), (15, .iastore, 16, 0), (16, .iload_n 2, 17, 0), (17, .ifCond .lt 124, 20, 141), (20, .aload_n 0, 21, 0), (21, .getfield 151, 24, 0), (24, .aload_n 0, 25, 0), (25, .getfield 44, 28, 0), (28, .iload_n 2, 29, 0), (29, .laload, 30, 0), (30, .ldc2_w 117, 33, 0), (33, .lxor, 34, 0), (34, .land, 35, 0), (35, .lstore_n 3, 36, 0), (36, .lload_n 3, 37, 0), (37, .lconst 0, 38, 0), (38, .lcmp, 39, 0), (39, .ifCond .ne 5, 42, 44), (42, .iconst 1, 43, 0), (43, .ireturn, 44, 0), (44, .lload_n 3, 45, 0), (45, .invokestatic 158, 48, 0), (48, .istore 5, 50, 0), (50, .iload_n 2, 51, 0), (51, .iload_n 1, 52, 0), (52, .if_icmp .eq 16, 55, 68), (55, .aload_n 0, 56, 0), (56, .getfield 47, 59, 0), (59, .iload_n 2, 60, 0), (60, .iaload, 61, 0), (61, .aload_n 0, 62, 0), (62, .getfield 155, 65, 0), (65, .if_icmp .ne 9, 68, 74), (68, .iinc 2 (-1), 71, 0), (71, .goto 67, 74, 138), (74, .aload_n 0, 75, 0), (75, .getfield 32, 78, 0), (78, .aload_n 0, 79, 0), (79, .getfield 47, 82, 0), (82, .iload_n 2, 83, 0), (83, .iaload, 84, 0), (84, .laload, 85, 0), (85, .lstore 6, 87, 0), (87, .aload_n 0, 88, 0), (88, .getfield 47, 91, 0), (91, .iload_n 2, 92, 0), (92, .dup2, 93, 0), (93, .iaload, 94, 0), (94, .iconst 1, 95, 0), (95, .iadd, 96, 0), (96, .iastore, 97, 0), (97, .lload 6, 99, 0), (99, .iload 5, 101, 0), (101, .lshr, 102, 0), (102, .lconst 1, 103, 0), (103, .land, 104, 0), (104, .lconst 1, 105, 0), (105, .lcmp, 106, 0), (106, .ifCond .ne 32, 109, 138), (109, .aload_n 0, 110, 0), (110, .getfield 44, 113, 0), (113, .iload_n 2, 114, 0), (114, .iconst 1, 115, 0), (115, .iadd, 116, 0), (116, .aload_n 0, 117, 0), (117, .getfield 44, 120, 0), (120, .iload_n 2, 121, 0), (121, .laload, 122, 0), (122, .lload 6, 124, 0), (124, .lor, 125, 0), (125, .lastore, 126, 0), (126, .aload_n 0, 127, 0), (127, .getfield 47, 130, 0), (130, .iload_n 2, 131, 0), (131, .iconst 1, 132, 0), (132, .iadd, 133, 0), (133, .iconst 0, 134, 0), (134, .iastore, 135, 0), (135, .iinc 2 1, 138, 0), (138, .goto (-122), 141, 16), (141, .iconst 0, 142, 0), (142, .ireturn, 143, 0)]
def mX8_covers : av_mi := (yX8_covers, cX8_covers, 8, (some .boolean), tX8_covers)
theorem oX8_covers : av_OK mX8_covers := by unfold av_OK; decide +kernel
def tX8_coverNow : av_T := [(0, .aload_n 0, 1, 0), (1, .getfield 38, 4, 0), (4, .aload_n 0, 5, 0), (5, .getfield 131, 8, 0), (8, .iaload, 9, 0), (9, .ifCond .ne 37, 12, 46), (12, .aload_n 0, 13, 0), (13, .invokevirtual 162, 16, 0), (16, .aload_n 0, 17, 0), (17, .invokevirtual 165, 20, 0), (20, .iconst 1, 21, 0), (21, .istore_n 1, 22, 0), (22, .aload_n 0, 23, 0), (23, .iload_n 1, 24, 0), (24, .invokevirtual 168, 27, 0), (27, .ifCond .ne 9, 30, 36), (30, .iinc 1 1, 33, 0), (33, .goto (-11), 36, 22), (36, .aload_n 0, 37, 0), (37, .getfield 38, 40, 0), (40, .aload_n 0, 41, 0), (41, .getfield 131, 44, 0), (44, .iload_n 1, 45, 0), (45, .iastore, 46, 0), (46, .aload_n 0, 47, 0), (47, .getfield 38, 50, 0), (50, .aload_n 0, 51, 0), (51, .getfield 131, 54, 0), (54, .iaload, 55, 0), (55, .ireturn, 56, 0)]
def mX8_coverNow : av_mi := (yX8_coverNow, cX8_coverNow, 2, (some .int), tX8_coverNow)
theorem oX8_coverNow : av_OK mX8_coverNow := by unfold av_OK; decide +kernel
def tX8_isOpen : av_T := [(0, .aload_n 0, 1, 0), (1, .getfield 35, 4, 0), (4, .iload_n 1, 5, 0), (5, .iaload, 6, 0), (6, .iload_n 2, 7, 0), (7, .ishr, 8, 0), (8, .iconst 1, 9, 0), (9, .iand, 10, 0), (10, .iconst 1, 11, 0), (11, .if_icmp .ne 7, 14, 18), (14, .iconst 1, 15, 0), (15, .goto 4, 18, 19), (18, .iconst 0, 19, 0), (19, .ireturn, 20, 0)]
def mX8_isOpen : av_mi := (yX8_isOpen, cX8_isOpen, 3, (some .boolean), tX8_isOpen)
theorem oX8_isOpen : av_OK mX8_isOpen := by unfold av_OK; decide +kernel
def tX8_layFooling : av_T := [(0, .iconst 0, 1, 0), (1, .istore_n 1, 2, 0), (2, .iload_n 1, 3, 0), (3, .bipush 64, 5, 0), (5, .if_icmp .ge 129, 8, 134), (8, .aload_n 0, 9, 0), (9, .getfield 50, 12, 0), (12, .iload_n 1, 13, 0), (13, .lconst 0, 14, 0), (14, .lastore, 15, 0), (15, .iconst 0, 16, 0), (16, .istore_n 2, 17, 0), (17, .iload_n 2, 18, 0), (18, .bipush 64, 20, 0), (20, .if_icmp .ge 108, 23, 128), (23, .aload_n 0, 24, 0), (24, .getfield 151, 27, 0), (27, .iload_n 1, 28, 0), (28, .lshr, 29, 0), (29, .lconst 1, 30, 0), (30, .land, 31, 0), (31, .lconst 1, 32, 0), (32, .lcmp, 33, 0), (33, .ifCond .ne 25, 36, 58), (36, .aload_n 0, 37, 0), (37, .getfield 151, 40, 0), (40, .iload_n 2, 41, 0), (41, .lshr, 42, 0), (42, .lconst 1, 43, 0), (43, .land, 44, 0), (44, .lconst 1, 45, 0), (45, .lcmp, 46, 0), (46, .ifCond .ne 12, 49, 58), (49, .iload_n 1, 50, 0), (50, .iload_n 2, 51, 0), (51, .if_icmp .eq 7, 54, 58), (54, .iconst 1, 55, 0), (55, .goto 4, 58, 59), (58, .iconst 0, 59, 0), (59, .istore_n 3, 60, 0), (60, .iload_n 3, 61, 0), (61, .ifCond .eq 37, 64, 98), (64, .aload_n 0, 65, 0), (65, .iload_n 1, 66, 0), (66, .bipush 8, 68, 0), (68, .idiv, 69, 0), (69, .iload_n 2, 70, 0), (70, .bipush 8, 72, 0), (72, .irem, 73, 0), (73, .invokevirtual 172, 76, 0), (76, .ifCond .eq 18, 79, 94), (79, .aload_n 0, 80, 0), (80, .iload_n 2, 81, 0), (81, .bipush 8, 83, 0), (83, .idiv, 84, 0), (84, .iload_n 1, 85, 0), (85, .bipush 8, 87, 0), (87, .irem, 88, 0), (88, .invokevirtual 172, 91, 0), (91, .ifCond .ne 7, 94, 98), (94, .iconst 1, 95, 0), (95, .goto 4, 98, 99), (98, .iconst 0, 99, 0), (99, .istore 4, 101, 0), (101, .aload_n 0, 102, 0), (102, .getfield 50, 105, 0), (105, .iload_n 1, 106, 0), (106, .dup2, 107, 0), (107, .laload, 108, 0), (108, .iload 4, 110, 0), (110, .ifCond .eq 9, 113, 119), (113, .lconst 1, 114, 0), (114, .iload_n 2, 115, 0), (115, .lshl, 116, 0), (116, .goto 4, 119, 120), (119, .lconst 0, 120, 0), (120, .lor, 121, 0), (121, .lastore, 122, 0), (122, .iinc 2 1, 125, 0), (125, .goto (-108), 128, 17), (128, .iinc 1 1, 131, 0), (131, .goto (-129), 134, 2), (134, .return_, 135, 0)]
def mX8_layFooling : av_mi := (yX8_layFooling, cX8_layFooling, 5, none, tX8_layFooling)
theorem oX8_layFooling : av_OK mX8_layFooling := by unfold av_OK; decide +kernel
def tX8_foolsNow : av_T := [(0, .aload_n 0, 1, 0), (1, .getfield 41, 4, 0), (4, .aload_n 0, 5, 0), (5, .getfield 131, 8, 0), (8, .iaload, 9, 0), (9, .ifCond .ne 134, 12, 143), (12, .aload_n 0, 13, 0), (13, .invokevirtual 162, 16, 0), (16, .aload_n 0, 17, 0), (17, .invokevirtual 175, 20, 0), (20, .iconst 0, 21, 0), (21, .istore_n 1, 22, 0), (22, .iconst 0, 23, 0), (23, .istore_n 2, 24, 0), (24, .aload_n 0, 25, 0), (25, .getfield 44, 28, 0), (28, .iconst 0, 29, 0), (29, .aload_n 0, 30, 0), (30, .getfield 151, 33, 0), (33, .lastore, 34, 0), (34, .iload_n 2, 35, 0), (35, .ifCond .lt 98, 38, 133), (38, .aload_n 0, 39, 0), (39, .getfield 44, 42, 0), (42, .iload_n 2, 43, 0), (43, .laload, 44, 0), (44, .invokestatic 158, 47, 0), (47, .istore_n 3, 48, 0), (48, .iload_n 3, 49, 0), (49, .bipush 64, 51, 0), (51, .if_icmp .eq 18, 54, 69), (54, .iload_n 2, 55, 0), (55, .aload_n 0, 56, 0), (56, .getfield 44, 59, 0), (59, .iload_n 2, 60, 0), (60, .laload, 61, 0), (61, .invokestatic 178, 64, 0), (64, .iadd, 65, 0), (65, .iload_n 1, 66, 0), (66, .if_icmp .gt 9, 69, 75), (69, .iinc 2 (-1), 72, 0), (72, .goto 58, 75, 130), (75, .aload_n 0, 76, 0), (76, .getfield 44, 79, 0), (79, .iload_n 2, 80, 0), (80, .dup2, 81, 0), (81, .laload, 82, 0), (82, .lconst 1, 83, 0), (83, .iload_n 3, 84, 0), (84, .lshl, 85, 0), (85, .ldc2_w 117, 88, 0), (88, .lxor, 89, 0), (89, .land, 90, 0), (90, .lastore, 91, 0), (91, .iload_n 2, 92, 0), (92, .iconst 1, 93, 0), (93, .iadd, 94, 0), (94, .iload_n 1, 95, 0), (95, .if_icmp .le 9, 98, 104), (98, .iload_n 2, 99, 0), (99, .iconst 1, 100, 0), (100, .iadd, 101, 0), (101, .goto 4, 104, 105), (104, .iload_n 1, 105, 0), (105, .istore_n 1, 106, 0), (106, .aload_n 0, 107, 0), (107, .getfield 44, 110, 0), (110, .iload_n 2, 111, 0), (111, .iconst 1, 112, 0), (112, .iadd, 113, 0), (113, .aload_n 0, 114, 0), (114, .getfield 44, 117, 0), (117, .iload_n 2, 118, 0), (118, .laload, 119, 0), (119, .aload_n 0, 120, 0), (120, .getfield 50, 123, 0), (123, .iload_n 3, 124, 0), (124, .laload, 125, 0), (125, .land, 126, 0), (126, .lastore, 127, 0), (127, .iinc 2 1, 130, 0), (130, .goto (-96), 133, 34), (133, .aload_n 0, 134, 0), (134, .getfield 41, 137, 0), (137, .aload_n 0, 138, 0), (138, .getfield 131, 141, 0), (141, .iload_n 1, 142, 0), (142, .iastore, 143, 0), (143, .aload_n 0, 144, 0), (144, .getfield 41, 147, 0), (147, .aload_n 0, 148, 0), (148, .getfield 131, 151, 0), (151, .iaload, 152, 0), (152, .ireturn, 153, 0)]
def mX8_foolsNow : av_mi := (yX8_foolsNow, cX8_foolsNow, 4, (some .int), tX8_foolsNow)
theorem oX8_foolsNow : av_OK mX8_foolsNow := by unfold av_OK; decide +kernel
def tX8_mayBound : av_T := [(0, .aload_n 0, 1, 0), (1, .invokevirtual 147, 4, 0), (4, .ifCond .ne 16, 7, 20), (7, .aload_n 0, 8, 0), (8, .getfield 131, 11, 0), (11, .bipush 8, 13, 0), (13, .if_icmp .gt 7, 16, 20), (16, .iconst 1, 17, 0), (17, .goto 4, 20, 21), (20, .iconst 0, 21, 0), (21, .ireturn, 22, 0)]
def mX8_mayBound : av_mi := (yX8_mayBound, cX8_mayBound, 1, (some .boolean), tX8_mayBound)
theorem oX8_mayBound : av_OK mX8_mayBound := by unfold av_OK; decide +kernel
def tX8_logNow : av_T := [(0, .iconst 0, 1, 0), (1, .istore_n 1, 2, 0), (2, .iconst 1, 3, 0), (3, .iload_n 1, 4, 0), (4, .ishl, 5, 0), (5, .iconst 2, 6, 0), (6, .aload_n 0, 7, 0), (7, .getfield 131, 10, 0), (10, .imul, 11, 0), (11, .iconst 2, 12, 0), (12, .iadd, 13, 0), (13, .if_icmp .ge 9, 16, 22), (16, .iinc 1 1, 19, 0), (19, .goto (-17), 22, 2), (22, .iload_n 1, 23, 0), (23, .ireturn, 24, 0)]
def mX8_logNow : av_mi := (yX8_logNow, cX8_logNow, 2, (some .int), tX8_logNow)
theorem oX8_logNow : av_OK mX8_logNow := by unfold av_OK; decide +kernel
def tX8_cover : av_T := [(0, .aload_n 0, 1, 0), (1, .invokevirtual 181, 4, 0), (4, .ifCond .eq 10, 7, 14), (7, .aload_n 0, 8, 0), (8, .invokevirtual 184, 11, 0), (11, .goto 5, 14, 16), (14, .ldc 137, 16, 0), (16, .ireturn, 17, 0)]
def mX8_cover : av_mi := (yX8_cover, cX8_cover, 1, (some .int), tX8_cover)
theorem oX8_cover : av_OK mX8_cover := by unfold av_OK; decide +kernel
def tX8_fools : av_T := [(0, .aload_n 0, 1, 0), (1, .invokevirtual 181, 4, 0), (4, .ifCond .eq 10, 7, 14), (7, .aload_n 0, 8, 0), (8, .invokevirtual 188, 11, 0), (11, .goto 5, 14, 16), (14, .ldc 137, 16, 0), (16, .ireturn, 17, 0)]
def mX8_fools : av_mi := (yX8_fools, cX8_fools, 1, (some .int), tX8_fools)
theorem oX8_fools : av_OK mX8_fools := by unfold av_OK; decide +kernel
def tX8_log : av_T := [(0, .aload_n 0, 1, 0), (1, .invokevirtual 181, 4, 0), (4, .ifCond .eq 10, 7, 14), (7, .aload_n 0, 8, 0), (8, .invokevirtual 191, 11, 0), (11, .goto 5, 14, 16), (14, .ldc 137, 16, 0), (16, .ireturn, 17, 0)]
def mX8_log : av_mi := (yX8_log, cX8_log, 1, (some .int), tX8_log)
theorem oX8_log : av_OK mX8_log := by unfold av_OK; decide +kernel
def tX8_low : av_T := [(0, .aload_n 0, 1, 0), (1, .invokevirtual 181, 4, 0), (4, .ifCond .ne 6, 7, 10), (7, .ldc 137, 9, 0), (9, .ireturn, 10, 0), (10, .aload_n 0, 11, 0), (11, .invokevirtual 184, 14, 0), (14, .aload_n 0, 15, 0), (15, .invokevirtual 191, 18, 0), (18, .if_icmp .le 10, 21, 28), (21, .aload_n 0, 22, 0), (22, .invokevirtual 184, 25, 0), (25, .goto 7, 28, 32), (28, .aload_n 0, 29, 0), (29, .invokevirtual 191, 32, 0), (32, .istore_n 1, 33, 0), (33, .iload_n 1, 34, 0), (34, .iconst 3, 35, 0), (35, .if_icmp .le 7, 38, 42), (38, .iload_n 1, 39, 0), (39, .goto 4, 42, 43), (42, .iconst 3, 43, 0), (43, .ireturn, 44, 0)]
def mX8_low : av_mi := (yX8_low, cX8_low, 2, (some .int), tX8_low)
theorem oX8_low : av_OK mX8_low := by unfold av_OK; decide +kernel
def tX8_factors : av_T := [(0, .iload_n 1, 1, 0), (1, .i2l, 2, 0), (2, .lconst 1, 3, 0), (3, .ldc2_w 194, 6, 0), (6, .invokestatic 96, 9, 0), (9, .ifCond .eq 15, 12, 24), (12, .iload_n 2, 13, 0), (13, .i2l, 14, 0), (14, .lconst 1, 15, 0), (15, .ldc2_w 196, 18, 0), (18, .invokestatic 96, 21, 0), (21, .ifCond .ne 6, 24, 27), (24, .ldc 100, 26, 0), (26, .ireturn, 27, 0), (27, .aload_n 0, 28, 0), (28, .getfield 53, 31, 0), (31, .istore_n 3, 32, 0), (32, .aload_n 0, 33, 0), (33, .iload_n 1, 34, 0), (34, .putfield 53, 37, 0), (37, .aload_n 0, 38, 0), (38, .iload_n 2, 39, 0), (39, .putfield 57, 42, 0), (42, .iload_n 3, 43, 0), (43, .ireturn, 44, 0)]
def mX8_factors : av_mi := (yX8_factors, cX8_factors, 4, (some .int), tX8_factors)
theorem oX8_factors : av_OK mX8_factors := by unfold av_OK; decide +kernel
def tX8_entry : av_T := [(0, .iload_n 2, 1, 0), (1, .i2l, 2, 0), (2, .lconst 0, 3, 0), (3, .iload_n 1, 4, 0), (4, .ifCond .eq 9, 7, 13), (7, .ldc2_w 198, 10, 0), (10, .goto 6, 13, 16), (13, .ldc2_w 200, 16, 0), (16, .invokestatic 96, 19, 0), (19, .ifCond .eq 25, 22, 44), (22, .iload_n 3, 23, 0), (23, .i2l, 24, 0), (24, .lconst 0, 25, 0), (25, .iload_n 1, 26, 0), (26, .ifCond .eq 9, 29, 35), (29, .ldc2_w 200, 32, 0), (32, .goto 6, 35, 38), (35, .ldc2_w 198, 38, 0), (38, .invokestatic 96, 41, 0), (41, .ifCond .ne 6, 44, 47), (44, .ldc 105, 46, 0), (46, .ireturn, 47, 0), (47, .iload 4, 49, 0), (49, .i2l, 50, 0), (50, .lconst 0, 51, 0), (51, .ldc2_w 202, 54, 0), (54, .invokestatic 96, 57, 0), (57, .ifCond .ne 6, 60, 63), (60, .ldc 100, 62, 0), (62, .ireturn, 63, 0), (63, .iload_n 1, 64, 0), (64, .ifCond .eq 32, 67, 96), (67, .aload_n 0, 68, 0), (68, .getfield 60, 71, 0), (71, .bipush 8, 73, 0), (73, .iload_n 2, 74, 0), (74, .imul, 75, 0), (75, .iload_n 3, 76, 0), (76, .iadd, 77, 0), (77, .iaload, 78, 0), (78, .istore 5, 80, 0), (80, .aload_n 0, 81, 0), (81, .getfield 60, 84, 0), (84, .bipush 8, 86, 0), (86, .iload_n 2, 87, 0), (87, .imul, 88, 0), (88, .iload_n 3, 89, 0), (89, .iadd, 90, 0), (90, .iload 4, 92, 0), (92, .iastore, 93, 0), (93, .iload 5, 95, 0), (95, .ireturn, 96, 0), (96, .aload_n 0, 97, 0), (97, .getfield 63, 100, 0), (100, .bipush 12, 102, 0), (102, .iload_n 2, 103, 0), (103, .imul, 104, 0), (104, .iload_n 3, 105, 0), (105, .iadd, 106, 0), (106, .iaload, 107, 0), (107, .istore 5, 109, 0), (109, .aload_n 0, 110, 0), (110, .getfield 63, 113, 0), (113, .bipush 12, 115, 0), (115, .iload_n 2, 116, 0), (116, .imul, 117, 0), (117, .iload_n 3, 118, 0), (118, .iadd, 119, 0), (119, .iload 4, 121, 0), (121, .iastore, 122, 0), (122, .iload 5, 124, 0), (124, .ireturn, 125, 0)]
def mX8_entry : av_mi := (yX8_entry, cX8_entry, 6, (some .int), tX8_entry)
theorem oX8_entry : av_OK mX8_entry := by unfold av_OK; decide +kernel
def tX8_wrongPair : av_T := [(0, .iconst 0, 1, 0), (1, .istore_n 1, 2, 0), (2, .iload_n 1, 3, 0), (3, .aload_n 0, 4, 0), (4, .getfield 131, 7, 0), (7, .if_icmp .ge 100, 10, 107), (10, .iconst 0, 11, 0), (11, .istore_n 2, 12, 0), (12, .iload_n 2, 13, 0), (13, .aload_n 0, 14, 0), (14, .getfield 131, 17, 0), (17, .if_icmp .ge 84, 20, 101), (20, .lconst 0, 21, 0), (21, .lstore_n 3, 22, 0), (22, .iconst 0, 23, 0), (23, .istore 5, 25, 0), (25, .iload 5, 27, 0), (27, .aload_n 0, 28, 0), (28, .getfield 53, 31, 0), (31, .if_icmp .ge 39, 34, 70), (34, .lload_n 3, 35, 0), (35, .aload_n 0, 36, 0), (36, .getfield 60, 39, 0), (39, .bipush 8, 41, 0), (41, .iload_n 1, 42, 0), (42, .imul, 43, 0), (43, .iload 5, 45, 0), (45, .iadd, 46, 0), (46, .iaload, 47, 0), (47, .i2l, 48, 0), (48, .aload_n 0, 49, 0), (49, .getfield 63, 52, 0), (52, .bipush 12, 54, 0), (54, .iload 5, 56, 0), (56, .imul, 57, 0), (57, .iload_n 2, 58, 0), (58, .iadd, 59, 0), (59, .iaload, 60, 0), (60, .i2l, 61, 0), (61, .lmul, 62, 0), (62, .ladd, 63, 0), (63, .lstore_n 3, 64, 0), (64, .iinc 5 1, 67, 0), (67, .goto (-42), 70, 25), (70, .lload_n 3, 71, 0), (71, .aload_n 0, 72, 0), (72, .getfield 57, 75, 0), (75, .i2l, 76, 0), (76, .aload_n 0, 77, 0), (77, .iload_n 1, 78, 0), (78, .iload_n 2, 79, 0), (79, .invokevirtual 144, 82, 0), (82, .i2l, 83, 0), (83, .lmul, 84, 0), (84, .lcmp, 85, 0), (85, .ifCond .eq 10, 88, 95), (88, .bipush 100, 90, 0), (90, .iload_n 1, 91, 0), (91, .imul, 92, 0), (92, .iload_n 2, 93, 0), (93, .iadd, 94, 0), (94, .ireturn, 95, 0), (95, .iinc 2 1, 98, 0), (98, .goto (-86), 101, 12), (101, .iinc 1 1, 104, 0), (104, .goto (-102), 107, 2), (107, .ldc 204, 109, 0), (109, .ireturn, 110, 0)]
def mX8_wrongPair : av_mi := (yX8_wrongPair, cX8_wrongPair, 6, (some .int), tX8_wrongPair)
theorem oX8_wrongPair : av_OK mX8_wrongPair := by unfold av_OK; decide +kernel
def tX8_hold : av_T := [(0, .aload_n 0, 1, 0), (1, .invokevirtual 147, 4, 0), (4, .ifCond .eq 8, 7, 12), (7, .ldc 137, 9, 0), (9, .goto 17, 12, 26), (12, .aload_n 0, 13, 0), (13, .invokevirtual 205, 16, 0), (16, .ldc 204, 18, 0), (18, .if_icmp .ne 7, 21, 25), (21, .iconst 1, 22, 0), (22, .goto 4, 25, 26), (25, .iconst 0, 26, 0), (26, .ireturn, 27, 0)]
def mX8_hold : av_mi := (yX8_hold, cX8_hold, 1, (some .int), tX8_hold)
theorem oX8_hold : av_OK mX8_hold := by unfold av_OK; decide +kernel
def tX8_wrong : av_T := [(0, .aload_n 0, 1, 0), (1, .invokevirtual 147, 4, 0), (4, .ifCond .eq 8, 7, 12), (7, .ldc 137, 9, 0), (9, .goto 7, 12, 16), (12, .aload_n 0, 13, 0), (13, .invokevirtual 205, 16, 0), (16, .ireturn, 17, 0)]
def mX8_wrong : av_mi := (yX8_wrong, cX8_wrong, 1, (some .int), tX8_wrong)
theorem oX8_wrong : av_OK mX8_wrong := by unfold av_OK; decide +kernel
def tX8_wall : av_T := [(0, .iload_n 1, 1, 0), (1, .i2l, 2, 0), (2, .ldc2_w 208, 5, 0), (5, .ldc2_w 210, 8, 0), (8, .invokestatic 96, 11, 0), (11, .ifCond .eq 58, 14, 69), (14, .iload_n 2, 15, 0), (15, .i2l, 16, 0), (16, .ldc2_w 208, 19, 0), (19, .ldc2_w 210, 22, 0), (22, .invokestatic 96, 25, 0), (25, .ifCond .eq 44, 28, 69), (28, .iload_n 3, 29, 0), (29, .i2l, 30, 0), (30, .ldc2_w 208, 33, 0), (33, .ldc2_w 210, 36, 0), (36, .invokestatic 96, 39, 0), (39, .ifCond .eq 30, 42, 69), (42, .iload 4, 44, 0), (44, .i2l, 45, 0), (45, .ldc2_w 212, 48, 0), (48, .ldc2_w 214, 51, 0), (51, .invokestatic 96, 54, 0), (54, .ifCond .eq 15, 57, 69), (57, .iload_n 1, 58, 0), (58, .ifCond .ne 14, 61, 72), (61, .iload_n 2, 62, 0), (62, .ifCond .ne 10, 65, 72), (65, .iload_n 3, 66, 0), (66, .ifCond .ne 6, 69, 72), (69, .ldc 100, 71, 0), (71, .ireturn, 72, 0), (72, .aload_n 0, 73, 0), (73, .getfield 216, 76, 0), (76, .bipush 10, 78, 0), (78, .if_icmp .ne 6, 81, 84), (81, .ldc 104, 83, 0), (83, .ireturn, 84, 0), (84, .aload_n 0, 85, 0), (85, .getfield 66, 88, 0), (88, .iconst 4, 89, 0), (89, .aload_n 0, 90, 0), (90, .getfield 216, 93, 0), (93, .imul, 94, 0), (94, .iload_n 1, 95, 0), (95, .iastore, 96, 0), (96, .aload_n 0, 97, 0), (97, .getfield 66, 100, 0), (100, .iconst 4, 101, 0), (101, .aload_n 0, 102, 0), (102, .getfield 216, 105, 0), (105, .imul, 106, 0), (106, .iconst 1, 107, 0), (107, .iadd, 108, 0), (108, .iload_n 2, 109, 0), (109, .iastore, 110, 0), (110, .aload_n 0, 111, 0), (111, .getfield 66, 114, 0), (114, .iconst 4, 115, 0), (115, .aload_n 0, 116, 0), (116, .getfield 216, 119, 0), (119, .imul, 120, 0), (120, .iconst 2, 121, 0), (121, .iadd, 122, 0), (122, .iload_n 3, 123, 0), (123, .iastore, 124, 0), (124, .aload_n 0, 125, 0), (125, .getfield 66, 128, 0), (128, .iconst 4, 129, 0), (129, .aload_n 0, 130, 0), (130, .getfield 216, 133, 0), (133, .imul, 134, 0), (134, .iconst 3, 135, 0), (135, .iadd, 136, 0), (136, .iload 4, 138, 0), (138, .iastore, 139, 0), (139, .aload_n 0, 140, 0), (140, .getfield 69, 143, 0), (143, .aload_n 0, 144, 0), (144, .getfield 216, 147, 0), (147, .iconst 1, 148, 0), (148, .bastore, 149, 0), (149, .aload_n 0, 150, 0), (150, .dup, 151, 0), (151, .getfield 216, 154, 0), (154, .iconst 1, 155, 0), (155, .iadd, 156, 0), (156, .putfield 216, 159, 0), (159, .aload_n 0, 160, 0), (160, .getfield 216, 163, 0), (163, .iconst 1, 164, 0), (164, .isub, 165, 0), (165, .ireturn, 166, 0)]
def mX8_wall : av_mi := (yX8_wall, cX8_wall, 5, (some .int), tX8_wall)
theorem oX8_wall : av_OK mX8_wall := by unfold av_OK; decide +kernel
def tX8_isWall : av_T := [(0, .iload_n 1, 1, 0), (1, .i2l, 2, 0), (2, .lconst 0, 3, 0), (3, .aload_n 0, 4, 0), (4, .getfield 216, 7, 0), (7, .iconst 1, 8, 0), (8, .isub, 9, 0), (9, .i2l, 10, 0), (10, .invokestatic 96, 13, 0), (13, .ireturn, 14, 0)]
def mX8_isWall : av_mi := (yX8_isWall, cX8_isWall, 2, (some .boolean), tX8_isWall)
theorem oX8_isWall : av_OK mX8_isWall := by unfold av_OK; decide +kernel
def tX8_shift : av_T := [(0, .aload_n 0, 1, 0), (1, .iload_n 1, 2, 0), (2, .invokevirtual 219, 5, 0), (5, .ifCond .ne 6, 8, 11), (8, .ldc 105, 10, 0), (10, .ireturn, 11, 0), (11, .iload_n 2, 12, 0), (12, .i2l, 13, 0), (13, .ldc2_w 212, 16, 0), (16, .ldc2_w 214, 19, 0), (19, .invokestatic 96, 22, 0), (22, .ifCond .ne 6, 25, 28), (25, .ldc 100, 27, 0), (27, .ireturn, 28, 0), (28, .aload_n 0, 29, 0), (29, .getfield 66, 32, 0), (32, .iconst 4, 33, 0), (33, .iload_n 1, 34, 0), (34, .imul, 35, 0), (35, .iconst 3, 36, 0), (36, .iadd, 37, 0), (37, .iaload, 38, 0), (38, .istore_n 3, 39, 0), (39, .aload_n 0, 40, 0), (40, .getfield 66, 43, 0), (43, .iconst 4, 44, 0), (44, .iload_n 1, 45, 0), (45, .imul, 46, 0), (46, .iconst 3, 47, 0), (47, .iadd, 48, 0), (48, .iload_n 2, 49, 0), (49, .iastore, 50, 0), (50, .iload_n 3, 51, 0), (51, .ireturn, 52, 0)]
def mX8_shift : av_mi := (yX8_shift, cX8_shift, 4, (some .int), tX8_shift)
theorem oX8_shift : av_OK mX8_shift := by unfold av_OK; decide +kernel
def tX8_on : av_T := [(0, .aload_n 0, 1, 0), (1, .iload_n 1, 2, 0), (2, .invokevirtual 219, 5, 0), (5, .ifCond .ne 6, 8, 11), (8, .ldc 105, 10, 0), (10, .ireturn, 11, 0), (11, .aload_n 0, 12, 0), (12, .getfield 69, 15, 0), (15, .iload_n 1, 16, 0), (16, .baload, 17, 0), (17, .ifCond .eq 7, 20, 24), (20, .iconst 1, 21, 0), (21, .goto 4, 24, 25), (24, .iconst 0, 25, 0), (25, .istore_n 3, 26, 0), (26, .aload_n 0, 27, 0), (27, .getfield 69, 30, 0), (30, .iload_n 1, 31, 0), (31, .iload_n 2, 32, 0), (32, .bastore, 33, 0), (33, .iload_n 3, 34, 0), (34, .ireturn, 35, 0)]
def mX8_on : av_mi := (yX8_on, cX8_on, 4, (some .int), tX8_on)
theorem oX8_on : av_OK mX8_on := by unfold av_OK; decide +kernel
def tX8_about : av_T := [(0, .aload_n 0, 1, 0), (1, .iload_n 1, 2, 0), (2, .invokevirtual 219, 5, 0), (5, .ifCond .ne 6, 8, 11), (8, .ldc 105, 10, 0), (10, .ireturn, 11, 0), (11, .iload_n 2, 12, 0), (12, .i2l, 13, 0), (13, .lconst 0, 14, 0), (14, .ldc2_w 222, 17, 0), (17, .invokestatic 96, 20, 0), (20, .ifCond .eq 16, 23, 36), (23, .aload_n 0, 24, 0), (24, .getfield 66, 27, 0), (27, .iconst 4, 28, 0), (28, .iload_n 1, 29, 0), (29, .imul, 30, 0), (30, .iload_n 2, 31, 0), (31, .iadd, 32, 0), (32, .iaload, 33, 0), (33, .goto 27, 36, 60), (36, .iload_n 2, 37, 0), (37, .iconst 4, 38, 0), (38, .if_icmp .ne 20, 41, 58), (41, .aload_n 0, 42, 0), (42, .getfield 69, 45, 0), (45, .iload_n 1, 46, 0), (46, .baload, 47, 0), (47, .ifCond .eq 7, 50, 54), (50, .iconst 1, 51, 0), (51, .goto 9, 54, 60), (54, .iconst 0, 55, 0), (55, .goto 5, 58, 60), (58, .ldc 100, 60, 0), (60, .ireturn, 61, 0)]
def mX8_about : av_mi := (yX8_about, cX8_about, 3, (some .int), tX8_about)
theorem oX8_about : av_OK mX8_about := by unfold av_OK; decide +kernel
def tX8_setOn : av_T := [(0, .iconst 0, 1, 0), (1, .istore_n 1, 2, 0), (2, .iconst 0, 3, 0), (3, .istore_n 2, 4, 0), (4, .iload_n 2, 5, 0), (5, .aload_n 0, 6, 0), (6, .getfield 216, 9, 0), (9, .if_icmp .ge 28, 12, 37), (12, .iload_n 1, 13, 0), (13, .aload_n 0, 14, 0), (14, .getfield 69, 17, 0), (17, .iload_n 2, 18, 0), (18, .baload, 19, 0), (19, .ifCond .eq 9, 22, 28), (22, .iconst 1, 23, 0), (23, .iload_n 2, 24, 0), (24, .ishl, 25, 0), (25, .goto 4, 28, 29), (28, .iconst 0, 29, 0), (29, .ior, 30, 0), (30, .istore_n 1, 31, 0), (31, .iinc 2 1, 34, 0), (34, .goto (-30), 37, 4), (37, .iload_n 1, 38, 0), (38, .ireturn, 39, 0)]
def mX8_setOn : av_mi := (yX8_setOn, cX8_setOn, 3, (some .int), tX8_setOn)
theorem oX8_setOn : av_OK mX8_setOn := by unfold av_OK; decide +kernel
def tX8_determinant : av_T := [(0, .aload_n 0, 1, 0), (1, .getfield 66, 4, 0), (4, .iconst 4, 5, 0), (5, .iload_n 1, 6, 0), (6, .imul, 7, 0), (7, .iload 4, 9, 0), (9, .iadd, 10, 0), (10, .iaload, 11, 0), (11, .i2l, 12, 0), (12, .lstore 7, 14, 0), (14, .aload_n 0, 15, 0), (15, .getfield 66, 18, 0), (18, .iconst 4, 19, 0), (19, .iload_n 1, 20, 0), (20, .imul, 21, 0), (21, .iload 5, 23, 0), (23, .iadd, 24, 0), (24, .iaload, 25, 0), (25, .i2l, 26, 0), (26, .lstore 9, 28, 0), (28, .aload_n 0, 29, 0), (29, .getfield 66, 32, 0), (32, .iconst 4, 33, 0), (33, .iload_n 1, 34, 0), (34, .imul, 35, 0), (35, .iload 6, 37, 0), (37, .iadd, 38, 0), (38, .iaload, 39, 0), (39, .i2l, 40, 0), (40, .lstore 11, 42, 0), (42, .lload 7, 44, 0), (44, .aload_n 0, 45, 0), (45, .getfield 66, 48, 0), (48, .iconst 4, 49, 0), (49, .iload_n 2, 50, 0), (50, .imul, 51, 0), (51, .iload 5, 53, 0), (53, .iadd, 54, 0), (54, .iaload, 55, 0), (55, .aload_n 0, 56, 0), (56, .getfield 66, 59, 0), (59, .iconst 4, 60, 0), (60, .iload_n 3, 61, 0), (61, .imul, 62, 0), (62, .iload 6, 64, 0), (64, .iadd, 65, 0), (65, .iaload, 66, 0), (66, .imul, 67, 0), (67, .aload_n 0, 68, 0), (68, .getfield 66, 71, 0), (71, .iconst 4, 72, 0), (72, .iload_n 2, 73, 0), (73, .imul, 74, 0), (74, .iload 6, 76, 0), (76, .iadd, 77, 0), (77, .iaload, 78, 0), (78, .aload_n 0, 79, 0), (79, .getfield 66, 82, 0), (82, .iconst 4, 83, 0), (83, .iload_n 3, 84, 0), (84, .imul, 85, 0), (85, .iload 5, 87, 0), (87, .iadd, 88, 0), (88, .iaload, 89, 0), (89, .imul, 90, 0), (90, .isub, 91, 0), (91, .i2l, 92, 0), (92, .lmul, 93, 0), (93, .lload 9, 95, 0), (95, .aload_n 0, 96, 0), (96, .getfield 66, 99, 0), (99, .iconst 4, 100, 0), (100, .iload_n 2, 101, 0), (101, .imul, 102, 0), (102, .iload 4, 104, 0), (104, .iadd, 105, 0), (105, .iaload, 106, 0), (106, .aload_n 0, 107, 0), (107, .getfield 66, 110, 0), (110, .iconst 4, 111, 0), (111, .iload_n 3, 112, 0), (112, .imul, 113, 0), (113, .iload 6, 115, 0), (115, .iadd, 116, 0), (116, .iaload, 117, 0), (117, .imul, 118, 0), (118, .aload_n 0, 119, 0), (119, .getfield 66, 122, 0), (122, .iconst 4, 123, 0), (123, .iload_n 2, 124, 0), (124, .imul, 125, 0), (125, .iload 6, 127, 0), (127, .iadd, 128, 0), (128, .iaload, 129, 0), (129, .aload_n 0, 130, 0), (130, .getfield 66, 133, 0), (133, .iconst 4, 134, 0), (134, .iload_n 3, 135, 0), (135, .imul, 136, 0), (136, .iload 4, 138, 0), (138, .iadd, 139, 0), (139, .iaload, 140, 0), (140, .imul, 141, 0), (141, .isub, 142, 0), (142, .i2l, 143, 0), (143, .lmul, 144, 0), (144, .lsub, 145, 0), (145, .lload 11, 147, 0), (147, .aload_n 0, 148, 0), (148, .getfield 66, 151, 0), (151, .iconst 4, 152, 0), (152, .iload_n 2, 153, 0), (153, .imul, 154, 0), (154, .iload 4, 156, 0), (156, .iadd, 157, 0), (157, .iaload, 158, 0), (158, .aload_n 0, 159, 0), (159, .getfield 66, 162, 0), (162, .iconst 4, 163, 0), (163, .iload_n 3, 164, 0), (164, .imul, 165, 0), (165, .iload 5, 167, 0), (167, .iadd, 168, 0), (168, .iaload, 169, 0), (169, .imul, 170, 0), (170, .aload_n 0, 171, 0), (171, .getfield 66, 174, 0), (174, .iconst 4, 175, 0), (175, .iload_n 2, 176, 0), (176, .imul, 177, 0), (177, .iload 5, 179, 0), (179, .iadd, 180, 0), (180, .iaload, 181, 0), (181, .aload_n 0, 182, 0), (182, .getfield 66, 185, 0), (185, .iconst 4, 186, 0), (186, .iload_n 3, 187, 0), (187, .imul, 188, 0), (188, .iload 4, 190, 0), (190, .iadd, 191, 0), (191, .iaload, 192, 0), (192, .imul, 193, 0), (193, .isub, 194, 0), (194, .i2l, 195, 0), (195, .lmul, 196, 0), (196, .ladd, 197, 0), (197, .lreturn, 198, 0)]
def mX8_determinant : av_mi := (yX8_determinant, cX8_determinant, 13, (some .long), tX8_determinant)
theorem oX8_determinant : av_OK mX8_determinant := by unfold av_OK; decide +kernel
def tX8_leaves : av_T := [(0, .aload_n 0, 1, 0), (1, .getfield 66, 4, 0), (4, .iconst 4, 5, 0), (5, .iload_n 1, 6, 0), (6, .imul, 7, 0), (7, .iconst 3, 8, 0), (8, .iadd, 9, 0), (9, .iaload, 10, 0), (10, .i2l, 11, 0), (11, .lload 8, 13, 0), (13, .lmul, 14, 0), (14, .aload_n 0, 15, 0), (15, .getfield 66, 18, 0), (18, .iconst 4, 19, 0), (19, .iload_n 1, 20, 0), (20, .imul, 21, 0), (21, .iaload, 22, 0), (22, .i2l, 23, 0), (23, .lload_n 2, 24, 0), (24, .lmul, 25, 0), (25, .lsub, 26, 0), (26, .aload_n 0, 27, 0), (27, .getfield 66, 30, 0), (30, .iconst 4, 31, 0), (31, .iload_n 1, 32, 0), (32, .imul, 33, 0), (33, .iconst 1, 34, 0), (34, .iadd, 35, 0), (35, .iaload, 36, 0), (36, .i2l, 37, 0), (37, .lload 4, 39, 0), (39, .lmul, 40, 0), (40, .lsub, 41, 0), (41, .aload_n 0, 42, 0), (42, .getfield 66, 45, 0), (45, .iconst 4, 46, 0), (46, .iload_n 1, 47, 0), (47, .imul, 48, 0), (48, .iconst 2, 49, 0), (49, .iadd, 50, 0), (50, .iaload, 51, 0), (51, .i2l, 52, 0), (52, .lload 6, 54, 0), (54, .lmul, 55, 0), (55, .lsub, 56, 0), (56, .lreturn, 57, 0)]
def mX8_leaves : av_mi := (yX8_leaves, cX8_leaves, 10, (some .long), tX8_leaves)
theorem oX8_leaves : av_OK mX8_leaves := by unfold av_OK; decide +kernel
def tX8_holdsAll : av_T := [(0, .iconst 1, 1, 0), (1, .istore 10, 3, 0), (3, .iconst 0, 4, 0), (4, .istore 11, 6, 0), (6, .iload 11, 8, 0), (8, .aload_n 0, 9, 0), (9, .getfield 216, 12, 0), (12, .if_icmp .ge 48, 15, 60), (15, .iload 10, 17, 0), (17, .ifCond .eq 34, 20, 51), (20, .iload_n 1, 21, 0), (21, .iload 11, 23, 0), (23, .ishr, 24, 0), (24, .iconst 1, 25, 0), (25, .iand, 26, 0), (26, .ifCond .eq 21, 29, 47), (29, .aload_n 0, 30, 0), (30, .iload 11, 32, 0), (32, .lload_n 2, 33, 0), (33, .lload 4, 35, 0), (35, .lload 6, 37, 0), (37, .lload 8, 39, 0), (39, .invokevirtual 224, 42, 0), (42, .lconst 0, 43, 0), (43, .lcmp, 44, 0), (44, .ifCond .lt 7, 47, 51), (47, .iconst 1, 48, 0), (48, .goto 4, 51, 52), (51, .iconst 0, 52, 0), (52, .istore 10, 54, 0), (54, .iinc 11 1, 57, 0), (57, .goto (-51), 60, 6), (60, .iload 10, 62, 0), (62, .ireturn, 63, 0)]
def mX8_holdsAll : av_mi := (yX8_holdsAll, cX8_holdsAll, 12, (some .boolean), tX8_holdsAll)
theorem oX8_holdsAll : av_OK mX8_holdsAll := by unfold av_OK; decide +kernel
def tX8_put : av_T := [(0, .aload_n 0, 1, 0), (1, .getfield 228, 4, 0), (4, .istore 9, 6, 0), (6, .iload 9, 8, 0), (8, .ifCond .le 26, 11, 34), (11, .aload_n 0, 12, 0), (12, .iload 9, 14, 0), (14, .iconst 1, 15, 0), (15, .isub, 16, 0), (16, .lload_n 1, 17, 0), (17, .lload_n 3, 18, 0), (18, .lload 5, 20, 0), (20, .lload 7, 22, 0), (22, .invokevirtual 231, 25, 0), (25, .ifCond .le 9, 28, 34), (28, .iinc 9 (-1), 31, 0), (31, .goto (-25), 34, 6), (34, .iload 9, 36, 0), (36, .ifCond .le 21, 39, 57), (39, .aload_n 0, 40, 0), (40, .iload 9, 42, 0), (42, .iconst 1, 43, 0), (43, .isub, 44, 0), (44, .lload_n 1, 45, 0), (45, .lload_n 3, 46, 0), (46, .lload 5, 48, 0), (48, .lload 7, 50, 0), (50, .invokevirtual 231, 53, 0), (53, .ifCond .ne 4, 56, 57), (56, .return_, 57, 0), (57, .aload_n 0, 58, 0), (58, .getfield 228, 61, 0), (61, .istore 10, 63, 0), (63, .iload 10, 65, 0), (65, .iload 9, 67, 0), (67, .if_icmp .le 73, 70, 140), (70, .aload_n 0, 71, 0), (71, .getfield 73, 74, 0), (74, .iload 10, 76, 0), (76, .aload_n 0, 77, 0), (77, .getfield 73, 80, 0), (80, .iload 10, 82, 0), (82, .iconst 1, 83, 0), (83, .isub, 84, 0), (84, .laload, 85, 0), (85, .lastore, 86, 0), (86, .aload_n 0, 87, 0), (87, .getfield 76, 90, 0), (90, .iload 10, 92, 0), (92, .aload_n 0, 93, 0), (93, .getfield 76, 96, 0), (96, .iload 10, 98, 0), (98, .iconst 1, 99, 0), (99, .isub, 100, 0), (100, .laload, 101, 0), (101, .lastore, 102, 0), (102, .aload_n 0, 103, 0), (103, .getfield 79, 106, 0), (106, .iload 10, 108, 0), (108, .aload_n 0, 109, 0), (109, .getfield 79, 112, 0), (112, .iload 10, 114, 0), (114, .iconst 1, 115, 0), (115, .isub, 116, 0), (116, .laload, 117, 0), (117, .lastore, 118, 0), (118, .aload_n 0, 119, 0), (119, .getfield 82, 122, 0), (122, .iload 10, 124, 0), (124, .aload_n 0, 125, 0), (125, .getfield 82, 128, 0), (128, .iload 10, 130, 0), (130, .iconst 1, 131, 0), (131, .isub, 132, 0), (132, .laload, 133, 0), (133, .lastore, 134, 0), (134, .iinc 10 (-1), 137, 0), (137, .goto (-74), 140, 63), (140, .aload_n 0, 141, 0), (141, .getfield 73, 144, 0), (144, .iload 9, 146, 0), (146, .lload_n 1, 147, 0), (147, .lastore, 148, 0), (148, .aload_n 0, 149, 0), (149, .getfield 76, 152, 0), (152, .iload 9, 154, 0), (154, .lload_n 3, 155, 0), (155, .lastore, 156, 0), (156, .aload_n 0, 157, 0), (157, .getfield 79, 160, 0), (160, .iload 9, 162, 0), (162, .lload 5, 164, 0), (164, .lastore, 165, 0), (165, .aload_n 0, 166, 0), (166, .getfield 82, 169, 0), (169, .iload 9, 171, 0), (171, .lload 7, 173, 0), (173, .lastore, 174, 0), (174, .aload_n 0, 175, 0), (175, .dup, 176, 0), (176, .getfield 228, 179, 0), (179, .iconst 1, 180, 0), (180, .iadd, 181, 0), (181, .putfield 228, 184, 0), (184, .return_, 185, 0)]
def mX8_put : av_mi := (yX8_put, cX8_put, 11, none, tX8_put)
theorem oX8_put : av_OK mX8_put := by unfold av_OK; decide +kernel
def tX8_order : av_T := [(0, .aload_n 0, 1, 0), (1, .aload_n 0, 2, 0), (2, .getfield 73, 5, 0), (5, .iload_n 1, 6, 0), (6, .laload, 7, 0), (7, .aload_n 0, 8, 0), (8, .getfield 82, 11, 0), (11, .iload_n 1, 12, 0), (12, .laload, 13, 0), (13, .lload_n 2, 14, 0), (14, .lload 8, 16, 0), (16, .invokevirtual 106, 19, 0), (19, .lstore 10, 21, 0), (21, .lload 10, 23, 0), (23, .lconst 0, 24, 0), (24, .lcmp, 25, 0), (25, .ifCond .eq 8, 28, 33), (28, .lload 10, 30, 0), (30, .goto 23, 33, 53), (33, .aload_n 0, 34, 0), (34, .aload_n 0, 35, 0), (35, .getfield 76, 38, 0), (38, .iload_n 1, 39, 0), (39, .laload, 40, 0), (40, .aload_n 0, 41, 0), (41, .getfield 82, 44, 0), (44, .iload_n 1, 45, 0), (45, .laload, 46, 0), (46, .lload 4, 48, 0), (48, .lload 8, 50, 0), (50, .invokevirtual 106, 53, 0), (53, .lstore 10, 55, 0), (55, .lload 10, 57, 0), (57, .lconst 0, 58, 0), (58, .lcmp, 59, 0), (59, .ifCond .eq 8, 62, 67), (62, .lload 10, 64, 0), (64, .goto 23, 67, 87), (67, .aload_n 0, 68, 0), (68, .aload_n 0, 69, 0), (69, .getfield 79, 72, 0), (72, .iload_n 1, 73, 0), (73, .laload, 74, 0), (74, .aload_n 0, 75, 0), (75, .getfield 82, 78, 0), (78, .iload_n 1, 79, 0), (79, .laload, 80, 0), (80, .lload 6, 82, 0), (82, .lload 8, 84, 0), (84, .invokevirtual 106, 87, 0), (87, .lstore 10, 89, 0), (89, .lload 10, 91, 0), (91, .lconst 0, 92, 0), (92, .lcmp, 93, 0), (93, .ifCond .ge 7, 96, 100), (96, .iconst (-1), 97, 0), (97, .goto 15, 100, 112), (100, .lload 10, 102, 0), (102, .lconst 0, 103, 0), (103, .lcmp, 104, 0), (104, .ifCond .le 7, 107, 111), (107, .iconst 1, 108, 0), (108, .goto 4, 111, 112), (111, .iconst 0, 112, 0), (112, .ireturn, 113, 0)]
def mX8_order : av_mi := (yX8_order, cX8_order, 12, (some .int), tX8_order)
theorem oX8_order : av_OK mX8_order := by unfold av_OK; decide +kernel
def tX8_layVertices : av_T := [(0, .aload_n 0, 1, 0), (1, .iconst 0, 2, 0), (2, .putfield 228, 5, 0), (5, .iconst 0, 6, 0), (6, .istore_n 2, 7, 0), (7, .iload_n 2, 8, 0), (8, .aload_n 0, 9, 0), (9, .getfield 216, 12, 0), (12, .if_icmp .ge 199, 15, 211), (15, .iload_n 2, 16, 0), (16, .iconst 1, 17, 0), (17, .iadd, 18, 0), (18, .istore_n 3, 19, 0), (19, .iload_n 3, 20, 0), (20, .aload_n 0, 21, 0), (21, .getfield 216, 24, 0), (24, .if_icmp .ge 181, 27, 205), (27, .iload_n 3, 28, 0), (28, .iconst 1, 29, 0), (29, .iadd, 30, 0), (30, .istore 4, 32, 0), (32, .iload 4, 34, 0), (34, .aload_n 0, 35, 0), (35, .getfield 216, 38, 0), (38, .if_icmp .ge 161, 41, 199), (41, .iload_n 1, 42, 0), (42, .iload_n 2, 43, 0), (43, .ishr, 44, 0), (44, .iload_n 1, 45, 0), (45, .iload_n 3, 46, 0), (46, .ishr, 47, 0), (47, .iand, 48, 0), (48, .iload_n 1, 49, 0), (49, .iload 4, 51, 0), (51, .ishr, 52, 0), (52, .iand, 53, 0), (53, .iconst 1, 54, 0), (54, .iand, 55, 0), (55, .iconst 1, 56, 0), (56, .if_icmp .ne 7, 59, 63), (59, .iconst 1, 60, 0), (60, .goto 4, 63, 64), (63, .iconst 0, 64, 0), (64, .istore 5, 66, 0), (66, .iload 5, 68, 0), (68, .ifCond .eq 17, 71, 85), (71, .aload_n 0, 72, 0), (72, .iload_n 2, 73, 0), (73, .iload_n 3, 74, 0), (74, .iload 4, 76, 0), (76, .iconst 0, 77, 0), (77, .iconst 1, 78, 0), (78, .iconst 2, 79, 0), (79, .invokevirtual 235, 82, 0), (82, .goto 4, 85, 86), (85, .lconst 0, 86, 0), (86, .lstore 6, 88, 0), (88, .lload 6, 90, 0), (90, .lconst 0, 91, 0), (91, .lcmp, 92, 0), (92, .ifCond .eq 101, 95, 193), (95, .lload 6, 97, 0), (97, .lconst 0, 98, 0), (98, .lcmp, 99, 0), (99, .ifCond .ge 9, 102, 108), (102, .ldc2_w 117, 105, 0), (105, .goto 4, 108, 109), (108, .lconst 1, 109, 0), (109, .lstore 8, 111, 0), (111, .lload 8, 113, 0), (113, .aload_n 0, 114, 0), (114, .iload_n 2, 115, 0), (115, .iload_n 3, 116, 0), (116, .iload 4, 118, 0), (118, .iconst 3, 119, 0), (119, .iconst 1, 120, 0), (120, .iconst 2, 121, 0), (121, .invokevirtual 235, 124, 0), (124, .lmul, 125, 0), (125, .lstore 10, 127, 0), (127, .lload 8, 129, 0), (129, .aload_n 0, 130, 0), (130, .iload_n 2, 131, 0), (131, .iload_n 3, 132, 0), (132, .iload 4, 134, 0), (134, .iconst 0, 135, 0), (135, .iconst 3, 136, 0), (136, .iconst 2, 137, 0), (137, .invokevirtual 235, 140, 0), (140, .lmul, 141, 0), (141, .lstore 12, 143, 0), (143, .lload 8, 145, 0), (145, .aload_n 0, 146, 0), (146, .iload_n 2, 147, 0), (147, .iload_n 3, 148, 0), (148, .iload 4, 150, 0), (150, .iconst 0, 151, 0), (151, .iconst 1, 152, 0), (152, .iconst 3, 153, 0), (153, .invokevirtual 235, 156, 0), (156, .lmul, 157, 0), (157, .lstore 14, 159, 0), (159, .aload_n 0, 160, 0), (160, .iload_n 1, 161, 0), (161, .lload 10, 163, 0), (163, .lload 12, 165, 0), (165, .lload 14, 167, 0), (167, .lload 8, 169, 0), (169, .lload 6, 171, 0), (171, .lmul, 172, 0), (172, .invokevirtual 239, 175, 0), (175, .ifCond .eq 18, 178, 193), (178, .aload_n 0, 179, 0), (179, .lload 10, 181, 0), (181, .lload 12, 183, 0), (183, .lload 14, 185, 0), (185, .lload 8, 187, 0), (187, .lload 6, 189, 0), (189, .lmul, 190, 0), (190, .invokevirtual 243, 193, 0), (193, .iinc 4 1, 196, 0), (196, .goto (-164), 199, 32), (199, .iinc 3 1, 202, 0), (202, .goto (-183), 205, 19), (205, .iinc 2 1, 208, 0), (208, .goto (-201), 211, 7), (211, .return_, 212, 0)]
def mX8_layVertices : av_mi := (yX8_layVertices, cX8_layVertices, 16, none, tX8_layVertices)
theorem oX8_layVertices : av_OK mX8_layVertices := by unfold av_OK; decide +kernel
def tX8_goesOn : av_T := [(0, .lload_n 2, 1, 0), (1, .lconst 0, 2, 0), (2, .lcmp, 3, 0), (3, .ifCond .ne 17, 6, 20), (6, .lload 4, 8, 0), (8, .lconst 0, 9, 0), (9, .lcmp, 10, 0), (10, .ifCond .ne 10, 13, 20), (13, .lload 6, 15, 0), (15, .lconst 0, 16, 0), (16, .lcmp, 17, 0), (17, .ifCond .eq 7, 20, 24), (20, .iconst 1, 21, 0), (21, .goto 4, 24, 25), (24, .iconst 0, 25, 0), (25, .istore 8, 27, 0), (27, .iconst 0, 28, 0), (28, .istore 9, 30, 0), (30, .iload 9, 32, 0), (32, .aload_n 0, 33, 0), (33, .getfield 216, 36, 0), (36, .if_icmp .ge 79, 39, 115), (39, .iload 8, 41, 0), (41, .ifCond .eq 65, 44, 106), (44, .iload_n 1, 45, 0), (45, .iload 9, 47, 0), (47, .ishr, 48, 0), (48, .iconst 1, 49, 0), (49, .iand, 50, 0), (50, .ifCond .eq 52, 53, 102), (53, .aload_n 0, 54, 0), (54, .getfield 66, 57, 0), (57, .iconst 4, 58, 0), (58, .iload 9, 60, 0), (60, .imul, 61, 0), (61, .iaload, 62, 0), (62, .i2l, 63, 0), (63, .lload_n 2, 64, 0), (64, .lmul, 65, 0), (65, .aload_n 0, 66, 0), (66, .getfield 66, 69, 0), (69, .iconst 4, 70, 0), (70, .iload 9, 72, 0), (72, .imul, 73, 0), (73, .iconst 1, 74, 0), (74, .iadd, 75, 0), (75, .iaload, 76, 0), (76, .i2l, 77, 0), (77, .lload 4, 79, 0), (79, .lmul, 80, 0), (80, .ladd, 81, 0), (81, .aload_n 0, 82, 0), (82, .getfield 66, 85, 0), (85, .iconst 4, 86, 0), (86, .iload 9, 88, 0), (88, .imul, 89, 0), (89, .iconst 2, 90, 0), (90, .iadd, 91, 0), (91, .iaload, 92, 0), (92, .i2l, 93, 0), (93, .lload 6, 95, 0), (95, .lmul, 96, 0), (96, .ladd, 97, 0), (97, .lconst 0, 98, 0), (98, .lcmp, 99, 0), (99, .ifCond .gt 7, 102, 106), (102, .iconst 1, 103, 0), (103, .goto 4, 106, 107), (106, .iconst 0, 107, 0), (107, .istore 8, 109, 0), (109, .iinc 9 1, 112, 0), (112, .goto (-82), 115, 30), (115, .iload 8, 117, 0), (117, .ireturn, 118, 0)]
def mX8_goesOn : av_mi := (yX8_goesOn, cX8_goesOn, 10, (some .boolean), tX8_goesOn)
theorem oX8_goesOn : av_OK mX8_goesOn := by unfold av_OK; decide +kernel
def tX8_isSound : av_T := [(0, .aload_n 0, 1, 0), (1, .iload_n 1, 2, 0), (2, .invokevirtual 247, 5, 0), (5, .aload_n 0, 6, 0), (6, .getfield 228, 9, 0), (9, .ifCond .le 7, 12, 16), (12, .iconst 1, 13, 0), (13, .goto 4, 16, 17), (16, .iconst 0, 17, 0), (17, .istore_n 2, 18, 0), (18, .iconst 0, 19, 0), (19, .istore_n 3, 20, 0), (20, .iload_n 3, 21, 0), (21, .aload_n 0, 22, 0), (22, .getfield 216, 25, 0), (25, .if_icmp .ge 211, 28, 236), (28, .iload_n 2, 29, 0), (29, .ifCond .eq 207, 32, 236), (32, .iconst 0, 33, 0), (33, .istore 4, 35, 0), (35, .iload 4, 37, 0), (37, .aload_n 0, 38, 0), (38, .getfield 216, 41, 0), (41, .if_icmp .ge 189, 44, 230), (44, .iload_n 2, 45, 0), (45, .ifCond .eq 185, 48, 230), (48, .iload_n 1, 49, 0), (49, .iload_n 3, 50, 0), (50, .ishr, 51, 0), (51, .iload_n 1, 52, 0), (52, .iload 4, 54, 0), (54, .ishr, 55, 0), (55, .iand, 56, 0), (56, .iconst 1, 57, 0), (57, .iand, 58, 0), (58, .iconst 1, 59, 0), (59, .if_icmp .ne 165, 62, 224), (62, .iload_n 3, 63, 0), (63, .iload 4, 65, 0), (65, .if_icmp .eq 159, 68, 224), (68, .aload_n 0, 69, 0), (69, .getfield 66, 72, 0), (72, .iconst 4, 73, 0), (73, .iload_n 3, 74, 0), (74, .imul, 75, 0), (75, .iconst 1, 76, 0), (76, .iadd, 77, 0), (77, .iaload, 78, 0), (78, .aload_n 0, 79, 0), (79, .getfield 66, 82, 0), (82, .iconst 4, 83, 0), (83, .iload 4, 85, 0), (85, .imul, 86, 0), (86, .iconst 2, 87, 0), (87, .iadd, 88, 0), (88, .iaload, 89, 0), (89, .imul, 90, 0), (90, .aload_n 0, 91, 0), (91, .getfield 66, 94, 0), (94, .iconst 4, 95, 0), (95, .iload_n 3, 96, 0), (96, .imul, 97, 0), (97, .iconst 2, 98, 0), (98, .iadd, 99, 0), (99, .iaload, 100, 0), (100, .aload_n 0, 101, 0), (101, .getfield 66, 104, 0), (104, .iconst 4, 105, 0), (105, .iload 4, 107, 0), (107, .imul, 108, 0), (108, .iconst 1, 109, 0), (109, .iadd, 110, 0), (110, .iaload, 111, 0), (111, .imul, 112, 0), (112, .isub, 113, 0), (113, .i2l, 114, 0), (114, .lstore 5, 116, 0), (116, .aload_n 0, 117, 0), (117, .getfield 66, 120, 0), (120, .iconst 4, 121, 0), (121, .iload_n 3, 122, 0), (122, .imul, 123, 0), (123, .iconst 2, 124, 0), (124, .iadd, 125, 0), (125, .iaload, 126, 0), (126, .aload_n 0, 127, 0), (127, .getfield 66, 130, 0), (130, .iconst 4, 131, 0), (131, .iload 4, 133, 0), (133, .imul, 134, 0), (134, .iaload, 135, 0), (135, .imul, 136, 0), (136, .aload_n 0, 137, 0), (137, .getfield 66, 140, 0), (140, .iconst 4, 141, 0), (141, .iload_n 3, 142, 0), (142, .imul, 143, 0), (143, .iaload, 144, 0), (144, .aload_n 0, 145, 0), (145, .getfield 66, 148, 0), (148, .iconst 4, 149, 0), (149, .iload 4, 151, 0), (151, .imul, 152, 0), (152, .iconst 2, 153, 0), (153, .iadd, 154, 0), (154, .iaload, 155, 0), (155, .imul, 156, 0), (156, .isub, 157, 0), (157, .i2l, 158, 0), (158, .lstore 7, 160, 0), (160, .aload_n 0, 161, 0), (161, .getfield 66, 164, 0), (164, .iconst 4, 165, 0), (165, .iload_n 3, 166, 0), (166, .imul, 167, 0), (167, .iaload, 168, 0), (168, .aload_n 0, 169, 0), (169, .getfield 66, 172, 0), (172, .iconst 4, 173, 0), (173, .iload 4, 175, 0), (175, .imul, 176, 0), (176, .iconst 1, 177, 0), (177, .iadd, 178, 0), (178, .iaload, 179, 0), (179, .imul, 180, 0), (180, .aload_n 0, 181, 0), (181, .getfield 66, 184, 0), (184, .iconst 4, 185, 0), (185, .iload_n 3, 186, 0), (186, .imul, 187, 0), (187, .iconst 1, 188, 0), (188, .iadd, 189, 0), (189, .iaload, 190, 0), (190, .aload_n 0, 191, 0), (191, .getfield 66, 194, 0), (194, .iconst 4, 195, 0), (195, .iload 4, 197, 0), (197, .imul, 198, 0), (198, .iaload, 199, 0), (199, .imul, 200, 0), (200, .isub, 201, 0), (201, .i2l, 202, 0), (202, .lstore 9, 204, 0), (204, .aload_n 0, 205, 0), (205, .iload_n 1, 206, 0), (206, .lload 5, 208, 0), (208, .lload 7, 210, 0), (210, .lload 9, 212, 0), (212, .invokevirtual 251, 215, 0), (215, .ifCond .ne 7, 218, 222), (218, .iconst 1, 219, 0), (219, .goto 4, 222, 223), (222, .iconst 0, 223, 0), (223, .istore_n 2, 224, 0), (224, .iinc 4 1, 227, 0), (227, .goto (-192), 230, 35), (230, .iinc 3 1, 233, 0), (233, .goto (-213), 236, 20), (236, .iload_n 2, 237, 0), (237, .ireturn, 238, 0)]
def mX8_isSound : av_mi := (yX8_isSound, cX8_isSound, 11, (some .boolean), tX8_isSound)
theorem oX8_isSound : av_OK mX8_isSound := by unfold av_OK; decide +kernel
def tX8_sound : av_T := [(0, .aload_n 0, 1, 0), (1, .aload_n 0, 2, 0), (2, .invokevirtual 255, 5, 0), (5, .invokevirtual 258, 8, 0), (8, .ifCond .eq 7, 11, 15), (11, .iconst 1, 12, 0), (12, .goto 4, 15, 16), (15, .iconst 0, 16, 0), (16, .ireturn, 17, 0)]
def mX8_sound : av_mi := (yX8_sound, cX8_sound, 1, (some .int), tX8_sound)
theorem oX8_sound : av_OK mX8_sound := by unfold av_OK; decide +kernel
def tX8_vertices : av_T := [(0, .aload_n 0, 1, 0), (1, .aload_n 0, 2, 0), (2, .invokevirtual 255, 5, 0), (5, .invokevirtual 247, 8, 0), (8, .aload_n 0, 9, 0), (9, .getfield 228, 12, 0), (12, .ireturn, 13, 0)]
def mX8_vertices : av_mi := (yX8_vertices, cX8_vertices, 1, (some .int), tX8_vertices)
theorem oX8_vertices : av_OK mX8_vertices := by unfold av_OK; decide +kernel
def tX8_vertex : av_T := [(0, .aload_n 0, 1, 0), (1, .aload_n 0, 2, 0), (2, .invokevirtual 255, 5, 0), (5, .invokevirtual 247, 8, 0), (8, .iload_n 1, 9, 0), (9, .i2l, 10, 0), (10, .lconst 0, 11, 0), (11, .aload_n 0, 12, 0), (12, .getfield 228, 15, 0), (15, .iconst 1, 16, 0), (16, .isub, 17, 0), (17, .i2l, 18, 0), (18, .invokestatic 96, 21, 0), (21, .ifCond .ne 7, 24, 28), (24, .ldc2_w 261, 27, 0), (27, .lreturn, 28, 0), (28, .iload_n 2, 29, 0), (29, .i2l, 30, 0), (30, .lconst 0, 31, 0), (31, .ldc2_w 138, 34, 0), (34, .invokestatic 96, 37, 0), (37, .ifCond .ne 9, 40, 46), (40, .ldc2_w 263, 43, 0), (43, .goto 46, 46, 89), (46, .iload_n 2, 47, 0), (47, .ifCond .ne 12, 50, 59), (50, .aload_n 0, 51, 0), (51, .getfield 73, 54, 0), (54, .iload_n 1, 55, 0), (55, .laload, 56, 0), (56, .goto 23, 59, 79), (59, .iload_n 2, 60, 0), (60, .iconst 1, 61, 0), (61, .if_icmp .ne 12, 64, 73), (64, .aload_n 0, 65, 0), (65, .getfield 76, 68, 0), (68, .iload_n 1, 69, 0), (69, .laload, 70, 0), (70, .goto 9, 73, 79), (73, .aload_n 0, 74, 0), (74, .getfield 79, 77, 0), (77, .iload_n 1, 78, 0), (78, .laload, 79, 0), (79, .aload_n 0, 80, 0), (80, .getfield 82, 83, 0), (83, .iload_n 1, 84, 0), (84, .laload, 85, 0), (85, .iload_n 3, 86, 0), (86, .invokestatic 265, 89, 0), (89, .lreturn, 90, 0)]
def mX8_vertex : av_mi := (yX8_vertex, cX8_vertex, 4, (some .long), tX8_vertex)
theorem oX8_vertex : av_OK mX8_vertex := by unfold av_OK; decide +kernel
def tX8_tightAt : av_T := [(0, .iconst 0, 1, 0), (1, .istore_n 3, 2, 0), (2, .iconst 0, 3, 0), (3, .istore 4, 5, 0), (5, .iload 4, 7, 0), (7, .aload_n 0, 8, 0), (8, .getfield 216, 11, 0), (11, .if_icmp .ge 65, 14, 76), (14, .iload_n 3, 15, 0), (15, .iload_n 1, 16, 0), (16, .iload 4, 18, 0), (18, .ishr, 19, 0), (19, .iconst 1, 20, 0), (20, .iand, 21, 0), (21, .iconst 1, 22, 0), (22, .if_icmp .ne 45, 25, 67), (25, .aload_n 0, 26, 0), (26, .iload 4, 28, 0), (28, .aload_n 0, 29, 0), (29, .getfield 73, 32, 0), (32, .iload_n 2, 33, 0), (33, .laload, 34, 0), (34, .aload_n 0, 35, 0), (35, .getfield 76, 38, 0), (38, .iload_n 2, 39, 0), (39, .laload, 40, 0), (40, .aload_n 0, 41, 0), (41, .getfield 79, 44, 0), (44, .iload_n 2, 45, 0), (45, .laload, 46, 0), (46, .aload_n 0, 47, 0), (47, .getfield 82, 50, 0), (50, .iload_n 2, 51, 0), (51, .laload, 52, 0), (52, .invokevirtual 224, 55, 0), (55, .lconst 0, 56, 0), (56, .lcmp, 57, 0), (57, .ifCond .ne 10, 60, 67), (60, .iconst 1, 61, 0), (61, .iload 4, 63, 0), (63, .ishl, 64, 0), (64, .goto 4, 67, 68), (67, .iconst 0, 68, 0), (68, .ior, 69, 0), (69, .istore_n 3, 70, 0), (70, .iinc 4 1, 73, 0), (73, .goto (-68), 76, 5), (76, .iload_n 3, 77, 0), (77, .ireturn, 78, 0)]
def mX8_tightAt : av_mi := (yX8_tightAt, cX8_tightAt, 5, (some .int), tX8_tightAt)
theorem oX8_tightAt : av_OK mX8_tightAt := by unfold av_OK; decide +kernel
def tX8_tight : av_T := [(0, .aload_n 0, 1, 0), (1, .aload_n 0, 2, 0), (2, .invokevirtual 255, 5, 0), (5, .invokevirtual 247, 8, 0), (8, .iload_n 1, 9, 0), (9, .i2l, 10, 0), (10, .lconst 0, 11, 0), (11, .aload_n 0, 12, 0), (12, .getfield 228, 15, 0), (15, .iconst 1, 16, 0), (16, .isub, 17, 0), (17, .i2l, 18, 0), (18, .invokestatic 96, 21, 0), (21, .ifCond .eq 15, 24, 36), (24, .aload_n 0, 25, 0), (25, .aload_n 0, 26, 0), (26, .invokevirtual 255, 29, 0), (29, .iload_n 1, 30, 0), (30, .invokevirtual 269, 33, 0), (33, .goto 5, 36, 38), (36, .ldc 105, 38, 0), (38, .ireturn, 39, 0)]
def mX8_tight : av_mi := (yX8_tight, cX8_tight, 2, (some .int), tX8_tight)
theorem oX8_tight : av_OK mX8_tight := by unfold av_OK; decide +kernel
def tX8_hasTwo : av_T := [(0, .iconst 0, 1, 0), (1, .istore_n 2, 2, 0), (2, .iload_n 2, 3, 0), (3, .aload_n 0, 4, 0), (4, .getfield 216, 7, 0), (7, .if_icmp .ge 176, 10, 183), (10, .iconst 0, 11, 0), (11, .istore_n 3, 12, 0), (12, .iload_n 3, 13, 0), (13, .iload_n 2, 14, 0), (14, .if_icmp .ge 163, 17, 177), (17, .aload_n 0, 18, 0), (18, .getfield 66, 21, 0), (21, .iconst 4, 22, 0), (22, .iload_n 2, 23, 0), (23, .imul, 24, 0), (24, .iaload, 25, 0), (25, .aload_n 0, 26, 0), (26, .getfield 66, 29, 0), (29, .iconst 4, 30, 0), (30, .iload_n 3, 31, 0), (31, .imul, 32, 0), (32, .iconst 1, 33, 0), (33, .iadd, 34, 0), (34, .iaload, 35, 0), (35, .imul, 36, 0), (36, .aload_n 0, 37, 0), (37, .getfield 66, 40, 0), (40, .iconst 4, 41, 0), (41, .iload_n 2, 42, 0), (42, .imul, 43, 0), (43, .iconst 1, 44, 0), (44, .iadd, 45, 0), (45, .iaload, 46, 0), (46, .aload_n 0, 47, 0), (47, .getfield 66, 50, 0), (50, .iconst 4, 51, 0), (51, .iload_n 3, 52, 0), (52, .imul, 53, 0), (53, .iaload, 54, 0), (54, .imul, 55, 0), (55, .if_icmp .ne 93, 58, 148), (58, .aload_n 0, 59, 0), (59, .getfield 66, 62, 0), (62, .iconst 4, 63, 0), (63, .iload_n 2, 64, 0), (64, .imul, 65, 0), (65, .iaload, 66, 0), (66, .aload_n 0, 67, 0), (67, .getfield 66, 70, 0), (70, .iconst 4, 71, 0), (71, .iload_n 3, 72, 0), (72, .imul, 73, 0), (73, .iconst 2, 74, 0), (74, .iadd, 75, 0), (75, .iaload, 76, 0), (76, .imul, 77, 0), (77, .aload_n 0, 78, 0), (78, .getfield 66, 81, 0), (81, .iconst 4, 82, 0), (82, .iload_n 2, 83, 0), (83, .imul, 84, 0), (84, .iconst 2, 85, 0), (85, .iadd, 86, 0), (86, .iaload, 87, 0), (87, .aload_n 0, 88, 0), (88, .getfield 66, 91, 0), (91, .iconst 4, 92, 0), (92, .iload_n 3, 93, 0), (93, .imul, 94, 0), (94, .iaload, 95, 0), (95, .imul, 96, 0), (96, .if_icmp .ne 52, 99, 148), (99, .aload_n 0, 100, 0), (100, .getfield 66, 103, 0), (103, .iconst 4, 104, 0), (104, .iload_n 2, 105, 0), (105, .imul, 106, 0), (106, .iconst 1, 107, 0), (107, .iadd, 108, 0), (108, .iaload, 109, 0), (109, .aload_n 0, 110, 0), (110, .getfield 66, 113, 0), (113, .iconst 4, 114, 0), (114, .iload_n 3, 115, 0), (115, .imul, 116, 0), (116, .iconst 2, 117, 0), (117, .iadd, 118, 0), (118, .iaload, 119, 0), (119, .imul, 120, 0), (120, .aload_n 0, 121, 0), (121, .getfield 66, 124, 0), (124, .iconst 4, 125, 0), (125, .iload_n 2, 126, 0), (126, .imul, 127, 0), (127, .iconst 2, 128, 0), (128, .iadd, 129, 0), (129, .iaload, 130, 0), (130, .aload_n 0, 131, 0), (131, .getfield 66, 134, 0), (134, .iconst 4, 135, 0), (135, .iload_n 3, 136, 0), (136, .imul, 137, 0), (137, .iconst 1, 138, 0), (138, .iadd, 139, 0), (139, .iaload, 140, 0), (140, .imul, 141, 0), (141, .if_icmp .ne 7, 144, 148), (144, .iconst 1, 145, 0), (145, .goto 4, 148, 149), (148, .iconst 0, 149, 0), (149, .istore 4, 151, 0), (151, .iload_n 1, 152, 0), (152, .iload_n 2, 153, 0), (153, .ishr, 154, 0), (154, .iload_n 1, 155, 0), (155, .iload_n 3, 156, 0), (156, .ishr, 157, 0), (157, .iand, 158, 0), (158, .iconst 1, 159, 0), (159, .iand, 160, 0), (160, .iconst 1, 161, 0), (161, .if_icmp .ne 10, 164, 171), (164, .iload 4, 166, 0), (166, .ifCond .ne 5, 169, 171), (169, .iconst 1, 170, 0), (170, .ireturn, 171, 0), (171, .iinc 3 1, 174, 0), (174, .goto (-162), 177, 12), (177, .iinc 2 1, 180, 0), (180, .goto (-178), 183, 2), (183, .iconst 0, 184, 0), (184, .ireturn, 185, 0)]
def mX8_hasTwo : av_mi := (yX8_hasTwo, cX8_hasTwo, 5, (some .boolean), tX8_hasTwo)
theorem oX8_hasTwo : av_OK mX8_hasTwo := by unfold av_OK; decide +kernel
def tX8_rims : av_T := [(0, .aload_n 0, 1, 0), (1, .invokevirtual 255, 4, 0), (4, .istore_n 1, 5, 0), (5, .aload_n 0, 6, 0), (6, .iload_n 1, 7, 0), (7, .invokevirtual 258, 10, 0), (10, .ifCond .ne 6, 13, 16), (13, .ldc 137, 15, 0), (15, .ireturn, 16, 0), (16, .iconst 0, 17, 0), (17, .istore_n 2, 18, 0), (18, .iconst 0, 19, 0), (19, .istore_n 3, 20, 0), (20, .iload_n 3, 21, 0), (21, .aload_n 0, 22, 0), (22, .getfield 228, 25, 0), (25, .if_icmp .ge 119, 28, 144), (28, .iconst 0, 29, 0), (29, .istore 4, 31, 0), (31, .iload 4, 33, 0), (33, .iload_n 3, 34, 0), (34, .if_icmp .ge 104, 37, 138), (37, .aload_n 0, 38, 0), (38, .iload_n 1, 39, 0), (39, .iload_n 3, 40, 0), (40, .invokevirtual 269, 43, 0), (43, .aload_n 0, 44, 0), (44, .iload_n 1, 45, 0), (45, .iload 4, 47, 0), (47, .invokevirtual 269, 50, 0), (50, .iand, 51, 0), (51, .istore 5, 53, 0), (53, .aload_n 0, 54, 0), (54, .iload 5, 56, 0), (56, .invokevirtual 272, 59, 0), (59, .istore 6, 61, 0), (61, .iconst 0, 62, 0), (62, .istore 7, 64, 0), (64, .iload 7, 66, 0), (66, .aload_n 0, 67, 0), (67, .getfield 228, 70, 0), (70, .if_icmp .ge 49, 73, 119), (73, .iload 6, 75, 0), (75, .ifCond .eq 44, 78, 119), (78, .iload 7, 80, 0), (80, .iload_n 3, 81, 0), (81, .if_icmp .eq 25, 84, 106), (84, .iload 7, 86, 0), (86, .iload 4, 88, 0), (88, .if_icmp .eq 18, 91, 106), (91, .aload_n 0, 92, 0), (92, .iload_n 1, 93, 0), (93, .iload 7, 95, 0), (95, .invokevirtual 269, 98, 0), (98, .iload 5, 100, 0), (100, .iand, 101, 0), (101, .iload 5, 103, 0), (103, .if_icmp .eq 7, 106, 110), (106, .iconst 1, 107, 0), (107, .goto 4, 110, 111), (110, .iconst 0, 111, 0), (111, .istore 6, 113, 0), (113, .iinc 7 1, 116, 0), (116, .goto (-52), 119, 64), (119, .iload_n 2, 120, 0), (120, .iload 6, 122, 0), (122, .ifCond .eq 7, 125, 129), (125, .iconst 1, 126, 0), (126, .goto 4, 129, 130), (129, .iconst 0, 130, 0), (130, .iadd, 131, 0), (131, .istore_n 2, 132, 0), (132, .iinc 4 1, 135, 0), (135, .goto (-104), 138, 31), (138, .iinc 3 1, 141, 0), (141, .goto (-121), 144, 20), (144, .iload_n 2, 145, 0), (145, .ireturn, 146, 0)]
def mX8_rims : av_mi := (yX8_rims, cX8_rims, 8, (some .int), tX8_rims)
theorem oX8_rims : av_OK mX8_rims := by unfold av_OK; decide +kernel
def tX8_keep : av_T := [(0, .aload_n 0, 1, 0), (1, .aload_n 0, 2, 0), (2, .getfield 228, 5, 0), (5, .putfield 275, 8, 0), (8, .iconst 0, 9, 0), (9, .istore_n 1, 10, 0), (10, .iload_n 1, 11, 0), (11, .aload_n 0, 12, 0), (12, .getfield 228, 15, 0), (15, .if_icmp .ge 71, 18, 86), (18, .aload_n 0, 19, 0), (19, .getfield 85, 22, 0), (22, .iconst 4, 23, 0), (23, .iload_n 1, 24, 0), (24, .imul, 25, 0), (25, .aload_n 0, 26, 0), (26, .getfield 73, 29, 0), (29, .iload_n 1, 30, 0), (30, .laload, 31, 0), (31, .lastore, 32, 0), (32, .aload_n 0, 33, 0), (33, .getfield 85, 36, 0), (36, .iconst 4, 37, 0), (37, .iload_n 1, 38, 0), (38, .imul, 39, 0), (39, .iconst 1, 40, 0), (40, .iadd, 41, 0), (41, .aload_n 0, 42, 0), (42, .getfield 76, 45, 0), (45, .iload_n 1, 46, 0), (46, .laload, 47, 0), (47, .lastore, 48, 0), (48, .aload_n 0, 49, 0), (49, .getfield 85, 52, 0), (52, .iconst 4, 53, 0), (53, .iload_n 1, 54, 0), (54, .imul, 55, 0), (55, .iconst 2, 56, 0), (56, .iadd, 57, 0), (57, .aload_n 0, 58, 0), (58, .getfield 79, 61, 0), (61, .iload_n 1, 62, 0), (62, .laload, 63, 0), (63, .lastore, 64, 0), (64, .aload_n 0, 65, 0), (65, .getfield 85, 68, 0), (68, .iconst 4, 69, 0), (69, .iload_n 1, 70, 0), (70, .imul, 71, 0), (71, .iconst 3, 72, 0), (72, .iadd, 73, 0), (73, .aload_n 0, 74, 0), (74, .getfield 82, 77, 0), (77, .iload_n 1, 78, 0), (78, .laload, 79, 0), (79, .lastore, 80, 0), (80, .iinc 1 1, 83, 0), (83, .goto (-73), 86, 10), (86, .return_, 87, 0)]
def mX8_keep : av_mi := (yX8_keep, cX8_keep, 2, none, tX8_keep)
theorem oX8_keep : av_OK mX8_keep := by unfold av_OK; decide +kernel
def tX8_areKept : av_T := [(0, .aload_n 0, 1, 0), (1, .getfield 275, 4, 0), (4, .aload_n 0, 5, 0), (5, .getfield 228, 8, 0), (8, .if_icmp .ne 7, 11, 15), (11, .iconst 1, 12, 0), (12, .goto 4, 15, 16), (15, .iconst 0, 16, 0), (16, .istore_n 1, 17, 0), (17, .iconst 0, 18, 0), (18, .istore_n 2, 19, 0), (19, .iload_n 2, 20, 0), (20, .aload_n 0, 21, 0), (21, .getfield 228, 24, 0), (24, .if_icmp .ge 65, 27, 89), (27, .iload_n 1, 28, 0), (28, .ifCond .eq 61, 31, 89), (31, .aload_n 0, 32, 0), (32, .iload_n 2, 33, 0), (33, .aload_n 0, 34, 0), (34, .getfield 85, 37, 0), (37, .iconst 4, 38, 0), (38, .iload_n 2, 39, 0), (39, .imul, 40, 0), (40, .laload, 41, 0), (41, .aload_n 0, 42, 0), (42, .getfield 85, 45, 0), (45, .iconst 4, 46, 0), (46, .iload_n 2, 47, 0), (47, .imul, 48, 0), (48, .iconst 1, 49, 0), (49, .iadd, 50, 0), (50, .laload, 51, 0), (51, .aload_n 0, 52, 0), (52, .getfield 85, 55, 0), (55, .iconst 4, 56, 0), (56, .iload_n 2, 57, 0), (57, .imul, 58, 0), (58, .iconst 2, 59, 0), (59, .iadd, 60, 0), (60, .laload, 61, 0), (61, .aload_n 0, 62, 0), (62, .getfield 85, 65, 0), (65, .iconst 4, 66, 0), (66, .iload_n 2, 67, 0), (67, .imul, 68, 0), (68, .iconst 3, 69, 0), (69, .iadd, 70, 0), (70, .laload, 71, 0), (71, .invokevirtual 231, 74, 0), (74, .ifCond .ne 7, 77, 81), (77, .iconst 1, 78, 0), (78, .goto 4, 81, 82), (81, .iconst 0, 82, 0), (82, .istore_n 1, 83, 0), (83, .iinc 2 1, 86, 0), (86, .goto (-67), 89, 19), (89, .iload_n 1, 90, 0), (90, .ireturn, 91, 0)]
def mX8_areKept : av_mi := (yX8_areKept, cX8_areKept, 3, (some .boolean), tX8_areKept)
theorem oX8_areKept : av_OK mX8_areKept := by unfold av_OK; decide +kernel
def tX8_isIdle : av_T := [(0, .aload_n 0, 1, 0), (1, .invokevirtual 255, 4, 0), (4, .istore_n 2, 5, 0), (5, .aload_n 0, 6, 0), (6, .iload_n 2, 7, 0), (7, .invokevirtual 247, 10, 0), (10, .aload_n 0, 11, 0), (11, .invokevirtual 278, 14, 0), (14, .aload_n 0, 15, 0), (15, .iload_n 2, 16, 0), (16, .iconst 1, 17, 0), (17, .iload_n 1, 18, 0), (18, .ishl, 19, 0), (19, .iconst (-1), 20, 0), (20, .ixor, 21, 0), (21, .iand, 22, 0), (22, .invokevirtual 258, 25, 0), (25, .ifCond .eq 14, 28, 39), (28, .aload_n 0, 29, 0), (29, .invokevirtual 281, 32, 0), (32, .ifCond .eq 7, 35, 39), (35, .iconst 1, 36, 0), (36, .goto 4, 39, 40), (39, .iconst 0, 40, 0), (40, .ireturn, 41, 0)]
def mX8_isIdle : av_mi := (yX8_isIdle, cX8_isIdle, 3, (some .boolean), tX8_isIdle)
theorem oX8_isIdle : av_OK mX8_isIdle := by unfold av_OK; decide +kernel
def tX8_idle : av_T := [(0, .aload_n 0, 1, 0), (1, .iload_n 1, 2, 0), (2, .invokevirtual 219, 5, 0), (5, .ifCond .ne 6, 8, 11), (8, .ldc 105, 10, 0), (10, .ireturn, 11, 0), (11, .aload_n 0, 12, 0), (12, .aload_n 0, 13, 0), (13, .invokevirtual 255, 16, 0), (16, .invokevirtual 258, 19, 0), (19, .ifCond .ne 6, 22, 25), (22, .ldc 137, 24, 0), (24, .ireturn, 25, 0), (25, .aload_n 0, 26, 0), (26, .getfield 69, 29, 0), (29, .iload_n 1, 30, 0), (30, .baload, 31, 0), (31, .ifCond .eq 15, 34, 46), (34, .aload_n 0, 35, 0), (35, .iload_n 1, 36, 0), (36, .invokevirtual 284, 39, 0), (39, .ifCond .eq 7, 42, 46), (42, .iconst 1, 43, 0), (43, .goto 4, 46, 47), (46, .iconst 0, 47, 0), (47, .ireturn, 48, 0)]
def mX8_idle : av_mi := (yX8_idle, cX8_idle, 2, (some .int), tX8_idle)
theorem oX8_idle : av_OK mX8_idle := by unfold av_OK; decide +kernel
def tX8_layShadow : av_T := [(0, .aload_n 0, 1, 0), (1, .iload_n 1, 2, 0), (2, .invokevirtual 258, 5, 0), (5, .ifCond .ne 5, 8, 10), (8, .iconst 0, 9, 0), (9, .ireturn, 10, 0), (10, .iconst 0, 11, 0), (11, .istore_n 2, 12, 0), (12, .iload_n 2, 13, 0), (13, .aload_n 0, 14, 0), (14, .getfield 228, 17, 0), (17, .if_icmp .ge 54, 20, 71), (20, .aload_n 0, 21, 0), (21, .getfield 16, 24, 0), (24, .bipush 12, 26, 0), (26, .iload_n 2, 27, 0), (27, .iadd, 28, 0), (28, .aload_n 0, 29, 0), (29, .getfield 73, 32, 0), (32, .iload_n 2, 33, 0), (33, .laload, 34, 0), (34, .lastore, 35, 0), (35, .aload_n 0, 36, 0), (36, .getfield 20, 39, 0), (39, .bipush 12, 41, 0), (41, .iload_n 2, 42, 0), (42, .iadd, 43, 0), (43, .aload_n 0, 44, 0), (44, .getfield 76, 47, 0), (47, .iload_n 2, 48, 0), (48, .laload, 49, 0), (49, .lastore, 50, 0), (50, .aload_n 0, 51, 0), (51, .getfield 23, 54, 0), (54, .bipush 12, 56, 0), (56, .iload_n 2, 57, 0), (57, .iadd, 58, 0), (58, .aload_n 0, 59, 0), (59, .getfield 82, 62, 0), (62, .iload_n 2, 63, 0), (63, .laload, 64, 0), (64, .lastore, 65, 0), (65, .iinc 2 1, 68, 0), (68, .goto (-56), 71, 12), (71, .aload_n 0, 72, 0), (72, .aload_n 0, 73, 0), (73, .bipush 12, 75, 0), (75, .bipush 12, 77, 0), (77, .aload_n 0, 78, 0), (78, .getfield 228, 81, 0), (81, .iadd, 82, 0), (82, .aload_n 0, 83, 0), (83, .getfield 29, 86, 0), (86, .invokevirtual 127, 89, 0), (89, .putfield 287, 92, 0), (92, .iconst 1, 93, 0), (93, .ireturn, 94, 0)]
def mX8_layShadow : av_mi := (yX8_layShadow, cX8_layShadow, 3, (some .boolean), tX8_layShadow)
theorem oX8_layShadow : av_OK mX8_layShadow := by unfold av_OK; decide +kernel
def tX8_shadow : av_T := [(0, .aload_n 0, 1, 0), (1, .aload_n 0, 2, 0), (2, .invokevirtual 255, 5, 0), (5, .invokevirtual 290, 8, 0), (8, .ifCond .eq 10, 11, 18), (11, .aload_n 0, 12, 0), (12, .getfield 287, 15, 0), (15, .goto 5, 18, 20), (18, .ldc 137, 20, 0), (20, .ireturn, 21, 0)]
def mX8_shadow : av_mi := (yX8_shadow, cX8_shadow, 1, (some .int), tX8_shadow)
theorem oX8_shadow : av_OK mX8_shadow := by unfold av_OK; decide +kernel
def tX8_shadowAt : av_T := [(0, .aload_n 0, 1, 0), (1, .aload_n 0, 2, 0), (2, .invokevirtual 255, 5, 0), (5, .invokevirtual 290, 8, 0), (8, .ifCond .ne 7, 11, 15), (11, .ldc2_w 293, 14, 0), (14, .lreturn, 15, 0), (15, .iload_n 1, 16, 0), (16, .i2l, 17, 0), (17, .lconst 0, 18, 0), (18, .aload_n 0, 19, 0), (19, .getfield 287, 22, 0), (22, .iconst 1, 23, 0), (23, .isub, 24, 0), (24, .i2l, 25, 0), (25, .invokestatic 96, 28, 0), (28, .ifCond .ne 9, 31, 37), (31, .ldc2_w 261, 34, 0), (34, .goto 47, 37, 81), (37, .iload_n 2, 38, 0), (38, .ifCond .eq 17, 41, 55), (41, .aload_n 0, 42, 0), (42, .getfield 20, 45, 0), (45, .aload_n 0, 46, 0), (46, .getfield 29, 49, 0), (49, .iload_n 1, 50, 0), (50, .iaload, 51, 0), (51, .laload, 52, 0), (52, .goto 14, 55, 66), (55, .aload_n 0, 56, 0), (56, .getfield 16, 59, 0), (59, .aload_n 0, 60, 0), (60, .getfield 29, 63, 0), (63, .iload_n 1, 64, 0), (64, .iaload, 65, 0), (65, .laload, 66, 0), (66, .aload_n 0, 67, 0), (67, .getfield 23, 70, 0), (70, .aload_n 0, 71, 0), (71, .getfield 29, 74, 0), (74, .iload_n 1, 75, 0), (75, .iaload, 76, 0), (76, .laload, 77, 0), (77, .iload_n 3, 78, 0), (78, .invokestatic 265, 81, 0), (81, .lreturn, 82, 0)]
def mX8_shadowAt : av_mi := (yX8_shadowAt, cX8_shadowAt, 4, (some .long), tX8_shadowAt)
theorem oX8_shadowAt : av_OK mX8_shadowAt := by unfold av_OK; decide +kernel
def tX8_isSeen : av_T := [(0, .aload_n 0, 1, 0), (1, .invokevirtual 134, 4, 0), (4, .aload_n 0, 5, 0), (5, .getfield 131, 8, 0), (8, .iconst 3, 9, 0), (9, .if_icmp .lt 18, 12, 27), (12, .aload_n 0, 13, 0), (13, .getfield 131, 16, 0), (16, .aload_n 0, 17, 0), (17, .getfield 287, 20, 0), (20, .if_icmp .ne 7, 23, 27), (23, .iconst 1, 24, 0), (24, .goto 4, 27, 28), (27, .iconst 0, 28, 0), (28, .istore_n 1, 29, 0), (29, .iconst 0, 30, 0), (30, .istore_n 2, 31, 0), (31, .iload_n 2, 32, 0), (32, .aload_n 0, 33, 0), (33, .getfield 131, 36, 0), (36, .if_icmp .ge 30, 39, 66), (39, .iload_n 1, 40, 0), (40, .ifCond .eq 26, 43, 66), (43, .aload_n 0, 44, 0), (44, .aload_n 0, 45, 0), (45, .getfield 26, 48, 0), (48, .iload_n 2, 49, 0), (49, .iaload, 50, 0), (50, .aload_n 0, 51, 0), (51, .getfield 29, 54, 0), (54, .iload_n 2, 55, 0), (55, .iaload, 56, 0), (56, .invokevirtual 114, 59, 0), (59, .istore_n 1, 60, 0), (60, .iinc 2 1, 63, 0), (63, .goto (-32), 66, 31), (66, .iload_n 1, 67, 0), (67, .ireturn, 68, 0)]
def mX8_isSeen : av_mi := (yX8_isSeen, cX8_isSeen, 3, (some .boolean), tX8_isSeen)
theorem oX8_isSeen : av_OK mX8_isSeen := by unfold av_OK; decide +kernel
def tX8_seen : av_T := [(0, .aload_n 0, 1, 0), (1, .aload_n 0, 2, 0), (2, .invokevirtual 255, 5, 0), (5, .invokevirtual 290, 8, 0), (8, .ifCond .ne 8, 11, 16), (11, .ldc 137, 13, 0), (13, .goto 15, 16, 28), (16, .aload_n 0, 17, 0), (17, .invokevirtual 295, 20, 0), (20, .ifCond .eq 7, 23, 27), (23, .iconst 1, 24, 0), (24, .goto 4, 27, 28), (27, .iconst 0, 28, 0), (28, .ireturn, 29, 0)]
def mX8_seen : av_mi := (yX8_seen, cX8_seen, 1, (some .int), tX8_seen)
theorem oX8_seen : av_OK mX8_seen := by unfold av_OK; decide +kernel
def tX8_isOutside : av_T := [(0, .iload_n 2, 1, 0), (1, .ifCond .ne 5, 4, 6), (4, .iconst 1, 5, 0), (5, .ireturn, 6, 0), (6, .iload_n 2, 7, 0), (7, .iconst 1, 8, 0), (8, .if_icmp .ne 20, 11, 28), (11, .aload_n 0, 12, 0), (12, .iload_n 1, 13, 0), (13, .aload_n 3, 14, 0), (14, .iconst 0, 15, 0), (15, .iaload, 16, 0), (16, .invokevirtual 114, 19, 0), (19, .ifCond .ne 7, 22, 26), (22, .iconst 1, 23, 0), (23, .goto 4, 26, 27), (26, .iconst 0, 27, 0), (27, .ireturn, 28, 0), (28, .iload_n 2, 29, 0), (29, .iconst 2, 30, 0), (30, .if_icmp .ne 73, 33, 103), (33, .aload_n 0, 34, 0), (34, .aload_n 3, 35, 0), (35, .iconst 0, 36, 0), (36, .iaload, 37, 0), (37, .aload_n 3, 38, 0), (38, .iconst 1, 39, 0), (39, .iaload, 40, 0), (40, .iload_n 1, 41, 0), (41, .invokevirtual 119, 44, 0), (44, .lconst 0, 45, 0), (45, .lcmp, 46, 0), (46, .ifCond .ne 43, 49, 89), (49, .aload_n 0, 50, 0), (50, .iload_n 1, 51, 0), (51, .aload_n 3, 52, 0), (52, .iconst 0, 53, 0), (53, .iaload, 54, 0), (54, .invokevirtual 114, 57, 0), (57, .ifCond .ne 28, 60, 85), (60, .aload_n 0, 61, 0), (61, .iload_n 1, 62, 0), (62, .aload_n 3, 63, 0), (63, .iconst 1, 64, 0), (64, .iaload, 65, 0), (65, .invokevirtual 114, 68, 0), (68, .ifCond .ne 17, 71, 85), (71, .aload_n 0, 72, 0), (72, .aload_n 3, 73, 0), (73, .iconst 0, 74, 0), (74, .iaload, 75, 0), (75, .iload_n 1, 76, 0), (76, .aload_n 3, 77, 0), (77, .iconst 1, 78, 0), (78, .iaload, 79, 0), (79, .invokevirtual 123, 82, 0), (82, .ifCond .eq 7, 85, 89), (85, .iconst 1, 86, 0), (86, .goto 4, 89, 90), (89, .iconst 0, 90, 0), (90, .istore 4, 92, 0), (92, .iload 4, 94, 0), (94, .ifCond .ne 7, 97, 101), (97, .iconst 1, 98, 0), (98, .goto 4, 101, 102), (101, .iconst 0, 102, 0), (102, .ireturn, 103, 0), (103, .iconst 0, 104, 0), (104, .istore 4, 106, 0), (106, .iconst 0, 107, 0), (107, .istore 5, 109, 0), (109, .iload 5, 111, 0), (111, .iload_n 2, 112, 0), (112, .if_icmp .ge 43, 115, 155), (115, .iload 4, 117, 0), (117, .ifCond .ne 25, 120, 142), (120, .aload_n 0, 121, 0), (121, .aload_n 3, 122, 0), (122, .iload 5, 124, 0), (124, .iaload, 125, 0), (125, .aload_n 3, 126, 0), (126, .iload 5, 128, 0), (128, .iconst 1, 129, 0), (129, .iadd, 130, 0), (130, .iload_n 2, 131, 0), (131, .irem, 132, 0), (132, .iaload, 133, 0), (133, .iload_n 1, 134, 0), (134, .invokevirtual 119, 137, 0), (137, .lconst 0, 138, 0), (138, .lcmp, 139, 0), (139, .ifCond .ge 7, 142, 146), (142, .iconst 1, 143, 0), (143, .goto 4, 146, 147), (146, .iconst 0, 147, 0), (147, .istore 4, 149, 0), (149, .iinc 5 1, 152, 0), (152, .goto (-43), 155, 109), (155, .iload 4, 157, 0), (157, .ireturn, 158, 0)]
def mX8_isOutside : av_mi := (yX8_isOutside, cX8_isOutside, 6, (some .boolean), tX8_isOutside)
theorem oX8_isOutside : av_OK mX8_isOutside := by unfold av_OK; decide +kernel
def tX8_missed : av_T := [(0, .aload_n 0, 1, 0), (1, .aload_n 0, 2, 0), (2, .invokevirtual 255, 5, 0), (5, .invokevirtual 290, 8, 0), (8, .ifCond .ne 6, 11, 14), (11, .ldc 137, 13, 0), (13, .ireturn, 14, 0), (14, .aload_n 0, 15, 0), (15, .invokevirtual 134, 18, 0), (18, .iconst 0, 19, 0), (19, .istore_n 1, 20, 0), (20, .iconst 0, 21, 0), (21, .istore_n 2, 22, 0), (22, .iload_n 2, 23, 0), (23, .aload_n 0, 24, 0), (24, .getfield 131, 27, 0), (27, .if_icmp .ge 38, 30, 65), (30, .iload_n 1, 31, 0), (31, .aload_n 0, 32, 0), (32, .aload_n 0, 33, 0), (33, .getfield 26, 36, 0), (36, .iload_n 2, 37, 0), (37, .iaload, 38, 0), (38, .aload_n 0, 39, 0), (39, .getfield 287, 42, 0), (42, .aload_n 0, 43, 0), (43, .getfield 29, 46, 0), (46, .invokevirtual 298, 49, 0), (49, .ifCond .eq 7, 52, 56), (52, .iconst 1, 53, 0), (53, .goto 4, 56, 57), (56, .iconst 0, 57, 0), (57, .iadd, 58, 0), (58, .istore_n 1, 59, 0), (59, .iinc 2 1, 62, 0), (62, .goto (-40), 65, 22), (65, .iload_n 1, 66, 0), (66, .ireturn, 67, 0)]
def mX8_missed : av_mi := (yX8_missed, cX8_missed, 3, (some .int), tX8_missed)
theorem oX8_missed : av_OK mX8_missed := by unfold av_OK; decide +kernel
def tX8_beyond : av_T := [(0, .aload_n 0, 1, 0), (1, .aload_n 0, 2, 0), (2, .invokevirtual 255, 5, 0), (5, .invokevirtual 290, 8, 0), (8, .ifCond .eq 10, 11, 18), (11, .aload_n 0, 12, 0), (12, .getfield 101, 15, 0), (15, .ifCond .ne 6, 18, 21), (18, .ldc 137, 20, 0), (20, .ireturn, 21, 0), (21, .aload_n 0, 22, 0), (22, .invokevirtual 134, 25, 0), (25, .iconst 0, 26, 0), (26, .istore_n 1, 27, 0), (27, .iconst 0, 28, 0), (28, .istore_n 2, 29, 0), (29, .iload_n 2, 30, 0), (30, .aload_n 0, 31, 0), (31, .getfield 287, 34, 0), (34, .if_icmp .ge 38, 37, 72), (37, .iload_n 1, 38, 0), (38, .aload_n 0, 39, 0), (39, .aload_n 0, 40, 0), (40, .getfield 29, 43, 0), (43, .iload_n 2, 44, 0), (44, .iaload, 45, 0), (45, .aload_n 0, 46, 0), (46, .getfield 131, 49, 0), (49, .aload_n 0, 50, 0), (50, .getfield 26, 53, 0), (53, .invokevirtual 298, 56, 0), (56, .ifCond .eq 7, 59, 63), (59, .iconst 1, 60, 0), (60, .goto 4, 63, 64), (63, .iconst 0, 64, 0), (64, .iadd, 65, 0), (65, .istore_n 1, 66, 0), (66, .iinc 2 1, 69, 0), (69, .goto (-40), 72, 29), (72, .iload_n 1, 73, 0), (73, .ireturn, 74, 0)]
def mX8_beyond : av_mi := (yX8_beyond, cX8_beyond, 3, (some .int), tX8_beyond)
theorem oX8_beyond : av_OK mX8_beyond := by unfold av_OK; decide +kernel
def tX8_bits : av_T := [(0, .iconst 0, 1, 0), (1, .istore_n 1, 2, 0), (2, .iconst 0, 3, 0), (3, .istore_n 2, 4, 0), (4, .iload_n 2, 5, 0), (5, .bipush 10, 7, 0), (7, .if_icmp .ge 17, 10, 24), (10, .iload_n 1, 11, 0), (11, .iload_n 0, 12, 0), (12, .iload_n 2, 13, 0), (13, .ishr, 14, 0), (14, .iconst 1, 15, 0), (15, .iand, 16, 0), (16, .iadd, 17, 0), (17, .istore_n 1, 18, 0), (18, .iinc 2 1, 21, 0), (21, .goto (-17), 24, 4), (24, .iload_n 1, 25, 0), (25, .ireturn, 26, 0)]
def mX8_bits : av_mi := (yX8_bits, cX8_bits, 3, (some .int), tX8_bits)
theorem oX8_bits : av_OK mX8_bits := by unfold av_OK; decide +kernel
def tX8_isFirst : av_T := [(0, .iload_n 0, 1, 0), (1, .iload_n 1, 2, 0), (2, .ixor, 3, 0), (3, .istore_n 2, 4, 0), (4, .iload_n 0, 5, 0), (5, .iload_n 2, 6, 0), (6, .iand, 7, 0), (7, .iload_n 2, 8, 0), (8, .ineg, 9, 0), (9, .iand, 10, 0), (10, .ifCond .eq 7, 13, 17), (13, .iconst 1, 14, 0), (14, .goto 4, 17, 18), (17, .iconst 0, 18, 0), (18, .ireturn, 19, 0)]
def mX8_isFirst : av_mi := (yX8_isFirst, cX8_isFirst, 3, (some .boolean), tX8_isFirst)
theorem oX8_isFirst : av_OK mX8_isFirst := by unfold av_OK; decide +kernel
def tX8_layFewest : av_T := [(0, .aload_n 0, 1, 0), (1, .invokevirtual 255, 4, 0), (4, .istore_n 1, 5, 0), (5, .aload_n 0, 6, 0), (6, .ldc 204, 8, 0), (8, .putfield 302, 11, 0), (11, .iconst 1, 12, 0), (12, .istore_n 2, 13, 0), (13, .iload_n 2, 14, 0), (14, .iconst 1, 15, 0), (15, .aload_n 0, 16, 0), (16, .getfield 216, 19, 0), (19, .ishl, 20, 0), (20, .if_icmp .ge 95, 23, 115), (23, .iload_n 2, 24, 0), (24, .iload_n 1, 25, 0), (25, .iconst (-1), 26, 0), (26, .ixor, 27, 0), (27, .iand, 28, 0), (28, .ifCond .ne 55, 31, 83), (31, .aload_n 0, 32, 0), (32, .getfield 302, 35, 0), (35, .ldc 204, 37, 0), (37, .if_icmp .eq 42, 40, 79), (40, .iload_n 2, 41, 0), (41, .invokestatic 305, 44, 0), (44, .aload_n 0, 45, 0), (45, .getfield 302, 48, 0), (48, .invokestatic 305, 51, 0), (51, .if_icmp .lt 28, 54, 79), (54, .iload_n 2, 55, 0), (55, .invokestatic 305, 58, 0), (58, .aload_n 0, 59, 0), (59, .getfield 302, 62, 0), (62, .invokestatic 305, 65, 0), (65, .if_icmp .ne 18, 68, 83), (68, .iload_n 2, 69, 0), (69, .aload_n 0, 70, 0), (70, .getfield 302, 73, 0), (73, .invokestatic 309, 76, 0), (76, .ifCond .eq 7, 79, 83), (79, .iconst 1, 80, 0), (80, .goto 4, 83, 84), (83, .iconst 0, 84, 0), (84, .istore_n 3, 85, 0), (85, .iload_n 3, 86, 0), (86, .ifCond .eq 23, 89, 109), (89, .aload_n 0, 90, 0), (90, .iload_n 2, 91, 0), (91, .invokevirtual 290, 94, 0), (94, .ifCond .eq 15, 97, 109), (97, .aload_n 0, 98, 0), (98, .invokevirtual 295, 101, 0), (101, .ifCond .eq 8, 104, 109), (104, .aload_n 0, 105, 0), (105, .iload_n 2, 106, 0), (106, .putfield 302, 109, 0), (109, .iinc 2 1, 112, 0), (112, .goto (-99), 115, 13), (115, .return_, 116, 0)]
def mX8_layFewest : av_mi := (yX8_layFewest, cX8_layFewest, 4, none, tX8_layFewest)
theorem oX8_layFewest : av_OK mX8_layFewest := by unfold av_OK; decide +kernel
def tX8_fewest : av_T := [(0, .aload_n 0, 1, 0), (1, .invokevirtual 312, 4, 0), (4, .aload_n 0, 5, 0), (5, .getfield 302, 8, 0), (8, .ldc 204, 10, 0), (10, .if_icmp .ne 8, 13, 18), (13, .ldc 204, 15, 0), (15, .goto 10, 18, 25), (18, .aload_n 0, 19, 0), (19, .getfield 302, 22, 0), (22, .invokestatic 305, 25, 0), (25, .ireturn, 26, 0)]
def mX8_fewest : av_mi := (yX8_fewest, cX8_fewest, 1, (some .int), tX8_fewest)
theorem oX8_fewest : av_OK mX8_fewest := by unfold av_OK; decide +kernel
def tX8_needed : av_T := [(0, .aload_n 0, 1, 0), (1, .invokevirtual 312, 4, 0), (4, .iload_n 1, 5, 0), (5, .istore_n 2, 6, 0), (6, .iconst 0, 7, 0), (7, .istore_n 3, 8, 0), (8, .iload_n 3, 9, 0), (9, .aload_n 0, 10, 0), (10, .getfield 216, 13, 0), (13, .if_icmp .ge 43, 16, 56), (16, .aload_n 0, 17, 0), (17, .getfield 302, 20, 0), (20, .ldc 204, 22, 0), (22, .if_icmp .eq 34, 25, 56), (25, .iload_n 1, 26, 0), (26, .ifCond .lt 30, 29, 56), (29, .aload_n 0, 30, 0), (30, .getfield 302, 33, 0), (33, .iload_n 3, 34, 0), (34, .ishr, 35, 0), (35, .iconst 1, 36, 0), (36, .iand, 37, 0), (37, .iconst 1, 38, 0), (38, .if_icmp .ne 12, 41, 50), (41, .iload_n 2, 42, 0), (42, .ifCond .ne 5, 45, 47), (45, .iload_n 3, 46, 0), (46, .ireturn, 47, 0), (47, .iinc 2 (-1), 50, 0), (50, .iinc 3 1, 53, 0), (53, .goto (-45), 56, 8), (56, .ldc 204, 58, 0), (58, .ireturn, 59, 0)]
def mX8_needed : av_mi := (yX8_needed, cX8_needed, 4, (some .int), tX8_needed)
theorem oX8_needed : av_OK mX8_needed := by unfold av_OK; decide +kernel
def tX8_high : av_T := [(0, .aload_n 0, 1, 0), (1, .invokevirtual 147, 4, 0), (4, .ifCond .eq 6, 7, 10), (7, .ldc 137, 9, 0), (9, .ireturn, 10, 0), (10, .aload_n 0, 11, 0), (11, .getfield 131, 14, 0), (14, .istore_n 1, 15, 0), (15, .aload_n 0, 16, 0), (16, .invokevirtual 205, 19, 0), (19, .ldc 204, 21, 0), (21, .if_icmp .ne 18, 24, 39), (24, .aload_n 0, 25, 0), (25, .getfield 53, 28, 0), (28, .iload_n 1, 29, 0), (29, .if_icmp .ge 10, 32, 39), (32, .aload_n 0, 33, 0), (33, .getfield 53, 36, 0), (36, .goto 4, 39, 40), (39, .iload_n 1, 40, 0), (40, .istore_n 1, 41, 0), (41, .aload_n 0, 42, 0), (42, .invokevirtual 312, 45, 0), (45, .aload_n 0, 46, 0), (46, .getfield 302, 49, 0), (49, .ldc 204, 51, 0), (51, .if_icmp .eq 24, 54, 75), (54, .aload_n 0, 55, 0), (55, .getfield 302, 58, 0), (58, .invokestatic 305, 61, 0), (61, .iload_n 1, 62, 0), (62, .if_icmp .ge 13, 65, 75), (65, .aload_n 0, 66, 0), (66, .getfield 302, 69, 0), (69, .invokestatic 305, 72, 0), (72, .goto 4, 75, 76), (75, .iload_n 1, 76, 0), (76, .ireturn, 77, 0)]
def mX8_high : av_mi := (yX8_high, cX8_high, 2, (some .int), tX8_high)
theorem oX8_high : av_OK mX8_high := by unfold av_OK; decide +kernel
def tX8_isAbove : av_T := [(0, .lload_n 0, 1, 0), (1, .lstore 8, 3, 0), (3, .lload_n 2, 4, 0), (4, .lstore 10, 6, 0), (6, .lload 4, 8, 0), (8, .lstore 12, 10, 0), (10, .lload 6, 12, 0), (12, .lstore 14, 14, 0), (14, .iconst 0, 15, 0), (15, .istore 16, 17, 0), (17, .lload 8, 19, 0), (19, .lload 10, 21, 0), (21, .ldiv, 22, 0), (22, .lload 12, 24, 0), (24, .lload 14, 26, 0), (26, .ldiv, 27, 0), (27, .lcmp, 28, 0), (28, .ifCond .ne 110, 31, 138), (31, .lload 8, 33, 0), (33, .lload 10, 35, 0), (35, .lrem, 36, 0), (36, .lstore 17, 38, 0), (38, .lload 12, 40, 0), (40, .lload 14, 42, 0), (42, .lrem, 43, 0), (43, .lstore 19, 45, 0), (45, .lload 17, 47, 0), (47, .lconst 0, 48, 0), (48, .lcmp, 49, 0), (49, .ifCond .eq 10, 52, 59), (52, .lload 19, 54, 0), (54, .lconst 0, 55, 0), (55, .lcmp, 56, 0), (56, .ifCond .ne 51, 59, 107), (59, .iload 16, 61, 0), (61, .ifCond .eq 26, 64, 87), (64, .lload 17, 66, 0), (66, .lload 19, 68, 0), (68, .lcmp, 69, 0), (69, .ifCond .ge 14, 72, 83), (72, .lload 17, 74, 0), (74, .lconst 0, 75, 0), (75, .lcmp, 76, 0), (76, .ifCond .ne 7, 79, 83), (79, .iconst 1, 80, 0), (80, .goto 26, 83, 106), (83, .iconst 0, 84, 0), (84, .goto 22, 87, 106), (87, .lload 19, 89, 0), (89, .lconst 0, 90, 0), (90, .lcmp, 91, 0), (91, .ifCond .ne 14, 94, 105), (94, .lload 17, 96, 0), (96, .lconst 0, 97, 0), (97, .lcmp, 98, 0), (98, .ifCond .le 7, 101, 105), (101, .iconst 1, 102, 0), (102, .goto 4, 105, 106), (105, .iconst 0, 106, 0), (106, .ireturn, 107, 0), (107, .lload 10, 109, 0), (109, .lstore 8, 111, 0), (111, .lload 17, 113, 0), (113, .lstore 10, 115, 0), (115, .lload 14, 117, 0), (117, .lstore 12, 119, 0), (119, .lload 19, 121, 0), (121, .lstore 14, 123, 0), (123, .iload 16, 125, 0), (125, .ifCond .ne 7, 128, 132), (128, .iconst 1, 129, 0), (129, .goto 4, 132, 133), (132, .iconst 0, 133, 0), (133, .istore 16, 135, 0), (135, .goto (-118), 138, 17), (138, .lload 8, 140, 0), (140, .lload 10, 142, 0), (142, .ldiv, 143, 0), (143, .lload 12, 145, 0), (145, .lload 14, 147, 0), (147, .ldiv, 148, 0), (148, .lcmp, 149, 0), (149, .ifCond .le 7, 152, 156), (152, .iconst 1, 153, 0), (153, .goto 4, 156, 157), (156, .iconst 0, 157, 0), (157, .iload 16, 159, 0), (159, .if_icmp .eq 7, 162, 166), (162, .iconst 1, 163, 0), (163, .goto 4, 166, 167), (166, .iconst 0, 167, 0), (167, .ireturn, 168, 0)]
def mX8_isAbove : av_mi := (yX8_isAbove, cX8_isAbove, 21, (some .boolean), tX8_isAbove)
theorem oX8_isAbove : av_OK mX8_isAbove := by unfold av_OK; decide +kernel
def tX8_blow : av_T := [(0, .aload_n 0, 1, 0), (1, .aload_n 0, 2, 0), (2, .invokevirtual 255, 5, 0), (5, .invokevirtual 290, 8, 0), (8, .ifCond .eq 18, 11, 26), (11, .aload_n 0, 12, 0), (12, .getfield 101, 15, 0), (15, .ifCond .eq 11, 18, 26), (18, .aload_n 0, 19, 0), (19, .getfield 287, 22, 0), (22, .iconst 3, 23, 0), (23, .if_icmp .ge 7, 26, 30), (26, .ldc2_w 293, 29, 0), (29, .lreturn, 30, 0), (30, .aload_n 0, 31, 0), (31, .invokevirtual 134, 34, 0), (34, .lconst 0, 35, 0), (35, .lstore_n 2, 36, 0), (36, .lconst 1, 37, 0), (37, .lstore 4, 39, 0), (39, .iconst 0, 40, 0), (40, .istore 6, 42, 0), (42, .iload 6, 44, 0), (44, .aload_n 0, 45, 0), (45, .getfield 287, 48, 0), (48, .if_icmp .ge 224, 51, 272), (51, .aload_n 0, 52, 0), (52, .getfield 29, 55, 0), (55, .iload 6, 57, 0), (57, .iaload, 58, 0), (58, .istore 7, 60, 0), (60, .aload_n 0, 61, 0), (61, .getfield 29, 64, 0), (64, .iload 6, 66, 0), (66, .iconst 1, 67, 0), (67, .iadd, 68, 0), (68, .aload_n 0, 69, 0), (69, .getfield 287, 72, 0), (72, .irem, 73, 0), (73, .iaload, 74, 0), (74, .istore 8, 76, 0), (76, .aload_n 0, 77, 0), (77, .getfield 16, 80, 0), (80, .iload 7, 82, 0), (82, .laload, 83, 0), (83, .aload_n 0, 84, 0), (84, .getfield 20, 87, 0), (87, .iload 8, 89, 0), (89, .laload, 90, 0), (90, .lmul, 91, 0), (91, .aload_n 0, 92, 0), (92, .getfield 20, 95, 0), (95, .iload 7, 97, 0), (97, .laload, 98, 0), (98, .aload_n 0, 99, 0), (99, .getfield 16, 102, 0), (102, .iload 8, 104, 0), (104, .laload, 105, 0), (105, .lmul, 106, 0), (106, .lsub, 107, 0), (107, .lstore 9, 109, 0), (109, .lload 9, 111, 0), (111, .lconst 0, 112, 0), (112, .lcmp, 113, 0), (113, .ifCond .gt 7, 116, 120), (116, .ldc2_w 293, 119, 0), (119, .lreturn, 120, 0), (120, .aload_n 0, 121, 0), (121, .getfield 20, 124, 0), (124, .iload 8, 126, 0), (126, .laload, 127, 0), (127, .aload_n 0, 128, 0), (128, .getfield 23, 131, 0), (131, .iload 7, 133, 0), (133, .laload, 134, 0), (134, .lmul, 135, 0), (135, .aload_n 0, 136, 0), (136, .getfield 20, 139, 0), (139, .iload 7, 141, 0), (141, .laload, 142, 0), (142, .aload_n 0, 143, 0), (143, .getfield 23, 146, 0), (146, .iload 8, 148, 0), (148, .laload, 149, 0), (149, .lmul, 150, 0), (150, .lsub, 151, 0), (151, .lstore 11, 153, 0), (153, .aload_n 0, 154, 0), (154, .getfield 16, 157, 0), (157, .iload 7, 159, 0), (159, .laload, 160, 0), (160, .aload_n 0, 161, 0), (161, .getfield 23, 164, 0), (164, .iload 8, 166, 0), (166, .laload, 167, 0), (167, .lmul, 168, 0), (168, .aload_n 0, 169, 0), (169, .getfield 16, 172, 0), (172, .iload 8, 174, 0), (174, .laload, 175, 0), (175, .aload_n 0, 176, 0), (176, .getfield 23, 179, 0), (179, .iload 7, 181, 0), (181, .laload, 182, 0), (182, .lmul, 183, 0), (183, .lsub, 184, 0), (184, .lstore 13, 186, 0), (186, .iconst 0, 187, 0), (187, .istore 15, 189, 0), (189, .iload 15, 191, 0), (191, .aload_n 0, 192, 0), (192, .getfield 131, 195, 0), (195, .if_icmp .ge 71, 198, 266), (198, .lload 11, 200, 0), (200, .aload_n 0, 201, 0), (201, .getfield 7, 204, 0), (204, .aload_n 0, 205, 0), (205, .getfield 26, 208, 0), (208, .iload 15, 210, 0), (210, .iaload, 211, 0), (211, .iaload, 212, 0), (212, .i2l, 213, 0), (213, .lmul, 214, 0), (214, .lload 13, 216, 0), (216, .aload_n 0, 217, 0), (217, .getfield 13, 220, 0), (220, .aload_n 0, 221, 0), (221, .getfield 26, 224, 0), (224, .iload 15, 226, 0), (226, .iaload, 227, 0), (227, .iaload, 228, 0), (228, .i2l, 229, 0), (229, .lmul, 230, 0), (230, .ladd, 231, 0), (231, .lstore 16, 233, 0), (233, .lload 16, 235, 0), (235, .lconst 0, 236, 0), (236, .lcmp, 237, 0), (237, .ifCond .le 23, 240, 260), (240, .lload 16, 242, 0), (242, .lload 9, 244, 0), (244, .lload_n 2, 245, 0), (245, .lload 4, 247, 0), (247, .invokestatic 315, 250, 0), (250, .ifCond .eq 10, 253, 260), (253, .lload 16, 255, 0), (255, .lstore_n 2, 256, 0), (256, .lload 9, 258, 0), (258, .lstore 4, 260, 0), (260, .iinc 15 1, 263, 0), (263, .goto (-74), 266, 189), (266, .iinc 6 1, 269, 0), (269, .goto (-227), 272, 42), (272, .lload_n 2, 273, 0), (273, .lload 4, 275, 0), (275, .iload_n 1, 276, 0), (276, .invokestatic 265, 279, 0), (279, .lreturn, 280, 0)]
def mX8_blow : av_mi := (yX8_blow, cX8_blow, 18, (some .long), tX8_blow)
theorem oX8_blow : av_OK mX8_blow := by unfold av_OK; decide +kernel
def tX8_most : av_T := [(0, .iload_n 1, 1, 0), (1, .i2l, 2, 0), (2, .ldc2_w 212, 5, 0), (5, .ldc2_w 214, 8, 0), (8, .invokestatic 96, 11, 0), (11, .ifCond .eq 17, 14, 28), (14, .iload_n 2, 15, 0), (15, .i2l, 16, 0), (16, .ldc2_w 212, 19, 0), (19, .ldc2_w 214, 22, 0), (22, .invokestatic 96, 25, 0), (25, .ifCond .ne 6, 28, 31), (28, .ldc 100, 30, 0), (30, .ireturn, 31, 0), (31, .aload_n 0, 32, 0), (32, .getfield 101, 35, 0), (35, .ifCond .ne 6, 38, 41), (38, .ldc 137, 40, 0), (40, .ireturn, 41, 0), (41, .iload_n 1, 42, 0), (42, .aload_n 0, 43, 0), (43, .getfield 7, 46, 0), (46, .iconst 0, 47, 0), (47, .iaload, 48, 0), (48, .imul, 49, 0), (49, .iload_n 2, 50, 0), (50, .aload_n 0, 51, 0), (51, .getfield 13, 54, 0), (54, .iconst 0, 55, 0), (55, .iaload, 56, 0), (56, .imul, 57, 0), (57, .iadd, 58, 0), (58, .istore_n 3, 59, 0), (59, .iconst 1, 60, 0), (60, .istore 4, 62, 0), (62, .iload 4, 64, 0), (64, .aload_n 0, 65, 0), (65, .getfield 101, 68, 0), (68, .if_icmp .ge 43, 71, 111), (71, .iload_n 1, 72, 0), (72, .aload_n 0, 73, 0), (73, .getfield 7, 76, 0), (76, .iload 4, 78, 0), (78, .iaload, 79, 0), (79, .imul, 80, 0), (80, .iload_n 2, 81, 0), (81, .aload_n 0, 82, 0), (82, .getfield 13, 85, 0), (85, .iload 4, 87, 0), (87, .iaload, 88, 0), (88, .imul, 89, 0), (89, .iadd, 90, 0), (90, .istore 5, 92, 0), (92, .iload 5, 94, 0), (94, .iload_n 3, 95, 0), (95, .if_icmp .le 8, 98, 103), (98, .iload 5, 100, 0), (100, .goto 4, 103, 104), (103, .iload_n 3, 104, 0), (104, .istore_n 3, 105, 0), (105, .iinc 4 1, 108, 0), (108, .goto (-46), 111, 62), (111, .iload_n 3, 112, 0), (112, .ireturn, 113, 0)]
def mX8_most : av_mi := (yX8_most, cX8_most, 6, (some .int), tX8_most)
theorem oX8_most : av_OK mX8_most := by unfold av_OK; decide +kernel
def tX8_mayAsk : av_T := [(0, .iload_n 1, 1, 0), (1, .i2l, 2, 0), (2, .ldc2_w 212, 5, 0), (5, .ldc2_w 214, 8, 0), (8, .invokestatic 96, 11, 0), (11, .ifCond .eq 31, 14, 42), (14, .iload_n 2, 15, 0), (15, .i2l, 16, 0), (16, .ldc2_w 212, 19, 0), (19, .ldc2_w 214, 22, 0), (22, .invokestatic 96, 25, 0), (25, .ifCond .eq 17, 28, 42), (28, .iload_n 3, 29, 0), (29, .i2l, 30, 0), (30, .ldc2_w 212, 33, 0), (33, .ldc2_w 214, 36, 0), (36, .invokestatic 96, 39, 0), (39, .ifCond .ne 6, 42, 45), (42, .ldc 100, 44, 0), (44, .ireturn, 45, 0), (45, .aload_n 0, 46, 0), (46, .aload_n 0, 47, 0), (47, .invokevirtual 255, 50, 0), (50, .invokevirtual 258, 53, 0), (53, .ifCond .eq 7, 56, 60), (56, .iconst 0, 57, 0), (57, .goto 5, 60, 62), (60, .ldc 137, 62, 0), (62, .ireturn, 63, 0)]
def mX8_mayAsk : av_mi := (yX8_mayAsk, cX8_mayAsk, 4, (some .int), tX8_mayAsk)
theorem oX8_mayAsk : av_OK mX8_mayAsk := by unfold av_OK; decide +kernel
def tX8_bestVertex : av_T := [(0, .iconst 0, 1, 0), (1, .istore 4, 3, 0), (3, .iconst 1, 4, 0), (4, .istore 5, 6, 0), (6, .iload 5, 8, 0), (8, .aload_n 0, 9, 0), (9, .getfield 228, 12, 0), (12, .if_icmp .ge 113, 15, 125), (15, .iload_n 1, 16, 0), (16, .i2l, 17, 0), (17, .aload_n 0, 18, 0), (18, .getfield 73, 21, 0), (21, .iload 5, 23, 0), (23, .laload, 24, 0), (24, .lmul, 25, 0), (25, .iload_n 2, 26, 0), (26, .i2l, 27, 0), (27, .aload_n 0, 28, 0), (28, .getfield 76, 31, 0), (31, .iload 5, 33, 0), (33, .laload, 34, 0), (34, .lmul, 35, 0), (35, .ladd, 36, 0), (36, .iload_n 3, 37, 0), (37, .i2l, 38, 0), (38, .aload_n 0, 39, 0), (39, .getfield 79, 42, 0), (42, .iload 5, 44, 0), (44, .laload, 45, 0), (45, .lmul, 46, 0), (46, .ladd, 47, 0), (47, .lstore 6, 49, 0), (49, .iload_n 1, 50, 0), (50, .i2l, 51, 0), (51, .aload_n 0, 52, 0), (52, .getfield 73, 55, 0), (55, .iload 4, 57, 0), (57, .laload, 58, 0), (58, .lmul, 59, 0), (59, .iload_n 2, 60, 0), (60, .i2l, 61, 0), (61, .aload_n 0, 62, 0), (62, .getfield 76, 65, 0), (65, .iload 4, 67, 0), (67, .laload, 68, 0), (68, .lmul, 69, 0), (69, .ladd, 70, 0), (70, .iload_n 3, 71, 0), (71, .i2l, 72, 0), (72, .aload_n 0, 73, 0), (73, .getfield 79, 76, 0), (76, .iload 4, 78, 0), (78, .laload, 79, 0), (79, .lmul, 80, 0), (80, .ladd, 81, 0), (81, .lstore 8, 83, 0), (83, .aload_n 0, 84, 0), (84, .lload 6, 86, 0), (86, .aload_n 0, 87, 0), (87, .getfield 82, 90, 0), (90, .iload 5, 92, 0), (92, .laload, 93, 0), (93, .lload 8, 95, 0), (95, .aload_n 0, 96, 0), (96, .getfield 82, 99, 0), (99, .iload 4, 101, 0), (101, .laload, 102, 0), (102, .invokevirtual 106, 105, 0), (105, .lconst 0, 106, 0), (106, .lcmp, 107, 0), (107, .ifCond .le 8, 110, 115), (110, .iload 5, 112, 0), (112, .goto 5, 115, 117), (115, .iload 4, 117, 0), (117, .istore 4, 119, 0), (119, .iinc 5 1, 122, 0), (122, .goto (-116), 125, 6), (125, .iload 4, 127, 0), (127, .ireturn, 128, 0)]
def mX8_bestVertex : av_mi := (yX8_bestVertex, cX8_bestVertex, 10, (some .int), tX8_bestVertex)
theorem oX8_bestVertex : av_OK mX8_bestVertex := by unfold av_OK; decide +kernel
def tX8_mostOf : av_T := [(0, .aload_n 0, 1, 0), (1, .iload_n 1, 2, 0), (2, .iload_n 2, 3, 0), (3, .iload_n 3, 4, 0), (4, .invokevirtual 319, 7, 0), (7, .istore 5, 9, 0), (9, .iload 5, 11, 0), (11, .ifCond .ge 7, 14, 18), (14, .iload 5, 16, 0), (16, .i2l, 17, 0), (17, .lreturn, 18, 0), (18, .aload_n 0, 19, 0), (19, .iload_n 1, 20, 0), (20, .iload_n 2, 21, 0), (21, .iload_n 3, 22, 0), (22, .invokevirtual 323, 25, 0), (25, .istore 6, 27, 0), (27, .iload_n 1, 28, 0), (28, .i2l, 29, 0), (29, .aload_n 0, 30, 0), (30, .getfield 73, 33, 0), (33, .iload 6, 35, 0), (35, .laload, 36, 0), (36, .lmul, 37, 0), (37, .iload_n 2, 38, 0), (38, .i2l, 39, 0), (39, .aload_n 0, 40, 0), (40, .getfield 76, 43, 0), (43, .iload 6, 45, 0), (45, .laload, 46, 0), (46, .lmul, 47, 0), (47, .ladd, 48, 0), (48, .iload_n 3, 49, 0), (49, .i2l, 50, 0), (50, .aload_n 0, 51, 0), (51, .getfield 79, 54, 0), (54, .iload 6, 56, 0), (56, .laload, 57, 0), (57, .lmul, 58, 0), (58, .ladd, 59, 0), (59, .aload_n 0, 60, 0), (60, .getfield 82, 63, 0), (63, .iload 6, 65, 0), (65, .laload, 66, 0), (66, .iload 4, 68, 0), (68, .invokestatic 265, 71, 0), (71, .lreturn, 72, 0)]
def mX8_mostOf : av_mi := (yX8_mostOf, cX8_mostOf, 7, (some .long), tX8_mostOf)
theorem oX8_mostOf : av_OK mX8_mostOf := by unfold av_OK; decide +kernel
def tX8_at : av_T := [(0, .aload_n 0, 1, 0), (1, .iload_n 1, 2, 0), (2, .iload_n 2, 3, 0), (3, .iload_n 3, 4, 0), (4, .invokevirtual 319, 7, 0), (7, .istore 4, 9, 0), (9, .iload 4, 11, 0), (11, .ifCond .ge 8, 14, 19), (14, .iload 4, 16, 0), (16, .goto 10, 19, 26), (19, .aload_n 0, 20, 0), (20, .iload_n 1, 21, 0), (21, .iload_n 2, 22, 0), (22, .iload_n 3, 23, 0), (23, .invokevirtual 323, 26, 0), (26, .ireturn, 27, 0)]
def mX8_at : av_mi := (yX8_at, cX8_at, 5, (some .int), tX8_at)
theorem oX8_at : av_OK mX8_at := by unfold av_OK; decide +kernel
def tX8_count : av_T := [(0, .iload_n 1, 1, 0), (1, .tableswitch 63 0 4 #[35, 40, 45, 53, 58], 36, 0), (36, .aload_n 0, 37, 0), (37, .getfield 101, 40, 0), (40, .ireturn, 41, 0), (41, .aload_n 0, 42, 0), (42, .getfield 216, 45, 0), (45, .ireturn, 46, 0), (46, .aload_n 0, 47, 0), (47, .invokevirtual 255, 50, 0), (50, .invokestatic 305, 53, 0), (53, .ireturn, 54, 0), (54, .aload_n 0, 55, 0), (55, .getfield 53, 58, 0), (58, .ireturn, 59, 0), (59, .aload_n 0, 60, 0), (60, .getfield 57, 63, 0), (63, .ireturn, 64, 0), (64, .ldc 100, 66, 0), (66, .ireturn, 67, 0)]
def mX8_count : av_mi := (yX8_count, cX8_count, 2, (some .int), tX8_count)
theorem oX8_count : av_OK mX8_count := by unfold av_OK; decide +kernel
def tJ6_bitCount_0f7a4 : av_T := [(0, .iload_n 0, 1, 0), (1, .iload_n 0, 2, 0), (2, .iconst 1, 3, 0), (3, .iushr, 4, 0), (4, .ldc_w 265, 7, 0), (7, .iand, 8, 0), (8, .isub, 9, 0), (9, .istore_n 0, 10, 0), (10, .iload_n 0, 11, 0), (11, .ldc_w 266, 14, 0), (14, .iand, 15, 0), (15, .iload_n 0, 16, 0), (16, .iconst 2, 17, 0), (17, .iushr, 18, 0), (18, .ldc_w 266, 21, 0), (21, .iand, 22, 0), (22, .iadd, 23, 0), (23, .istore_n 0, 24, 0), (24, .iload_n 0, 25, 0), (25, .iload_n 0, 26, 0), (26, .iconst 4, 27, 0), (27, .iushr, 28, 0), (28, .iadd, 29, 0), (29, .ldc_w 267, 32, 0), (32, .iand, 33, 0), (33, .istore_n 0, 34, 0), (34, .iload_n 0, 35, 0), (35, .iload_n 0, 36, 0), (36, .bipush 8, 38, 0), (38, .iushr, 39, 0), (39, .iadd, 40, 0), (40, .istore_n 0, 41, 0), (41, .iload_n 0, 42, 0), (42, .iload_n 0, 43, 0), (43, .bipush 16, 45, 0), (45, .iushr, 46, 0), (46, .iadd, 47, 0), (47, .istore_n 0, 48, 0), (48, .iload_n 0, 49, 0), (49, .bipush 63, 51, 0), (51, .iand, 52, 0), (52, .ireturn, 53, 0)]
def mJ6_bitCount_0f7a4 : av_mi := (yJ6_bitCount_0f7a4, cJ6_bitCount_0f7a4, 1, (some .int), tJ6_bitCount_0f7a4)
theorem oJ6_bitCount_0f7a4 : av_OK mJ6_bitCount_0f7a4 := by unfold av_OK; decide +kernel
def tJ13_compare_74951 : av_T := [(0, .lload_n 0, 1, 0), (1, .lload_n 2, 2, 0), (2, .lcmp, 3, 0), (3, .ifCond .ge 7, 6, 10), (6, .iconst (-1), 7, 0), (7, .goto 14, 10, 21), (10, .lload_n 0, 11, 0), (11, .lload_n 2, 12, 0), (12, .lcmp, 13, 0), (13, .ifCond .ne 7, 16, 20), (16, .iconst 0, 17, 0), (17, .goto 4, 20, 21), (20, .iconst 1, 21, 0), (21, .ireturn, 22, 0)]
def mJ13_compare_74951 : av_mi := (yJ13_compare_74951, cJ13_compare_74951, 4, (some .int), tJ13_compare_74951)
theorem oJ13_compare_74951 : av_OK mJ13_compare_74951 := by unfold av_OK; decide +kernel
def tJ9_abs_067f4 : av_T := [(0, .lload_n 0, 1, 0), (1, .lconst 0, 2, 0), (2, .lcmp, 3, 0), (3, .ifCond .ge 8, 6, 11), (6, .lload_n 0, 7, 0), (7, .lneg, 8, 0), (8, .goto 4, 11, 12), (11, .lload_n 0, 12, 0), (12, .lreturn, 13, 0)]
def mJ9_abs_067f4 : av_mi := (yJ9_abs_067f4, cJ9_abs_067f4, 2, (some .long), tJ9_abs_067f4)
theorem oJ9_abs_067f4 : av_OK mJ9_abs_067f4 := by unfold av_OK; decide +kernel
def tJ9_max_7cf53 : av_T := [(0, .iload_n 0, 1, 0), (1, .iload_n 1, 2, 0), (2, .if_icmp .lt 7, 5, 9), (5, .iload_n 0, 6, 0), (6, .goto 4, 9, 10), (9, .iload_n 1, 10, 0), (10, .ireturn, 11, 0)]
def mJ9_max_7cf53 : av_mi := (yJ9_max_7cf53, cJ9_max_7cf53, 2, (some .int), tJ9_max_7cf53)
theorem oJ9_max_7cf53 : av_OK mJ9_max_7cf53 := by unfold av_OK; decide +kernel
def tJ9_min_7cf53 : av_T := [(0, .iload_n 0, 1, 0), (1, .iload_n 1, 2, 0), (2, .if_icmp .gt 7, 5, 9), (5, .iload_n 0, 6, 0), (6, .goto 4, 9, 10), (9, .iload_n 1, 10, 0), (10, .ireturn, 11, 0)]
def mJ9_min_7cf53 : av_mi := (yJ9_min_7cf53, cJ9_min_7cf53, 2, (some .int), tJ9_min_7cf53)
theorem oJ9_min_7cf53 : av_OK mJ9_min_7cf53 := by unfold av_OK; decide +kernel
end
section
/-! the words that calls and fields need, by name -/
def av_fl (own : String) (idx ci f : Nat) : Prop := ∃ (C : String) (T : u_T) (N : Nat), vwCl[ci]? = some (C, T, N) ∧ f < N ∧ (∀ w ∈ u_ws C T N, w ∈ av_WT) ∧ (Cond.fieldLink own idx (T f).1 (T f).2.1 (T f).2.2.1 ∈ av_WT ∨ ∃ host : String, Cond.fieldLinkNest own idx (T f).1 (T f).2.1 (T f).2.2.1 host ∈ av_NW)
def av_fp (own : String) (idx ci f : Nat) (ty : FieldType) : Prop := ∃ (C : String) (T : u_T) (N : Nat) (ty0 : Nat → FieldType), vwCl[ci]? = some (C, T, N) ∧ f < N ∧ (∀ w ∈ u_ws C T N, w ∈ av_WT) ∧ Cond.fieldLink own idx (T f).1 (T f).2.1 (T f).2.2.1 ∈ av_WT ∧ (∀ k, k < N → parseFieldDescriptor (T k).2.2.1 = some (ty0 k)) ∧ (∀ a, a < N → ∀ b, b < N → a ≠ b → (T a).2.1 ≠ (T b).2.1) ∧ (T f).2.2.2 = false ∧ parseFieldDescriptor (T f).2.2.1 = some ty
def av_cv (own : String) (idx : Nat) (mi : av_mi) (ci n : Nat) : Prop := Cond.methodLink own idx mi.1 ∈ av_WT ∧ Cond.instanceMethod mi.1 ∈ av_WT ∧ Cond.selects mi.1.cls mi.1 mi.1 ∈ av_WT ∧ (∃ q : vw_C, vwCl[ci]? = some q ∧ q.1 = mi.1.cls) ∧ (parseMethodDescriptor mi.1.desc).map (fun d => d.parameters.length) = some n
def av_cs0 (own : String) (idx : Nat) (mi : av_mi) (n : Nat) : Prop := (Cond.methodLink own idx mi.1 ∈ av_WT ∨ ∃ host : String, Cond.methodLinkNest own idx mi.1 host ∈ av_NW) ∧ Cond.static mi.1 ∈ av_WT ∧ (parseMethodDescriptor mi.1.desc).map (fun d => d.parameters.length) = some n
theorem av_init : Cond.initialized "GreaterBodiesLaw" ∈ av_WT ∧ Cond.initialized "GreaterBodies" ∈ av_WT ∧ Cond.initialized "GreaterBodies$Figure" ∈ av_WT ∧ Cond.initialized "GreaterBodies$Outline" ∈ av_WT ∧ Cond.initialized "GreaterBodies$Tables" ∈ av_WT ∧ Cond.initialized "GreaterBodies$Body" ∈ av_WT ∧ Cond.initialized "GreaterBodies$Walls" ∈ av_WT ∧ Cond.initialized "GreaterBodies$Meets" ∈ av_WT ∧ Cond.initialized "GreaterBodies$Choice" ∈ av_WT ∧ Cond.initialized "GreaterBodiesModel" ∈ av_WT ∧ Cond.initialized "java/lang/Long" ∈ av_WT ∧ Cond.initialized "java/lang/Math" ∈ av_WT ∧ Cond.initialized "java/lang/Integer" ∈ av_WT := by
  refine ⟨?_, ?_, ?_, ?_, ?_, ?_, ?_, ?_, ?_, ?_, ?_, ?_, ?_⟩ <;> exact av_in (by decide +kernel) rfl
set_option maxRecDepth 100000 in
theorem hX0_walls : av_me mX0_walls := ⟨av_in (w := Cond.code yX0_walls prog_2_method_2_code 1 (some (.object "GreaterBodies$Walls"))) (List.mem_append_right _ (List.mem_append_right _ (List.mem_append_left _ (List.mem_of_getElem? (i := 189) rfl)))) rfl, av_init.2.2.2.2.2.1, by decide +kernel, by decide +kernel⟩
set_option maxRecDepth 100000 in
theorem hX0_meets : av_me mX0_meets := ⟨av_in (w := Cond.code yX0_meets prog_2_method_3_code 1 (some (.object "GreaterBodies$Meets"))) (List.mem_append_right _ (List.mem_append_right _ (List.mem_append_left _ (List.mem_of_getElem? (i := 185) rfl)))) rfl, av_init.2.2.2.2.2.1, by decide +kernel, by decide +kernel⟩
set_option maxRecDepth 100000 in
theorem hX0_outline : av_me mX0_outline := ⟨av_in (w := Cond.code yX0_outline prog_2_method_4_code 1 (some (.object "GreaterBodies$Outline"))) (List.mem_append_right _ (List.mem_append_right _ (List.mem_append_right _ (List.mem_append_left _ (List.mem_of_getElem? (i := 239) rfl))))) rfl, av_init.2.2.2.2.2.1, by decide +kernel, by decide +kernel⟩
set_option maxRecDepth 100000 in
theorem hX0_size : av_me mX0_size := ⟨av_in (w := Cond.code yX0_size prog_2_method_5_code 1 (some .int)) (List.mem_append_right _ (List.mem_append_right _ (List.mem_append_right _ (List.mem_append_left _ (List.mem_of_getElem? (i := 171) rfl))))) rfl, av_init.2.2.2.2.2.1, by decide +kernel, by decide +kernel⟩
set_option maxRecDepth 100000 in
theorem hX0_isSound : av_me mX0_isSound := ⟨av_in (w := Cond.code yX0_isSound prog_2_method_6_code 1 (some .boolean)) (List.mem_append_right _ (List.mem_append_right _ (List.mem_append_right _ (List.mem_append_left _ (List.mem_of_getElem? (i := 163) rfl))))) rfl, av_init.2.2.2.2.2.1, by decide +kernel, by decide +kernel⟩
set_option maxRecDepth 100000 in
theorem hX0_has : av_me mX0_has := ⟨av_in (w := Cond.code yX0_has prog_2_method_7_code 2 (some .boolean)) (List.mem_append_right _ (List.mem_append_right _ (List.mem_append_right _ (List.mem_append_left _ (List.mem_of_getElem? (i := 179) rfl))))) rfl, av_init.2.2.2.2.2.1, by decide +kernel, by decide +kernel⟩
set_option maxRecDepth 100000 in
theorem hX0_build : av_me mX0_build := ⟨av_in (w := Cond.code yX0_build prog_2_method_8_code 6 (some .int)) (List.mem_append_right _ (List.mem_append_right _ (List.mem_append_right _ (List.mem_append_left _ (List.mem_of_getElem? (i := 60) rfl))))) rfl, av_init.2.2.2.2.2.1, by decide +kernel, by decide +kernel⟩
set_option maxRecDepth 100000 in
theorem hX0_push : av_me mX0_push := ⟨av_in (w := Cond.code yX0_push prog_2_method_9_code 4 (some .int)) (List.mem_append_right _ (List.mem_append_right _ (List.mem_append_right _ (List.mem_append_left _ (List.mem_of_getElem? (i := 134) rfl))))) rfl, av_init.2.2.2.2.2.1, by decide +kernel, by decide +kernel⟩
set_option maxRecDepth 100000 in
theorem hX0_turn : av_me mX0_turn := ⟨av_in (w := Cond.code yX0_turn prog_2_method_10_code 4 (some .int)) (List.mem_append_right _ (List.mem_append_right _ (List.mem_append_right _ (List.mem_append_left _ (List.mem_of_getElem? (i := 146) rfl))))) rfl, av_init.2.2.2.2.2.1, by decide +kernel, by decide +kernel⟩
set_option maxRecDepth 100000 in
theorem hX0_carve : av_me mX0_carve := ⟨av_in (w := Cond.code yX0_carve prog_2_method_11_code 3 none) (List.mem_append_right _ (List.mem_append_right _ (List.mem_append_right _ (List.mem_append_left _ (List.mem_of_getElem? (i := 103) rfl))))) rfl, av_init.2.2.2.2.2.1, by decide +kernel, by decide +kernel⟩
set_option maxRecDepth 100000 in
theorem hX0_addVertex : av_me mX0_addVertex := ⟨av_in (w := Cond.code yX0_addVertex prog_2_method_12_code 4 none) (List.mem_append_right _ (List.mem_append_right _ (List.mem_append_right _ (List.mem_append_left _ (List.mem_of_getElem? (i := 110) rfl))))) rfl, av_init.2.2.2.2.2.1, by decide +kernel, by decide +kernel⟩
set_option maxRecDepth 100000 in
theorem hX0_coordinate : av_me mX0_coordinate := ⟨av_in (w := Cond.code yX0_coordinate prog_2_method_13_code 6 (some .long)) (List.mem_append_right _ (List.mem_append_right _ (List.mem_append_right _ (List.mem_append_left _ (List.mem_of_getElem? (i := 184) rfl))))) rfl, av_init.2.2.2.2.2.1, by decide +kernel, by decide +kernel⟩
set_option maxRecDepth 100000 in
theorem hX0_tightAt : av_me mX0_tightAt := ⟨av_in (w := Cond.code yX0_tightAt prog_2_method_14_code 2 (some .int)) (List.mem_append_right _ (List.mem_append_right _ (List.mem_append_right _ (List.mem_append_left _ (List.mem_of_getElem? (i := 201) rfl))))) rfl, av_init.2.2.2.2.2.1, by decide +kernel, by decide +kernel⟩
set_option maxRecDepth 100000 in
theorem hX0_rimCount : av_me mX0_rimCount := ⟨av_in (w := Cond.code yX0_rimCount prog_2_method_15_code 4 (some .int)) (List.mem_append_right _ (List.mem_append_right _ (List.mem_append_right _ (List.mem_append_left _ (List.mem_of_getElem? (i := 213) rfl))))) rfl, av_init.2.2.2.2.2.1, by decide +kernel, by decide +kernel⟩
set_option maxRecDepth 100000 in
theorem hX0_isRim : av_me mX0_isRim := ⟨av_in (w := Cond.code yX0_isRim prog_2_method_16_code 5 (some .boolean)) (List.mem_append_right _ (List.mem_append_right _ (List.mem_append_right _ (List.mem_append_left _ (List.mem_of_getElem? (i := 217) rfl))))) rfl, av_init.2.2.2.2.2.1, by decide +kernel, by decide +kernel⟩
set_option maxRecDepth 100000 in
theorem hX0_isIdle : av_me mX0_isIdle := ⟨av_in (w := Cond.code yX0_isIdle prog_2_method_17_code 4 (some .boolean)) (List.mem_append_right _ (List.mem_append_right _ (List.mem_append_right _ (List.mem_append_left _ (List.mem_of_getElem? (i := 226) rfl))))) rfl, av_init.2.2.2.2.2.1, by decide +kernel, by decide +kernel⟩
set_option maxRecDepth 100000 in
theorem hX0_firstBest : av_me mX0_firstBest := ⟨av_in (w := Cond.code yX0_firstBest prog_2_method_18_code 10 (some .int)) (List.mem_append_right _ (List.mem_append_right _ (List.mem_append_right _ (List.mem_append_right _ (List.mem_append_left _ (List.mem_of_getElem? (i := 75) rfl)))))) rfl, av_init.2.2.2.2.2.1, by decide +kernel, by decide +kernel⟩
set_option maxRecDepth 100000 in
theorem hX0_valueAt : av_me mX0_valueAt := ⟨av_in (w := Cond.code yX0_valueAt prog_2_method_19_code 6 (some .long)) (List.mem_append_right _ (List.mem_append_right _ (List.mem_append_right _ (List.mem_append_right _ (List.mem_append_left _ (List.mem_of_getElem? (i := 83) rfl)))))) rfl, av_init.2.2.2.2.2.1, by decide +kernel, by decide +kernel⟩
set_option maxRecDepth 100000 in
theorem hX0_over : av_me mX0_over := ⟨av_in (w := Cond.code yX0_over prog_2_method_20_code 6 (some .int)) (List.mem_append_right _ (List.mem_append_right _ (List.mem_append_right _ (List.mem_append_right _ (List.mem_append_left _ (List.mem_of_getElem? (i := 79) rfl)))))) rfl, av_init.2.2.2.2.2.1, by decide +kernel, by decide +kernel⟩
set_option maxRecDepth 100000 in
theorem hX1_forget : av_me mX1_forget := ⟨av_in (w := Cond.code yX1_forget prog_3_method_2_code 1 none) (List.mem_append_right _ (List.mem_append_left _ (List.mem_of_getElem? (i := 227) rfl))) rfl, av_init.2.2.2.2.2.2.2.2.1, by decide +kernel, by decide +kernel⟩
set_option maxRecDepth 100000 in
theorem hX1_walls : av_me mX1_walls := ⟨av_in (w := Cond.code yX1_walls prog_3_method_3_code 3 (some .int)) (List.mem_append_right _ (List.mem_append_right _ (List.mem_append_left _ (List.mem_of_getElem? (i := 179) rfl)))) rfl, av_init.2.2.2.2.2.2.2.2.1, by decide +kernel, by decide +kernel⟩
set_option maxRecDepth 100000 in
theorem hX1_search : av_me mX1_search := ⟨av_in (w := Cond.code yX1_search prog_3_method_4_code 8 (some .int)) (List.mem_append_right _ (List.mem_append_right _ (List.mem_append_left _ (List.mem_of_getElem? (i := 197) rfl)))) rfl, av_init.2.2.2.2.2.2.2.2.1, by decide +kernel, by decide +kernel⟩
set_option maxRecDepth 100000 in
theorem hX1_mirror : av_me mX1_mirror := ⟨av_in (w := Cond.code yX1_mirror prog_3_method_5_code 3 (some .int)) (List.mem_append_right _ (List.mem_append_right _ (List.mem_append_right _ (List.mem_append_left _ (List.mem_of_getElem? (i := 3) rfl))))) rfl, av_init.2.2.2.2.2.2.2.2.1, by decide +kernel, by decide +kernel⟩
set_option maxRecDepth 100000 in
theorem hX1_castAll : av_me mX1_castAll := ⟨av_in (w := Cond.code yX1_castAll prog_3_method_6_code 6 (some .int)) (List.mem_append_right _ (List.mem_append_right _ (List.mem_append_left _ (List.mem_of_getElem? (i := 202) rfl)))) rfl, av_init.2.2.2.2.2.2.2.2.1, by decide +kernel, by decide +kernel⟩
set_option maxRecDepth 100000 in
theorem hX1_cast : av_me mX1_cast := ⟨av_in (w := Cond.code yX1_cast prog_3_method_7_code 5 (some .int)) (List.mem_append_right _ (List.mem_append_right _ (List.mem_append_left _ (List.mem_of_getElem? (i := 221) rfl)))) rfl, av_init.2.2.2.2.2.2.2.2.1, by decide +kernel, by decide +kernel⟩
set_option maxRecDepth 100000 in
theorem hX1_shows : av_me mX1_shows := ⟨av_in (w := Cond.code yX1_shows prog_3_method_8_code 6 (some .boolean)) (List.mem_append_right _ (List.mem_append_right _ (List.mem_append_right _ (List.mem_append_left _ (List.mem_of_getElem? (i := 7) rfl))))) rfl, av_init.2.2.2.2.2.2.2.2.1, by decide +kernel, by decide +kernel⟩
set_option maxRecDepth 100000 in
theorem hX2_size : av_me mX2_size := ⟨av_in (w := Cond.code yX2_size prog_4_method_2_code 1 (some .int)) (List.mem_append_right _ (List.mem_append_left _ (List.mem_of_getElem? (i := 222) rfl))) rfl, av_init.2.2.1, by decide +kernel, by decide +kernel⟩
set_option maxRecDepth 100000 in
theorem hX2_hull : av_me mX2_hull := ⟨av_in (w := Cond.code yX2_hull prog_4_method_3_code 1 (some (.object "GreaterBodies$Outline"))) (List.mem_append_right _ (List.mem_append_right _ (List.mem_append_left _ (List.mem_of_getElem? (i := 48) rfl)))) rfl, av_init.2.2.1, by decide +kernel, by decide +kernel⟩
set_option maxRecDepth 100000 in
theorem hX2_isFlat : av_me mX2_isFlat := ⟨av_in (w := Cond.code yX2_isFlat prog_4_method_4_code 1 (some .boolean)) (List.mem_append_right _ (List.mem_append_right _ (List.mem_append_left _ (List.mem_of_getElem? (i := 76) rfl)))) rfl, av_init.2.2.1, by decide +kernel, by decide +kernel⟩
set_option maxRecDepth 100000 in
theorem hX2_add : av_me mX2_add := ⟨av_in (w := Cond.code yX2_add prog_4_method_5_code 4 (some .int)) (List.mem_append_right _ (List.mem_append_left _ (List.mem_of_getElem? (i := 231) rfl))) rfl, av_init.2.2.1, by decide +kernel, by decide +kernel⟩
set_option maxRecDepth 100000 in
theorem hX2_put : av_me mX2_put := ⟨av_in (w := Cond.code yX2_put prog_4_method_6_code 4 none) (List.mem_append_right _ (List.mem_append_left _ (List.mem_of_getElem? (i := 235) rfl))) rfl, av_init.2.2.1, by decide +kernel, by decide +kernel⟩
set_option maxRecDepth 100000 in
theorem hX2_drop : av_me mX2_drop := ⟨av_in (w := Cond.code yX2_drop prog_4_method_7_code 2 (some .int)) (List.mem_append_right _ (List.mem_append_right _ (List.mem_append_left _ (List.mem_of_getElem? (i := 40) rfl)))) rfl, av_init.2.2.1, by decide +kernel, by decide +kernel⟩
set_option maxRecDepth 100000 in
theorem hX2_draw : av_me mX2_draw := ⟨av_in (w := Cond.code yX2_draw prog_4_method_8_code 2 none) (List.mem_append_right _ (List.mem_append_left _ (List.mem_of_getElem? (i := 239) rfl))) rfl, av_init.2.2.1, by decide +kernel, by decide +kernel⟩
set_option maxRecDepth 100000 in
theorem hX2_wallPart : av_me mX2_wallPart := ⟨av_in (w := Cond.code yX2_wallPart prog_4_method_9_code 9 (some .int)) (List.mem_append_right _ (List.mem_append_right _ (List.mem_append_left _ (List.mem_of_getElem? (i := 82) rfl)))) rfl, av_init.2.2.1, by decide +kernel, by decide +kernel⟩
set_option maxRecDepth 100000 in
theorem hX2_gap : av_me mX2_gap := ⟨av_in (w := Cond.code yX2_gap prog_4_method_10_code 3 (some .int)) (List.mem_append_right _ (List.mem_append_right _ (List.mem_append_left _ (List.mem_of_getElem? (i := 102) rfl)))) rfl, av_init.2.2.1, by decide +kernel, by decide +kernel⟩
set_option maxRecDepth 100000 in
theorem hX2_openPairs : av_me mX2_openPairs := ⟨av_in (w := Cond.code yX2_openPairs prog_4_method_11_code 4 (some .int)) (List.mem_append_right _ (List.mem_append_right _ (List.mem_append_left _ (List.mem_of_getElem? (i := 119) rfl)))) rfl, av_init.2.2.1, by decide +kernel, by decide +kernel⟩
set_option maxRecDepth 100000 in
theorem hX2_twiceArea : av_me mX2_twiceArea := ⟨av_in (w := Cond.code yX2_twiceArea prog_4_method_12_code 4 (some .int)) (List.mem_append_right _ (List.mem_append_right _ (List.mem_append_left _ (List.mem_of_getElem? (i := 111) rfl)))) rfl, av_init.2.2.1, by decide +kernel, by decide +kernel⟩
set_option maxRecDepth 100000 in
theorem hX2_greatest : av_me mX2_greatest := ⟨av_in (w := Cond.code yX2_greatest prog_4_method_13_code 5 (some .int)) (List.mem_append_right _ (List.mem_append_right _ (List.mem_append_right _ (List.mem_append_right _ (List.mem_append_left _ (List.mem_of_getElem? (i := 62) rfl)))))) rfl, av_init.2.2.1, by decide +kernel, by decide +kernel⟩
set_option maxRecDepth 100000 in
theorem hX3_find : av_me mX3_find := ⟨av_in (w := Cond.code yX3_find prog_5_method_2_code 5 none) (List.mem_append_right _ (List.mem_append_right _ (List.mem_append_right _ (List.mem_append_left _ (List.mem_of_getElem? (i := 76) rfl))))) rfl, av_init.2.2.2.2.2.2.2.1, by decide +kernel, by decide +kernel⟩
set_option maxRecDepth 100000 in
theorem hX3_addMeet : av_me mX3_addMeet := ⟨av_in (w := Cond.code yX3_addMeet prog_5_method_3_code 7 none) (List.mem_append_right _ (List.mem_append_right _ (List.mem_append_right _ (List.mem_append_left _ (List.mem_of_getElem? (i := 92) rfl))))) rfl, av_init.2.2.2.2.2.2.2.1, by decide +kernel, by decide +kernel⟩
set_option maxRecDepth 100000 in
theorem hX3_volume : av_me mX3_volume := ⟨av_in (w := Cond.code yX3_volume prog_5_method_4_code 6 (some .int)) (List.mem_append_right _ (List.mem_append_right _ (List.mem_append_right _ (List.mem_append_left _ (List.mem_of_getElem? (i := 95) rfl))))) rfl, av_init.2.2.2.2.2.2.2.1, by decide +kernel, by decide +kernel⟩
set_option maxRecDepth 100000 in
theorem hX3_mark : av_me mX3_mark := ⟨av_in (w := Cond.code yX3_mark prog_5_method_5_code 4 none) (List.mem_append_right _ (List.mem_append_right _ (List.mem_append_right _ (List.mem_append_left _ (List.mem_of_getElem? (i := 99) rfl))))) rfl, av_init.2.2.2.2.2.2.2.1, by decide +kernel, by decide +kernel⟩
set_option maxRecDepth 100000 in
theorem hX3_addRays : av_me mX3_addRays := ⟨av_in (w := Cond.code yX3_addRays prog_5_method_6_code 7 none) (List.mem_append_right _ (List.mem_append_right _ (List.mem_append_right _ (List.mem_append_left _ (List.mem_of_getElem? (i := 80) rfl))))) rfl, av_init.2.2.2.2.2.2.2.1, by decide +kernel, by decide +kernel⟩
set_option maxRecDepth 100000 in
theorem hX3_addRay : av_me mX3_addRay := ⟨av_in (w := Cond.code yX3_addRay prog_5_method_7_code 7 none) (List.mem_append_right _ (List.mem_append_right _ (List.mem_append_right _ (List.mem_append_left _ (List.mem_of_getElem? (i := 84) rfl))))) rfl, av_init.2.2.2.2.2.2.2.1, by decide +kernel, by decide +kernel⟩
set_option maxRecDepth 100000 in
theorem hX3_size : av_me mX3_size := ⟨av_in (w := Cond.code yX3_size prog_5_method_8_code 1 (some .int)) (List.mem_append_right _ (List.mem_append_right _ (List.mem_append_left _ (List.mem_of_getElem? (i := 206) rfl)))) rfl, av_init.2.2.2.2.2.2.2.1, by decide +kernel, by decide +kernel⟩
set_option maxRecDepth 100000 in
theorem hX3_xOf : av_me mX3_xOf := ⟨av_in (w := Cond.code yX3_xOf prog_5_method_9_code 2 (some .int)) (List.mem_append_right _ (List.mem_append_right _ (List.mem_append_left _ (List.mem_of_getElem? (i := 210) rfl)))) rfl, av_init.2.2.2.2.2.2.2.1, by decide +kernel, by decide +kernel⟩
set_option maxRecDepth 100000 in
theorem hX3_yOf : av_me mX3_yOf := ⟨av_in (w := Cond.code yX3_yOf prog_5_method_10_code 2 (some .int)) (List.mem_append_right _ (List.mem_append_right _ (List.mem_append_left _ (List.mem_of_getElem? (i := 214) rfl)))) rfl, av_init.2.2.2.2.2.2.2.1, by decide +kernel, by decide +kernel⟩
set_option maxRecDepth 100000 in
theorem hX3_zOf : av_me mX3_zOf := ⟨av_in (w := Cond.code yX3_zOf prog_5_method_11_code 2 (some .int)) (List.mem_append_right _ (List.mem_append_right _ (List.mem_append_right _ (List.mem_append_left _ (List.mem_of_getElem? (i := 188) rfl))))) rfl, av_init.2.2.2.2.2.2.2.1, by decide +kernel, by decide +kernel⟩
set_option maxRecDepth 100000 in
theorem hX3_wOf : av_me mX3_wOf := ⟨av_in (w := Cond.code yX3_wOf prog_5_method_12_code 2 (some .int)) (List.mem_append_right _ (List.mem_append_right _ (List.mem_append_left _ (List.mem_of_getElem? (i := 218) rfl)))) rfl, av_init.2.2.2.2.2.2.2.1, by decide +kernel, by decide +kernel⟩
set_option maxRecDepth 100000 in
theorem hX3_touchersOf : av_me mX3_touchersOf := ⟨av_in (w := Cond.code yX3_touchersOf prog_5_method_13_code 2 (some .int)) (List.mem_append_right _ (List.mem_append_right _ (List.mem_append_right _ (List.mem_append_left _ (List.mem_of_getElem? (i := 205) rfl))))) rfl, av_init.2.2.2.2.2.2.2.1, by decide +kernel, by decide +kernel⟩
set_option maxRecDepth 100000 in
theorem hX3_isBroken : av_me mX3_isBroken := ⟨av_in (w := Cond.code yX3_isBroken prog_5_method_14_code 3 (some .boolean)) (List.mem_append_right _ (List.mem_append_right _ (List.mem_append_right _ (List.mem_append_left _ (List.mem_of_getElem? (i := 231) rfl))))) rfl, av_init.2.2.2.2.2.2.2.1, by decide +kernel, by decide +kernel⟩
set_option maxRecDepth 100000 in
theorem hX3_isMadeBy : av_me mX3_isMadeBy := ⟨av_in (w := Cond.code yX3_isMadeBy prog_5_method_15_code 3 (some .boolean)) (List.mem_append_right _ (List.mem_append_right _ (List.mem_append_left _ (List.mem_of_getElem? (i := 234) rfl)))) rfl, av_init.2.2.2.2.2.2.2.1, by decide +kernel, by decide +kernel⟩
set_option maxRecDepth 100000 in
theorem hX3_isVertex : av_me mX3_isVertex := ⟨av_in (w := Cond.code yX3_isVertex prog_5_method_16_code 3 (some .boolean)) (List.mem_append_right _ (List.mem_append_right _ (List.mem_append_right _ (List.mem_append_left _ (List.mem_of_getElem? (i := 11) rfl))))) rfl, av_init.2.2.2.2.2.2.2.1, by decide +kernel, by decide +kernel⟩
set_option maxRecDepth 100000 in
theorem hX3_isEndless : av_me mX3_isEndless := ⟨av_in (w := Cond.code yX3_isEndless prog_5_method_17_code 3 (some .boolean)) (List.mem_append_right _ (List.mem_append_right _ (List.mem_append_right _ (List.mem_append_left _ (List.mem_of_getElem? (i := 16) rfl))))) rfl, av_init.2.2.2.2.2.2.2.1, by decide +kernel, by decide +kernel⟩
set_option maxRecDepth 100000 in
theorem hX3_order : av_me mX3_order := ⟨av_in (w := Cond.code yX3_order prog_5_method_18_code 5 (some .int)) (List.mem_append_right _ (List.mem_append_right _ (List.mem_append_right _ (List.mem_append_left _ (List.mem_of_getElem? (i := 114) rfl))))) rfl, av_init.2.2.2.2.2.2.2.1, by decide +kernel, by decide +kernel⟩
set_option maxRecDepth 100000 in
theorem hX4_empty : av_me mX4_empty := ⟨av_in (w := Cond.code yX4_empty prog_6_method_2_code 1 none) (List.mem_append_right _ (List.mem_append_right _ (List.mem_append_left _ (List.mem_of_getElem? (i := 3) rfl)))) rfl, av_init.2.2.2.1, by decide +kernel, by decide +kernel⟩
set_option maxRecDepth 100000 in
theorem hX4_add : av_me mX4_add := ⟨av_in (w := Cond.code yX4_add prog_6_method_3_code 7 none) (List.mem_append_right _ (List.mem_append_right _ (List.mem_append_left _ (List.mem_of_getElem? (i := 7) rfl)))) rfl, av_init.2.2.2.1, by decide +kernel, by decide +kernel⟩
set_option maxRecDepth 100000 in
theorem hX4_side : av_me mX4_side := ⟨av_in (w := Cond.code yX4_side prog_6_method_4_code 6 (some .int)) (List.mem_append_right _ (List.mem_append_right _ (List.mem_append_left _ (List.mem_of_getElem? (i := 11) rfl)))) rfl, av_init.2.2.2.1, by decide +kernel, by decide +kernel⟩
set_option maxRecDepth 100000 in
theorem hX4_turn : av_me mX4_turn := ⟨av_in (w := Cond.code yX4_turn prog_6_method_5_code 12 (some .long)) (List.mem_append_right _ (List.mem_append_right _ (List.mem_append_left _ (List.mem_of_getElem? (i := 26) rfl)))) rfl, av_init.2.2.2.1, by decide +kernel, by decide +kernel⟩
set_option maxRecDepth 100000 in
theorem hX4_wrap : av_me mX4_wrap := ⟨av_in (w := Cond.code yX4_wrap prog_6_method_6_code 3 none) (List.mem_append_right _ (List.mem_append_right _ (List.mem_append_left _ (List.mem_of_getElem? (i := 18) rfl)))) rfl, av_init.2.2.2.1, by decide +kernel, by decide +kernel⟩
set_option maxRecDepth 100000 in
theorem hX4_extend : av_me mX4_extend := ⟨av_in (w := Cond.code yX4_extend prog_6_method_7_code 3 none) (List.mem_append_right _ (List.mem_append_right _ (List.mem_append_left _ (List.mem_of_getElem? (i := 22) rfl)))) rfl, av_init.2.2.2.1, by decide +kernel, by decide +kernel⟩
set_option maxRecDepth 100000 in
theorem hX4_size : av_me mX4_size := ⟨av_in (w := Cond.code yX4_size prog_6_method_8_code 1 (some .int)) (List.mem_append_right _ (List.mem_append_right _ (List.mem_append_left _ (List.mem_of_getElem? (i := 52) rfl)))) rfl, av_init.2.2.2.1, by decide +kernel, by decide +kernel⟩
set_option maxRecDepth 100000 in
theorem hX4_has : av_me mX4_has := ⟨av_in (w := Cond.code yX4_has prog_6_method_9_code 2 (some .boolean)) (List.mem_append_right _ (List.mem_append_right _ (List.mem_append_left _ (List.mem_of_getElem? (i := 60) rfl)))) rfl, av_init.2.2.2.1, by decide +kernel, by decide +kernel⟩
set_option maxRecDepth 100000 in
theorem hX4_next : av_me mX4_next := ⟨av_in (w := Cond.code yX4_next prog_6_method_10_code 2 (some .int)) (List.mem_append_right _ (List.mem_append_right _ (List.mem_append_left _ (List.mem_of_getElem? (i := 86) rfl)))) rfl, av_init.2.2.2.1, by decide +kernel, by decide +kernel⟩
set_option maxRecDepth 100000 in
theorem hX4_xOf : av_me mX4_xOf := ⟨av_in (w := Cond.code yX4_xOf prog_6_method_11_code 2 (some .int)) (List.mem_append_right _ (List.mem_append_right _ (List.mem_append_left _ (List.mem_of_getElem? (i := 68) rfl)))) rfl, av_init.2.2.2.1, by decide +kernel, by decide +kernel⟩
set_option maxRecDepth 100000 in
theorem hX4_yOf : av_me mX4_yOf := ⟨av_in (w := Cond.code yX4_yOf prog_6_method_12_code 2 (some .int)) (List.mem_append_right _ (List.mem_append_right _ (List.mem_append_left _ (List.mem_of_getElem? (i := 64) rfl)))) rfl, av_init.2.2.2.1, by decide +kernel, by decide +kernel⟩
set_option maxRecDepth 100000 in
theorem hX4_wOf : av_me mX4_wOf := ⟨av_in (w := Cond.code yX4_wOf prog_6_method_13_code 2 (some .int)) (List.mem_append_right _ (List.mem_append_right _ (List.mem_append_right _ (List.mem_append_right _ (List.mem_append_left _ (List.mem_of_getElem? (i := 8) rfl)))))) rfl, av_init.2.2.2.1, by decide +kernel, by decide +kernel⟩
set_option maxRecDepth 100000 in
theorem hX4_cornerAt : av_me mX4_cornerAt := ⟨av_in (w := Cond.code yX4_cornerAt prog_6_method_14_code 5 (some .int)) (List.mem_append_right _ (List.mem_append_right _ (List.mem_append_left _ (List.mem_of_getElem? (i := 230) rfl)))) rfl, av_init.2.2.2.1, by decide +kernel, by decide +kernel⟩
set_option maxRecDepth 100000 in
theorem hX4_holds : av_me mX4_holds := ⟨av_in (w := Cond.code yX4_holds prog_6_method_15_code 5 (some .boolean)) (List.mem_append_right _ (List.mem_append_right _ (List.mem_append_left _ (List.mem_of_getElem? (i := 225) rfl)))) rfl, av_init.2.2.2.1, by decide +kernel, by decide +kernel⟩
set_option maxRecDepth 100000 in
theorem hX4_cornersMissing : av_me mX4_cornersMissing := ⟨av_in (w := Cond.code yX4_cornersMissing prog_6_method_16_code 4 (some .int)) (List.mem_append_right _ (List.mem_append_right _ (List.mem_append_right _ (List.mem_append_right _ (List.mem_append_left _ (List.mem_of_getElem? (i := 17) rfl)))))) rfl, av_init.2.2.2.1, by decide +kernel, by decide +kernel⟩
set_option maxRecDepth 100000 in
theorem hX4_isRoundOrigin : av_me mX4_isRoundOrigin := ⟨av_in (w := Cond.code yX4_isRoundOrigin prog_6_method_17_code 2 (some .boolean)) (List.mem_append_right _ (List.mem_append_right _ (List.mem_append_right _ (List.mem_append_right _ (List.mem_append_left _ (List.mem_of_getElem? (i := 45) rfl)))))) rfl, av_init.2.2.2.1, by decide +kernel, by decide +kernel⟩
set_option maxRecDepth 100000 in
theorem hX4_growth : av_me mX4_growth := ⟨av_in (w := Cond.code yX4_growth prog_6_method_18_code 23 (some .long)) (List.mem_append_right _ (List.mem_append_right _ (List.mem_append_right _ (List.mem_append_right _ (List.mem_append_left _ (List.mem_of_getElem? (i := 49) rfl)))))) rfl, av_init.2.2.2.1, by decide +kernel, by decide +kernel⟩
set_option maxRecDepth 100000 in
theorem hX5_inner : av_me mX5_inner := ⟨av_in (w := Cond.code yX5_inner prog_7_method_2_code 1 (some .int)) (List.mem_append_right _ (List.mem_append_right _ (List.mem_append_left _ (List.mem_of_getElem? (i := 172) rfl)))) rfl, av_init.2.2.2.2.1, by decide +kernel, by decide +kernel⟩
set_option maxRecDepth 100000 in
theorem hX5_scale : av_me mX5_scale := ⟨av_in (w := Cond.code yX5_scale prog_7_method_3_code 1 (some .int)) (List.mem_append_right _ (List.mem_append_right _ (List.mem_append_right _ (List.mem_append_right _ (List.mem_append_left _ (List.mem_of_getElem? (i := 96) rfl)))))) rfl, av_init.2.2.2.2.1, by decide +kernel, by decide +kernel⟩
set_option maxRecDepth 100000 in
theorem hX5_resize : av_me mX5_resize := ⟨av_in (w := Cond.code yX5_resize prog_7_method_4_code 4 (some .int)) (List.mem_append_right _ (List.mem_append_right _ (List.mem_append_right _ (List.mem_append_left _ (List.mem_of_getElem? (i := 25) rfl))))) rfl, av_init.2.2.2.2.1, by decide +kernel, by decide +kernel⟩
set_option maxRecDepth 100000 in
theorem hX5_put : av_me mX5_put := ⟨av_in (w := Cond.code yX5_put prog_7_method_5_code 6 (some .int)) (List.mem_append_right _ (List.mem_append_right _ (List.mem_append_right _ (List.mem_append_left _ (List.mem_of_getElem? (i := 33) rfl))))) rfl, av_init.2.2.2.2.1, by decide +kernel, by decide +kernel⟩
set_option maxRecDepth 100000 in
theorem hX5_firstWrong : av_me mX5_firstWrong := ⟨av_in (w := Cond.code yX5_firstWrong prog_7_method_6_code 5 (some .int)) (List.mem_append_right _ (List.mem_append_right _ (List.mem_append_left _ (List.mem_of_getElem? (i := 159) rfl)))) rfl, av_init.2.2.2.2.1, by decide +kernel, by decide +kernel⟩
set_option maxRecDepth 100000 in
theorem hX5_product : av_me mX5_product := ⟨av_in (w := Cond.code yX5_product prog_7_method_7_code 5 (some .int)) (List.mem_append_right _ (List.mem_append_right _ (List.mem_append_left _ (List.mem_of_getElem? (i := 165) rfl)))) rfl, av_init.2.2.2.2.1, by decide +kernel, by decide +kernel⟩
set_option maxRecDepth 100000 in
theorem hX6_size : av_me mX6_size := ⟨av_in (w := Cond.code yX6_size prog_8_method_2_code 1 (some .int)) (List.mem_append_right _ (List.mem_append_right _ (List.mem_append_right _ (List.mem_append_left _ (List.mem_of_getElem? (i := 56) rfl))))) rfl, av_init.2.2.2.2.2.2.1, by decide +kernel, by decide +kernel⟩
set_option maxRecDepth 100000 in
theorem hX6_onSet : av_me mX6_onSet := ⟨av_in (w := Cond.code yX6_onSet prog_8_method_3_code 1 (some .int)) (List.mem_append_right _ (List.mem_append_right _ (List.mem_append_left _ (List.mem_of_getElem? (i := 193) rfl)))) rfl, av_init.2.2.2.2.2.2.1, by decide +kernel, by decide +kernel⟩
set_option maxRecDepth 100000 in
theorem hX6_has : av_me mX6_has := ⟨av_in (w := Cond.code yX6_has prog_8_method_4_code 2 (some .boolean)) (List.mem_append_right _ (List.mem_append_right _ (List.mem_append_right _ (List.mem_append_left _ (List.mem_of_getElem? (i := 130) rfl))))) rfl, av_init.2.2.2.2.2.2.1, by decide +kernel, by decide +kernel⟩
set_option maxRecDepth 100000 in
theorem hX6_isOn : av_me mX6_isOn := ⟨av_in (w := Cond.code yX6_isOn prog_8_method_5_code 2 (some .boolean)) (List.mem_append_right _ (List.mem_append_right _ (List.mem_append_right _ (List.mem_append_left _ (List.mem_of_getElem? (i := 72) rfl))))) rfl, av_init.2.2.2.2.2.2.1, by decide +kernel, by decide +kernel⟩
set_option maxRecDepth 100000 in
theorem hX6_part : av_me mX6_part := ⟨av_in (w := Cond.code yX6_part prog_8_method_6_code 3 (some .int)) (List.mem_append_right _ (List.mem_append_right _ (List.mem_append_right _ (List.mem_append_left _ (List.mem_of_getElem? (i := 155) rfl))))) rfl, av_init.2.2.2.2.2.2.1, by decide +kernel, by decide +kernel⟩
set_option maxRecDepth 100000 in
theorem hX6_add : av_me mX6_add := ⟨av_in (w := Cond.code yX6_add prog_8_method_7_code 6 (some .int)) (List.mem_append_right _ (List.mem_append_right _ (List.mem_append_right _ (List.mem_append_left _ (List.mem_of_getElem? (i := 64) rfl))))) rfl, av_init.2.2.2.2.2.2.1, by decide +kernel, by decide +kernel⟩
set_option maxRecDepth 100000 in
theorem hX6_push : av_me mX6_push := ⟨av_in (w := Cond.code yX6_push prog_8_method_8_code 4 (some .int)) (List.mem_append_right _ (List.mem_append_right _ (List.mem_append_right _ (List.mem_append_left _ (List.mem_of_getElem? (i := 138) rfl))))) rfl, av_init.2.2.2.2.2.2.1, by decide +kernel, by decide +kernel⟩
set_option maxRecDepth 100000 in
theorem hX6_turn : av_me mX6_turn := ⟨av_in (w := Cond.code yX6_turn prog_8_method_9_code 4 (some .int)) (List.mem_append_right _ (List.mem_append_right _ (List.mem_append_right _ (List.mem_append_left _ (List.mem_of_getElem? (i := 68) rfl))))) rfl, av_init.2.2.2.2.2.2.1, by decide +kernel, by decide +kernel⟩
set_option maxRecDepth 100000 in
theorem hX6_excess : av_me mX6_excess := ⟨av_in (w := Cond.code yX6_excess prog_8_method_10_code 6 (some .int)) (List.mem_append_right _ (List.mem_append_right _ (List.mem_append_right _ (List.mem_append_left _ (List.mem_of_getElem? (i := 88) rfl))))) rfl, av_init.2.2.2.2.2.2.1, by decide +kernel, by decide +kernel⟩
set_option maxRecDepth 100000 in
theorem hX7_point : av_me mX7_point := ⟨av_in (w := Cond.code yX7_point prog_1_method_2_code 3 (some .int)) (List.mem_append_right _ (List.mem_append_left _ (List.mem_of_getElem? (i := 211) rfl))) rfl, av_init.2.1, by decide +kernel, by decide +kernel⟩
set_option maxRecDepth 100000 in
theorem hX7_move : av_me mX7_move := ⟨av_in (w := Cond.code yX7_move prog_1_method_3_code 4 (some .int)) (List.mem_append_right _ (List.mem_append_right _ (List.mem_append_left _ (List.mem_of_getElem? (i := 30) rfl)))) rfl, av_init.2.1, by decide +kernel, by decide +kernel⟩
set_option maxRecDepth 100000 in
theorem hX7_clear : av_me mX7_clear := ⟨av_in (w := Cond.code yX7_clear prog_1_method_4_code 1 (some .int)) (List.mem_append_right _ (List.mem_append_right _ (List.mem_append_left _ (List.mem_of_getElem? (i := 36) rfl)))) rfl, av_init.2.1, by decide +kernel, by decide +kernel⟩
set_option maxRecDepth 100000 in
theorem hX7_corners : av_me mX7_corners := ⟨av_in (w := Cond.code yX7_corners prog_1_method_5_code 1 (some .int)) (List.mem_append_right _ (List.mem_append_right _ (List.mem_append_left _ (List.mem_of_getElem? (i := 44) rfl)))) rfl, av_init.2.1, by decide +kernel, by decide +kernel⟩
set_option maxRecDepth 100000 in
theorem hX7_corner : av_me mX7_corner := ⟨av_in (w := Cond.code yX7_corner prog_1_method_6_code 3 (some .int)) (List.mem_append_right _ (List.mem_append_right _ (List.mem_append_left _ (List.mem_of_getElem? (i := 56) rfl)))) rfl, av_init.2.1, by decide +kernel, by decide +kernel⟩
set_option maxRecDepth 100000 in
theorem hX7_wallOf : av_me mX7_wallOf := ⟨av_in (w := Cond.code yX7_wallOf prog_1_method_7_code 3 (some .int)) (List.mem_append_right _ (List.mem_append_right _ (List.mem_append_left _ (List.mem_of_getElem? (i := 72) rfl)))) rfl, av_init.2.1, by decide +kernel, by decide +kernel⟩
set_option maxRecDepth 100000 in
theorem hX7_slack : av_me mX7_slack := ⟨av_in (w := Cond.code yX7_slack prog_1_method_8_code 3 (some .int)) (List.mem_append_right _ (List.mem_append_right _ (List.mem_append_left _ (List.mem_of_getElem? (i := 98) rfl)))) rfl, av_init.2.1, by decide +kernel, by decide +kernel⟩
set_option maxRecDepth 100000 in
theorem hX7_area : av_me mX7_area := ⟨av_in (w := Cond.code yX7_area prog_1_method_9_code 1 (some .int)) (List.mem_append_right _ (List.mem_append_right _ (List.mem_append_left _ (List.mem_of_getElem? (i := 107) rfl)))) rfl, av_init.2.1, by decide +kernel, by decide +kernel⟩
set_option maxRecDepth 100000 in
theorem hX7_open : av_me mX7_open := ⟨av_in (w := Cond.code yX7_open prog_1_method_10_code 1 (some .int)) (List.mem_append_right _ (List.mem_append_right _ (List.mem_append_left _ (List.mem_of_getElem? (i := 115) rfl)))) rfl, av_init.2.1, by decide +kernel, by decide +kernel⟩
set_option maxRecDepth 100000 in
theorem hX7_cover : av_me mX7_cover := ⟨av_in (w := Cond.code yX7_cover prog_1_method_11_code 1 (some .int)) (List.mem_append_right _ (List.mem_append_right _ (List.mem_append_left _ (List.mem_of_getElem? (i := 124) rfl)))) rfl, av_init.2.1, by decide +kernel, by decide +kernel⟩
set_option maxRecDepth 100000 in
theorem hX7_fools : av_me mX7_fools := ⟨av_in (w := Cond.code yX7_fools prog_1_method_12_code 1 (some .int)) (List.mem_append_right _ (List.mem_append_right _ (List.mem_append_left _ (List.mem_of_getElem? (i := 134) rfl)))) rfl, av_init.2.1, by decide +kernel, by decide +kernel⟩
set_option maxRecDepth 100000 in
theorem hX7_log : av_me mX7_log := ⟨av_in (w := Cond.code yX7_log prog_1_method_13_code 1 (some .int)) (List.mem_append_right _ (List.mem_append_right _ (List.mem_append_left _ (List.mem_of_getElem? (i := 140) rfl)))) rfl, av_init.2.1, by decide +kernel, by decide +kernel⟩
set_option maxRecDepth 100000 in
theorem hX7_low : av_me mX7_low := ⟨av_in (w := Cond.code yX7_low prog_1_method_14_code 1 (some .int)) (List.mem_append_right _ (List.mem_append_right _ (List.mem_append_left _ (List.mem_of_getElem? (i := 148) rfl)))) rfl, av_init.2.1, by decide +kernel, by decide +kernel⟩
set_option maxRecDepth 100000 in
theorem hX7_high : av_me mX7_high := ⟨av_in (w := Cond.code yX7_high prog_1_method_15_code 3 (some .int)) (List.mem_append_right _ (List.mem_append_right _ (List.mem_append_left _ (List.mem_of_getElem? (i := 155) rfl)))) rfl, av_init.2.1, by decide +kernel, by decide +kernel⟩
set_option maxRecDepth 100000 in
theorem hX7_factors : av_me mX7_factors := ⟨av_in (w := Cond.code yX7_factors prog_1_method_16_code 3 (some .int)) (List.mem_append_right _ (List.mem_append_right _ (List.mem_append_right _ (List.mem_append_left _ (List.mem_of_getElem? (i := 21) rfl))))) rfl, av_init.2.1, by decide +kernel, by decide +kernel⟩
set_option maxRecDepth 100000 in
theorem hX7_entry : av_me mX7_entry := ⟨av_in (w := Cond.code yX7_entry prog_1_method_17_code 7 (some .int)) (List.mem_append_right _ (List.mem_append_right _ (List.mem_append_right _ (List.mem_append_left _ (List.mem_of_getElem? (i := 29) rfl))))) rfl, av_init.2.1, by decide +kernel, by decide +kernel⟩
set_option maxRecDepth 100000 in
theorem hX7_hold : av_me mX7_hold := ⟨av_in (w := Cond.code yX7_hold prog_1_method_18_code 1 (some .int)) (List.mem_append_right _ (List.mem_append_right _ (List.mem_append_right _ (List.mem_append_left _ (List.mem_of_getElem? (i := 37) rfl))))) rfl, av_init.2.1, by decide +kernel, by decide +kernel⟩
set_option maxRecDepth 100000 in
theorem hX7_wrong : av_me mX7_wrong := ⟨av_in (w := Cond.code yX7_wrong prog_1_method_19_code 1 (some .int)) (List.mem_append_right _ (List.mem_append_right _ (List.mem_append_right _ (List.mem_append_left _ (List.mem_of_getElem? (i := 41) rfl))))) rfl, av_init.2.1, by decide +kernel, by decide +kernel⟩
set_option maxRecDepth 100000 in
theorem hX7_wall : av_me mX7_wall := ⟨av_in (w := Cond.code yX7_wall prog_1_method_20_code 6 (some .int)) (List.mem_append_right _ (List.mem_append_right _ (List.mem_append_right _ (List.mem_append_left _ (List.mem_of_getElem? (i := 45) rfl))))) rfl, av_init.2.1, by decide +kernel, by decide +kernel⟩
set_option maxRecDepth 100000 in
theorem hX7_shift : av_me mX7_shift := ⟨av_in (w := Cond.code yX7_shift prog_1_method_21_code 3 (some .int)) (List.mem_append_right _ (List.mem_append_right _ (List.mem_append_right _ (List.mem_append_left _ (List.mem_of_getElem? (i := 126) rfl))))) rfl, av_init.2.1, by decide +kernel, by decide +kernel⟩
set_option maxRecDepth 100000 in
theorem hX7_on : av_me mX7_on := ⟨av_in (w := Cond.code yX7_on prog_1_method_22_code 3 (some .int)) (List.mem_append_right _ (List.mem_append_right _ (List.mem_append_right _ (List.mem_append_left _ (List.mem_of_getElem? (i := 142) rfl))))) rfl, av_init.2.1, by decide +kernel, by decide +kernel⟩
set_option maxRecDepth 100000 in
theorem hX7_about : av_me mX7_about := ⟨av_in (w := Cond.code yX7_about prog_1_method_23_code 3 (some .int)) (List.mem_append_right _ (List.mem_append_right _ (List.mem_append_right _ (List.mem_append_left _ (List.mem_of_getElem? (i := 151) rfl))))) rfl, av_init.2.1, by decide +kernel, by decide +kernel⟩
set_option maxRecDepth 100000 in
theorem hX7_sound : av_me mX7_sound := ⟨av_in (w := Cond.code yX7_sound prog_1_method_24_code 1 (some .int)) (List.mem_append_right _ (List.mem_append_right _ (List.mem_append_right _ (List.mem_append_left _ (List.mem_of_getElem? (i := 159) rfl))))) rfl, av_init.2.1, by decide +kernel, by decide +kernel⟩
set_option maxRecDepth 100000 in
theorem hX7_vertices : av_me mX7_vertices := ⟨av_in (w := Cond.code yX7_vertices prog_1_method_25_code 1 (some .int)) (List.mem_append_right _ (List.mem_append_right _ (List.mem_append_right _ (List.mem_append_left _ (List.mem_of_getElem? (i := 167) rfl))))) rfl, av_init.2.1, by decide +kernel, by decide +kernel⟩
set_option maxRecDepth 100000 in
theorem hX7_vertex : av_me mX7_vertex := ⟨av_in (w := Cond.code yX7_vertex prog_1_method_26_code 4 (some .long)) (List.mem_append_right _ (List.mem_append_right _ (List.mem_append_right _ (List.mem_append_left _ (List.mem_of_getElem? (i := 175) rfl))))) rfl, av_init.2.1, by decide +kernel, by decide +kernel⟩
set_option maxRecDepth 100000 in
theorem hX7_tight : av_me mX7_tight := ⟨av_in (w := Cond.code yX7_tight prog_1_method_27_code 2 (some .int)) (List.mem_append_right _ (List.mem_append_right _ (List.mem_append_right _ (List.mem_append_left _ (List.mem_of_getElem? (i := 197) rfl))))) rfl, av_init.2.1, by decide +kernel, by decide +kernel⟩
set_option maxRecDepth 100000 in
theorem hX7_rims : av_me mX7_rims := ⟨av_in (w := Cond.code yX7_rims prog_1_method_28_code 1 (some .int)) (List.mem_append_right _ (List.mem_append_right _ (List.mem_append_right _ (List.mem_append_left _ (List.mem_of_getElem? (i := 209) rfl))))) rfl, av_init.2.1, by decide +kernel, by decide +kernel⟩
set_option maxRecDepth 100000 in
theorem hX7_idle : av_me mX7_idle := ⟨av_in (w := Cond.code yX7_idle prog_1_method_29_code 2 (some .int)) (List.mem_append_right _ (List.mem_append_right _ (List.mem_append_right _ (List.mem_append_left _ (List.mem_of_getElem? (i := 222) rfl))))) rfl, av_init.2.1, by decide +kernel, by decide +kernel⟩
set_option maxRecDepth 100000 in
theorem hX7_shadow : av_me mX7_shadow := ⟨av_in (w := Cond.code yX7_shadow prog_1_method_30_code 1 (some .int)) (List.mem_append_right _ (List.mem_append_right _ (List.mem_append_right _ (List.mem_append_left _ (List.mem_of_getElem? (i := 235) rfl))))) rfl, av_init.2.1, by decide +kernel, by decide +kernel⟩
set_option maxRecDepth 100000 in
theorem hX7_shadowAt : av_me mX7_shadowAt := ⟨av_in (w := Cond.code yX7_shadowAt prog_1_method_31_code 5 (some .long)) (List.mem_append_right _ (List.mem_append_right _ (List.mem_append_right _ (List.mem_append_right _ (List.mem_append_left _ (List.mem_of_getElem? (i := 3) rfl)))))) rfl, av_init.2.1, by decide +kernel, by decide +kernel⟩
set_option maxRecDepth 100000 in
theorem hX7_seen : av_me mX7_seen := ⟨av_in (w := Cond.code yX7_seen prog_1_method_32_code 2 (some .int)) (List.mem_append_right _ (List.mem_append_right _ (List.mem_append_right _ (List.mem_append_right _ (List.mem_append_left _ (List.mem_of_getElem? (i := 13) rfl)))))) rfl, av_init.2.1, by decide +kernel, by decide +kernel⟩
set_option maxRecDepth 100000 in
theorem hX7_missed : av_me mX7_missed := ⟨av_in (w := Cond.code yX7_missed prog_1_method_33_code 1 (some .int)) (List.mem_append_right _ (List.mem_append_right _ (List.mem_append_right _ (List.mem_append_right _ (List.mem_append_left _ (List.mem_of_getElem? (i := 25) rfl)))))) rfl, av_init.2.1, by decide +kernel, by decide +kernel⟩
set_option maxRecDepth 100000 in
theorem hX7_beyond : av_me mX7_beyond := ⟨av_in (w := Cond.code yX7_beyond prog_1_method_34_code 1 (some .int)) (List.mem_append_right _ (List.mem_append_right _ (List.mem_append_right _ (List.mem_append_right _ (List.mem_append_left _ (List.mem_of_getElem? (i := 29) rfl)))))) rfl, av_init.2.1, by decide +kernel, by decide +kernel⟩
set_option maxRecDepth 100000 in
theorem hX7_fewest : av_me mX7_fewest := ⟨av_in (w := Cond.code yX7_fewest prog_1_method_35_code 2 (some .int)) (List.mem_append_right _ (List.mem_append_right _ (List.mem_append_right _ (List.mem_append_right _ (List.mem_append_left _ (List.mem_of_getElem? (i := 33) rfl)))))) rfl, av_init.2.1, by decide +kernel, by decide +kernel⟩
set_option maxRecDepth 100000 in
theorem hX7_needed : av_me mX7_needed := ⟨av_in (w := Cond.code yX7_needed prog_1_method_36_code 5 (some .int)) (List.mem_append_right _ (List.mem_append_right _ (List.mem_append_right _ (List.mem_append_right _ (List.mem_append_left _ (List.mem_of_getElem? (i := 37) rfl)))))) rfl, av_init.2.1, by decide +kernel, by decide +kernel⟩
set_option maxRecDepth 100000 in
theorem hX7_blow : av_me mX7_blow := ⟨av_in (w := Cond.code yX7_blow prog_1_method_37_code 2 (some .long)) (List.mem_append_right _ (List.mem_append_right _ (List.mem_append_right _ (List.mem_append_right _ (List.mem_append_left _ (List.mem_of_getElem? (i := 41) rfl)))))) rfl, av_init.2.1, by decide +kernel, by decide +kernel⟩
set_option maxRecDepth 100000 in
theorem hX7_most : av_me mX7_most := ⟨av_in (w := Cond.code yX7_most prog_1_method_38_code 3 (some .int)) (List.mem_append_right _ (List.mem_append_right _ (List.mem_append_right _ (List.mem_append_right _ (List.mem_append_left _ (List.mem_of_getElem? (i := 55) rfl)))))) rfl, av_init.2.1, by decide +kernel, by decide +kernel⟩
set_option maxRecDepth 100000 in
theorem hX7_mostOf : av_me mX7_mostOf := ⟨av_in (w := Cond.code yX7_mostOf prog_1_method_39_code 6 (some .long)) (List.mem_append_right _ (List.mem_append_right _ (List.mem_append_right _ (List.mem_append_right _ (List.mem_append_left _ (List.mem_of_getElem? (i := 67) rfl)))))) rfl, av_init.2.1, by decide +kernel, by decide +kernel⟩
set_option maxRecDepth 100000 in
theorem hX7_at : av_me mX7_at := ⟨av_in (w := Cond.code yX7_at prog_1_method_40_code 5 (some .int)) (List.mem_append_right _ (List.mem_append_right _ (List.mem_append_right _ (List.mem_append_right _ (List.mem_append_left _ (List.mem_of_getElem? (i := 87) rfl)))))) rfl, av_init.2.1, by decide +kernel, by decide +kernel⟩
set_option maxRecDepth 100000 in
theorem hX7_count : av_me mX7_count := ⟨av_in (w := Cond.code yX7_count prog_1_method_41_code 2 (some .int)) (List.mem_append_right _ (List.mem_append_right _ (List.mem_append_right _ (List.mem_append_right _ (List.mem_append_left _ (List.mem_of_getElem? (i := 91) rfl)))))) rfl, av_init.2.1, by decide +kernel, by decide +kernel⟩
set_option maxRecDepth 100000 in
theorem hX7_isWithin : av_me mX7_isWithin := ⟨av_in (w := Cond.code yX7_isWithin prog_1_method_42_code 3 (some .boolean)) (List.mem_append_right _ (List.mem_append_left _ (List.mem_of_getElem? (i := 217) rfl))) rfl, av_init.2.1, by decide +kernel, by decide +kernel⟩
set_option maxRecDepth 100000 in
theorem hX7_isPlace : av_me mX7_isPlace := ⟨av_in (w := Cond.code yX7_isPlace prog_1_method_43_code 2 (some .boolean)) (List.mem_append_right _ (List.mem_append_left _ (List.mem_of_getElem? (i := 214) rfl))) rfl, av_init.2.1, by decide +kernel, by decide +kernel⟩
set_option maxRecDepth 100000 in
theorem hX7_isStep : av_me mX7_isStep := ⟨av_in (w := Cond.code yX7_isStep prog_1_method_44_code 1 (some .boolean)) (List.mem_append_right _ (List.mem_append_right _ (List.mem_append_right _ (List.mem_append_left _ (List.mem_of_getElem? (i := 48) rfl))))) rfl, av_init.2.1, by decide +kernel, by decide +kernel⟩
set_option maxRecDepth 100000 in
theorem hX7_isFar : av_me mX7_isFar := ⟨av_in (w := Cond.code yX7_isFar prog_1_method_45_code 1 (some .boolean)) (List.mem_append_right _ (List.mem_append_right _ (List.mem_append_right _ (List.mem_append_left _ (List.mem_of_getElem? (i := 51) rfl))))) rfl, av_init.2.1, by decide +kernel, by decide +kernel⟩
set_option maxRecDepth 100000 in
theorem hX7_isAim : av_me mX7_isAim := ⟨av_in (w := Cond.code yX7_isAim prog_1_method_46_code 1 (some .boolean)) (List.mem_append_right _ (List.mem_append_right _ (List.mem_append_right _ (List.mem_append_right _ (List.mem_append_left _ (List.mem_of_getElem? (i := 58) rfl)))))) rfl, av_init.2.1, by decide +kernel, by decide +kernel⟩
set_option maxRecDepth 100000 in
theorem hX7_aimRefusal : av_me mX7_aimRefusal := ⟨av_in (w := Cond.code yX7_aimRefusal prog_1_method_47_code 4 (some .int)) (List.mem_append_right _ (List.mem_append_right _ (List.mem_append_right _ (List.mem_append_right _ (List.mem_append_left _ (List.mem_of_getElem? (i := 71) rfl)))))) rfl, av_init.2.1, by decide +kernel, by decide +kernel⟩
set_option maxRecDepth 100000 in
theorem hX7_isBounded : av_me mX7_isBounded := ⟨av_in (w := Cond.code yX7_isBounded prog_1_method_48_code 1 (some .boolean)) (List.mem_append_right _ (List.mem_append_right _ (List.mem_append_left _ (List.mem_of_getElem? (i := 128) rfl)))) rfl, av_init.2.1, by decide +kernel, by decide +kernel⟩
set_option maxRecDepth 100000 in
theorem hX7_levels : av_me mX7_levels := ⟨av_in (w := Cond.code yX7_levels prog_1_method_49_code 3 (some .int)) (List.mem_append_right _ (List.mem_append_right _ (List.mem_append_left _ (List.mem_of_getElem? (i := 144) rfl)))) rfl, av_init.2.1, by decide +kernel, by decide +kernel⟩
set_option maxRecDepth 100000 in
theorem hX7_gcd : av_me mX7_gcd := ⟨av_in (w := Cond.code yX7_gcd prog_1_method_50_code 11 (some .long)) (List.mem_append_right _ (List.mem_append_right _ (List.mem_append_left _ (List.mem_of_getElem? (i := 91) rfl)))) rfl, av_init.2.1, by decide +kernel, by decide +kernel⟩
set_option maxRecDepth 100000 in
theorem hX7_told : av_me mX7_told := ⟨av_in (w := Cond.code yX7_told prog_1_method_51_code 7 (some .long)) (List.mem_append_right _ (List.mem_append_right _ (List.mem_append_right _ (List.mem_append_left _ (List.mem_of_getElem? (i := 191) rfl))))) rfl, av_init.2.1, by decide +kernel, by decide +kernel⟩
set_option maxRecDepth 100000 in
theorem hX8_in : av_me mX8_in := ⟨av_in (w := Cond.code yX8_in prog_10_method_3_code 6 (some .boolean)) (List.mem_append_right _ (List.mem_append_right _ (List.mem_append_right _ (List.mem_append_right _ (List.mem_append_left _ (List.mem_of_getElem? (i := 216) rfl)))))) rfl, av_init.2.2.2.2.2.2.2.2.2.1, by decide +kernel, by decide +kernel⟩
set_option maxRecDepth 100000 in
theorem hX8_common : av_me mX8_common := ⟨av_in (w := Cond.code yX8_common prog_10_method_4_code 10 (some .long)) (List.mem_append_right _ (List.mem_append_right _ (List.mem_append_right _ (List.mem_append_right _ (List.mem_append_right _ (List.mem_append_left _ (List.mem_of_getElem? (i := 37) rfl))))))) rfl, av_init.2.2.2.2.2.2.2.2.2.1, by decide +kernel, by decide +kernel⟩
set_option maxRecDepth 100000 in
theorem hX8_told : av_me mX8_told := ⟨av_in (w := Cond.code yX8_told prog_10_method_5_code 7 (some .long)) (List.mem_append_right _ (List.mem_append_right _ (List.mem_append_right _ (List.mem_append_right _ (List.mem_append_right _ (List.mem_append_left _ (List.mem_of_getElem? (i := 219) rfl))))))) rfl, av_init.2.2.2.2.2.2.2.2.2.1, by decide +kernel, by decide +kernel⟩
set_option maxRecDepth 100000 in
theorem hX8_point : av_me mX8_point := ⟨av_in (w := Cond.code yX8_point prog_10_method_6_code 3 (some .int)) (List.mem_append_right _ (List.mem_append_right _ (List.mem_append_right _ (List.mem_append_right _ (List.mem_append_left _ (List.mem_of_getElem? (i := 211) rfl)))))) rfl, av_init.2.2.2.2.2.2.2.2.2.1, by decide +kernel, by decide +kernel⟩
set_option maxRecDepth 100000 in
theorem hX8_move : av_me mX8_move := ⟨av_in (w := Cond.code yX8_move prog_10_method_7_code 4 (some .int)) (List.mem_append_right _ (List.mem_append_right _ (List.mem_append_right _ (List.mem_append_right _ (List.mem_append_left _ (List.mem_of_getElem? (i := 222) rfl)))))) rfl, av_init.2.2.2.2.2.2.2.2.2.1, by decide +kernel, by decide +kernel⟩
set_option maxRecDepth 100000 in
theorem hX8_clear : av_me mX8_clear := ⟨av_in (w := Cond.code yX8_clear prog_10_method_8_code 2 (some .int)) (List.mem_append_right _ (List.mem_append_right _ (List.mem_append_right _ (List.mem_append_right _ (List.mem_append_left _ (List.mem_of_getElem? (i := 227) rfl)))))) rfl, av_init.2.2.2.2.2.2.2.2.2.1, by decide +kernel, by decide +kernel⟩
set_option maxRecDepth 100000 in
theorem hX8_side : av_me mX8_side := ⟨av_in (w := Cond.code yX8_side prog_10_method_9_code 4 (some .long)) (List.mem_append_right _ (List.mem_append_right _ (List.mem_append_right _ (List.mem_append_right _ (List.mem_append_right _ (List.mem_append_left _ (List.mem_of_getElem? (i := 16) rfl))))))) rfl, av_init.2.2.2.2.2.2.2.2.2.1, by decide +kernel, by decide +kernel⟩
set_option maxRecDepth 100000 in
theorem hX8_compare : av_me mX8_compare := ⟨av_in (w := Cond.code yX8_compare prog_10_method_10_code 9 (some .long)) (List.mem_append_right _ (List.mem_append_right _ (List.mem_append_right _ (List.mem_append_right _ (List.mem_append_right _ (List.mem_append_left _ (List.mem_of_getElem? (i := 7) rfl))))))) rfl, av_init.2.2.2.2.2.2.2.2.2.1, by decide +kernel, by decide +kernel⟩
set_option maxRecDepth 100000 in
theorem hX8_isAhead : av_me mX8_isAhead := ⟨av_in (w := Cond.code yX8_isAhead prog_10_method_11_code 5 (some .boolean)) (List.mem_append_right _ (List.mem_append_right _ (List.mem_append_right _ (List.mem_append_right _ (List.mem_append_right _ (List.mem_append_left _ (List.mem_of_getElem? (i := 3) rfl))))))) rfl, av_init.2.2.2.2.2.2.2.2.2.1, by decide +kernel, by decide +kernel⟩
set_option maxRecDepth 100000 in
theorem hX8_isOne : av_me mX8_isOne := ⟨av_in (w := Cond.code yX8_isOne prog_10_method_12_code 3 (some .boolean)) (List.mem_append_right _ (List.mem_append_right _ (List.mem_append_right _ (List.mem_append_right _ (List.mem_append_right _ (List.mem_append_left _ (List.mem_of_getElem? (i := 11) rfl))))))) rfl, av_init.2.2.2.2.2.2.2.2.2.1, by decide +kernel, by decide +kernel⟩
set_option maxRecDepth 100000 in
theorem hX8_isBetween : av_me mX8_isBetween := ⟨av_in (w := Cond.code yX8_isBetween prog_10_method_13_code 5 (some .boolean)) (List.mem_append_right _ (List.mem_append_right _ (List.mem_append_right _ (List.mem_append_right _ (List.mem_append_right _ (List.mem_append_left _ (List.mem_of_getElem? (i := 20) rfl))))))) rfl, av_init.2.2.2.2.2.2.2.2.2.1, by decide +kernel, by decide +kernel⟩
set_option maxRecDepth 100000 in
theorem hX8_hull : av_me mX8_hull := ⟨av_in (w := Cond.code yX8_hull prog_10_method_14_code 12 (some .int)) (List.mem_append_right _ (List.mem_append_right _ (List.mem_append_right _ (List.mem_append_right _ (List.mem_append_left _ (List.mem_of_getElem? (i := 239) rfl)))))) rfl, av_init.2.2.2.2.2.2.2.2.2.1, by decide +kernel, by decide +kernel⟩
set_option maxRecDepth 100000 in
theorem hX8_layFigure : av_me mX8_layFigure := ⟨av_in (w := Cond.code yX8_layFigure prog_10_method_15_code 2 none) (List.mem_append_right _ (List.mem_append_right _ (List.mem_append_right _ (List.mem_append_right _ (List.mem_append_left _ (List.mem_of_getElem? (i := 235) rfl)))))) rfl, av_init.2.2.2.2.2.2.2.2.2.1, by decide +kernel, by decide +kernel⟩
set_option maxRecDepth 100000 in
theorem hX8_isFlat : av_me mX8_isFlat := ⟨av_in (w := Cond.code yX8_isFlat prog_10_method_16_code 1 (some .boolean)) (List.mem_append_right _ (List.mem_append_right _ (List.mem_append_right _ (List.mem_append_right _ (List.mem_append_right _ (List.mem_append_left _ (List.mem_of_getElem? (i := 57) rfl))))))) rfl, av_init.2.2.2.2.2.2.2.2.2.1, by decide +kernel, by decide +kernel⟩
set_option maxRecDepth 100000 in
theorem hX8_corners : av_me mX8_corners := ⟨av_in (w := Cond.code yX8_corners prog_10_method_17_code 1 (some .int)) (List.mem_append_right _ (List.mem_append_right _ (List.mem_append_right _ (List.mem_append_right _ (List.mem_append_left _ (List.mem_of_getElem? (i := 231) rfl)))))) rfl, av_init.2.2.2.2.2.2.2.2.2.1, by decide +kernel, by decide +kernel⟩
set_option maxRecDepth 100000 in
theorem hX8_corner : av_me mX8_corner := ⟨av_in (w := Cond.code yX8_corner prog_10_method_18_code 3 (some .int)) (List.mem_append_right _ (List.mem_append_right _ (List.mem_append_right _ (List.mem_append_right _ (List.mem_append_right _ (List.mem_append_left _ (List.mem_of_getElem? (i := 24) rfl))))))) rfl, av_init.2.2.2.2.2.2.2.2.2.1, by decide +kernel, by decide +kernel⟩
set_option maxRecDepth 100000 in
theorem hX8_wallPart : av_me mX8_wallPart := ⟨av_in (w := Cond.code yX8_wallPart prog_10_method_19_code 8 (some .int)) (List.mem_append_right _ (List.mem_append_right _ (List.mem_append_right _ (List.mem_append_right _ (List.mem_append_right _ (List.mem_append_left _ (List.mem_of_getElem? (i := 34) rfl))))))) rfl, av_init.2.2.2.2.2.2.2.2.2.1, by decide +kernel, by decide +kernel⟩
set_option maxRecDepth 100000 in
theorem hX8_wallOf : av_me mX8_wallOf := ⟨av_in (w := Cond.code yX8_wallOf prog_10_method_20_code 3 (some .int)) (List.mem_append_right _ (List.mem_append_right _ (List.mem_append_right _ (List.mem_append_right _ (List.mem_append_right _ (List.mem_append_left _ (List.mem_of_getElem? (i := 28) rfl))))))) rfl, av_init.2.2.2.2.2.2.2.2.2.1, by decide +kernel, by decide +kernel⟩
set_option maxRecDepth 100000 in
theorem hX8_slackOf : av_me mX8_slackOf := ⟨av_in (w := Cond.code yX8_slackOf prog_10_method_21_code 3 (some .int)) (List.mem_append_right _ (List.mem_append_right _ (List.mem_append_right _ (List.mem_append_right _ (List.mem_append_right _ (List.mem_append_left _ (List.mem_of_getElem? (i := 45) rfl))))))) rfl, av_init.2.2.2.2.2.2.2.2.2.1, by decide +kernel, by decide +kernel⟩
set_option maxRecDepth 100000 in
theorem hX8_slack : av_me mX8_slack := ⟨av_in (w := Cond.code yX8_slack prog_10_method_22_code 3 (some .int)) (List.mem_append_right _ (List.mem_append_right _ (List.mem_append_right _ (List.mem_append_right _ (List.mem_append_right _ (List.mem_append_left _ (List.mem_of_getElem? (i := 41) rfl))))))) rfl, av_init.2.2.2.2.2.2.2.2.2.1, by decide +kernel, by decide +kernel⟩
set_option maxRecDepth 100000 in
theorem hX8_area : av_me mX8_area := ⟨av_in (w := Cond.code yX8_area prog_10_method_23_code 5 (some .int)) (List.mem_append_right _ (List.mem_append_right _ (List.mem_append_right _ (List.mem_append_right _ (List.mem_append_right _ (List.mem_append_left _ (List.mem_of_getElem? (i := 49) rfl))))))) rfl, av_init.2.2.2.2.2.2.2.2.2.1, by decide +kernel, by decide +kernel⟩
set_option maxRecDepth 100000 in
theorem hX8_open : av_me mX8_open := ⟨av_in (w := Cond.code yX8_open prog_10_method_24_code 4 (some .int)) (List.mem_append_right _ (List.mem_append_right _ (List.mem_append_right _ (List.mem_append_right _ (List.mem_append_right _ (List.mem_append_left _ (List.mem_of_getElem? (i := 53) rfl))))))) rfl, av_init.2.2.2.2.2.2.2.2.2.1, by decide +kernel, by decide +kernel⟩
set_option maxRecDepth 100000 in
theorem hX8_layOpen : av_me mX8_layOpen := ⟨av_in (w := Cond.code yX8_layOpen prog_10_method_25_code 3 none) (List.mem_append_right _ (List.mem_append_right _ (List.mem_append_right _ (List.mem_append_right _ (List.mem_append_right _ (List.mem_append_left _ (List.mem_of_getElem? (i := 73) rfl))))))) rfl, av_init.2.2.2.2.2.2.2.2.2.1, by decide +kernel, by decide +kernel⟩
set_option maxRecDepth 100000 in
theorem hX8_layBlocks : av_me mX8_layBlocks := ⟨av_in (w := Cond.code yX8_layBlocks prog_10_method_26_code 8 none) (List.mem_append_right _ (List.mem_append_right _ (List.mem_append_right _ (List.mem_append_right _ (List.mem_append_right _ (List.mem_append_left _ (List.mem_of_getElem? (i := 77) rfl))))))) rfl, av_init.2.2.2.2.2.2.2.2.2.1, by decide +kernel, by decide +kernel⟩
set_option maxRecDepth 100000 in
theorem hX8_firstBit : av_me mX8_firstBit := ⟨av_in (w := Cond.code yX8_firstBit prog_10_method_27_code 3 (some .int)) (List.mem_append_right _ (List.mem_append_right _ (List.mem_append_right _ (List.mem_append_right _ (List.mem_append_right _ (List.mem_append_left _ (List.mem_of_getElem? (i := 84) rfl))))))) rfl, av_init.2.2.2.2.2.2.2.2.2.1, by decide +kernel, by decide +kernel⟩
set_option maxRecDepth 100000 in
theorem hX8_ones : av_me mX8_ones := ⟨av_in (w := Cond.code yX8_ones prog_10_method_28_code 4 (some .int)) (List.mem_append_right _ (List.mem_append_right _ (List.mem_append_right _ (List.mem_append_right _ (List.mem_append_right _ (List.mem_append_left _ (List.mem_of_getElem? (i := 103) rfl))))))) rfl, av_init.2.2.2.2.2.2.2.2.2.1, by decide +kernel, by decide +kernel⟩
set_option maxRecDepth 100000 in
theorem hX8_covers : av_me mX8_covers := ⟨av_in (w := Cond.code yX8_covers prog_10_method_29_code 8 (some .boolean)) (List.mem_append_right _ (List.mem_append_right _ (List.mem_append_right _ (List.mem_append_right _ (List.mem_append_right _ (List.mem_append_left _ (List.mem_of_getElem? (i := 81) rfl))))))) rfl, av_init.2.2.2.2.2.2.2.2.2.1, by decide +kernel, by decide +kernel⟩
set_option maxRecDepth 100000 in
theorem hX8_coverNow : av_me mX8_coverNow := ⟨av_in (w := Cond.code yX8_coverNow prog_10_method_30_code 2 (some .int)) (List.mem_append_right _ (List.mem_append_right _ (List.mem_append_right _ (List.mem_append_right _ (List.mem_append_right _ (List.mem_append_left _ (List.mem_of_getElem? (i := 69) rfl))))))) rfl, av_init.2.2.2.2.2.2.2.2.2.1, by decide +kernel, by decide +kernel⟩
set_option maxRecDepth 100000 in
theorem hX8_isOpen : av_me mX8_isOpen := ⟨av_in (w := Cond.code yX8_isOpen prog_10_method_31_code 3 (some .boolean)) (List.mem_append_right _ (List.mem_append_right _ (List.mem_append_right _ (List.mem_append_right _ (List.mem_append_right _ (List.mem_append_left _ (List.mem_of_getElem? (i := 100) rfl))))))) rfl, av_init.2.2.2.2.2.2.2.2.2.1, by decide +kernel, by decide +kernel⟩
set_option maxRecDepth 100000 in
theorem hX8_layFooling : av_me mX8_layFooling := ⟨av_in (w := Cond.code yX8_layFooling prog_10_method_32_code 5 none) (List.mem_append_right _ (List.mem_append_right _ (List.mem_append_right _ (List.mem_append_right _ (List.mem_append_right _ (List.mem_append_left _ (List.mem_of_getElem? (i := 96) rfl))))))) rfl, av_init.2.2.2.2.2.2.2.2.2.1, by decide +kernel, by decide +kernel⟩
set_option maxRecDepth 100000 in
theorem hX8_foolsNow : av_me mX8_foolsNow := ⟨av_in (w := Cond.code yX8_foolsNow prog_10_method_33_code 4 (some .int)) (List.mem_append_right _ (List.mem_append_right _ (List.mem_append_right _ (List.mem_append_right _ (List.mem_append_right _ (List.mem_append_left _ (List.mem_of_getElem? (i := 92) rfl))))))) rfl, av_init.2.2.2.2.2.2.2.2.2.1, by decide +kernel, by decide +kernel⟩
set_option maxRecDepth 100000 in
theorem hX8_mayBound : av_me mX8_mayBound := ⟨av_in (w := Cond.code yX8_mayBound prog_10_method_34_code 1 (some .boolean)) (List.mem_append_right _ (List.mem_append_right _ (List.mem_append_right _ (List.mem_append_right _ (List.mem_append_right _ (List.mem_append_left _ (List.mem_of_getElem? (i := 65) rfl))))))) rfl, av_init.2.2.2.2.2.2.2.2.2.1, by decide +kernel, by decide +kernel⟩
set_option maxRecDepth 100000 in
theorem hX8_logNow : av_me mX8_logNow := ⟨av_in (w := Cond.code yX8_logNow prog_10_method_35_code 2 (some .int)) (List.mem_append_right _ (List.mem_append_right _ (List.mem_append_right _ (List.mem_append_right _ (List.mem_append_right _ (List.mem_append_left _ (List.mem_of_getElem? (i := 111) rfl))))))) rfl, av_init.2.2.2.2.2.2.2.2.2.1, by decide +kernel, by decide +kernel⟩
set_option maxRecDepth 100000 in
theorem hX8_cover : av_me mX8_cover := ⟨av_in (w := Cond.code yX8_cover prog_10_method_36_code 1 (some .int)) (List.mem_append_right _ (List.mem_append_right _ (List.mem_append_right _ (List.mem_append_right _ (List.mem_append_right _ (List.mem_append_left _ (List.mem_of_getElem? (i := 61) rfl))))))) rfl, av_init.2.2.2.2.2.2.2.2.2.1, by decide +kernel, by decide +kernel⟩
set_option maxRecDepth 100000 in
theorem hX8_fools : av_me mX8_fools := ⟨av_in (w := Cond.code yX8_fools prog_10_method_37_code 1 (some .int)) (List.mem_append_right _ (List.mem_append_right _ (List.mem_append_right _ (List.mem_append_right _ (List.mem_append_right _ (List.mem_append_left _ (List.mem_of_getElem? (i := 88) rfl))))))) rfl, av_init.2.2.2.2.2.2.2.2.2.1, by decide +kernel, by decide +kernel⟩
set_option maxRecDepth 100000 in
theorem hX8_log : av_me mX8_log := ⟨av_in (w := Cond.code yX8_log prog_10_method_38_code 1 (some .int)) (List.mem_append_right _ (List.mem_append_right _ (List.mem_append_right _ (List.mem_append_right _ (List.mem_append_right _ (List.mem_append_left _ (List.mem_of_getElem? (i := 107) rfl))))))) rfl, av_init.2.2.2.2.2.2.2.2.2.1, by decide +kernel, by decide +kernel⟩
set_option maxRecDepth 100000 in
theorem hX8_low : av_me mX8_low := ⟨av_in (w := Cond.code yX8_low prog_10_method_39_code 2 (some .int)) (List.mem_append_right _ (List.mem_append_right _ (List.mem_append_right _ (List.mem_append_right _ (List.mem_append_right _ (List.mem_append_left _ (List.mem_of_getElem? (i := 115) rfl))))))) rfl, av_init.2.2.2.2.2.2.2.2.2.1, by decide +kernel, by decide +kernel⟩
set_option maxRecDepth 100000 in
theorem hX8_factors : av_me mX8_factors := ⟨av_in (w := Cond.code yX8_factors prog_10_method_40_code 4 (some .int)) (List.mem_append_right _ (List.mem_append_right _ (List.mem_append_right _ (List.mem_append_right _ (List.mem_append_right _ (List.mem_append_left _ (List.mem_of_getElem? (i := 119) rfl))))))) rfl, av_init.2.2.2.2.2.2.2.2.2.1, by decide +kernel, by decide +kernel⟩
set_option maxRecDepth 100000 in
theorem hX8_entry : av_me mX8_entry := ⟨av_in (w := Cond.code yX8_entry prog_10_method_41_code 6 (some .int)) (List.mem_append_right _ (List.mem_append_right _ (List.mem_append_right _ (List.mem_append_right _ (List.mem_append_right _ (List.mem_append_left _ (List.mem_of_getElem? (i := 125) rfl))))))) rfl, av_init.2.2.2.2.2.2.2.2.2.1, by decide +kernel, by decide +kernel⟩
set_option maxRecDepth 100000 in
theorem hX8_wrongPair : av_me mX8_wrongPair := ⟨av_in (w := Cond.code yX8_wrongPair prog_10_method_42_code 6 (some .int)) (List.mem_append_right _ (List.mem_append_right _ (List.mem_append_right _ (List.mem_append_right _ (List.mem_append_right _ (List.mem_append_left _ (List.mem_of_getElem? (i := 136) rfl))))))) rfl, av_init.2.2.2.2.2.2.2.2.2.1, by decide +kernel, by decide +kernel⟩
set_option maxRecDepth 100000 in
theorem hX8_hold : av_me mX8_hold := ⟨av_in (w := Cond.code yX8_hold prog_10_method_43_code 1 (some .int)) (List.mem_append_right _ (List.mem_append_right _ (List.mem_append_right _ (List.mem_append_right _ (List.mem_append_right _ (List.mem_append_left _ (List.mem_of_getElem? (i := 132) rfl))))))) rfl, av_init.2.2.2.2.2.2.2.2.2.1, by decide +kernel, by decide +kernel⟩
set_option maxRecDepth 100000 in
theorem hX8_wrong : av_me mX8_wrong := ⟨av_in (w := Cond.code yX8_wrong prog_10_method_44_code 1 (some .int)) (List.mem_append_right _ (List.mem_append_right _ (List.mem_append_right _ (List.mem_append_right _ (List.mem_append_right _ (List.mem_append_left _ (List.mem_of_getElem? (i := 141) rfl))))))) rfl, av_init.2.2.2.2.2.2.2.2.2.1, by decide +kernel, by decide +kernel⟩
set_option maxRecDepth 100000 in
theorem hX8_wall : av_me mX8_wall := ⟨av_in (w := Cond.code yX8_wall prog_10_method_45_code 5 (some .int)) (List.mem_append_right _ (List.mem_append_right _ (List.mem_append_right _ (List.mem_append_right _ (List.mem_append_right _ (List.mem_append_left _ (List.mem_of_getElem? (i := 145) rfl))))))) rfl, av_init.2.2.2.2.2.2.2.2.2.1, by decide +kernel, by decide +kernel⟩
set_option maxRecDepth 100000 in
theorem hX8_isWall : av_me mX8_isWall := ⟨av_in (w := Cond.code yX8_isWall prog_10_method_46_code 2 (some .boolean)) (List.mem_append_right _ (List.mem_append_right _ (List.mem_append_right _ (List.mem_append_right _ (List.mem_append_right _ (List.mem_append_left _ (List.mem_of_getElem? (i := 157) rfl))))))) rfl, av_init.2.2.2.2.2.2.2.2.2.1, by decide +kernel, by decide +kernel⟩
set_option maxRecDepth 100000 in
theorem hX8_shift : av_me mX8_shift := ⟨av_in (w := Cond.code yX8_shift prog_10_method_47_code 4 (some .int)) (List.mem_append_right _ (List.mem_append_right _ (List.mem_append_right _ (List.mem_append_right _ (List.mem_append_right _ (List.mem_append_left _ (List.mem_of_getElem? (i := 153) rfl))))))) rfl, av_init.2.2.2.2.2.2.2.2.2.1, by decide +kernel, by decide +kernel⟩
set_option maxRecDepth 100000 in
theorem hX8_on : av_me mX8_on := ⟨av_in (w := Cond.code yX8_on prog_10_method_48_code 4 (some .int)) (List.mem_append_right _ (List.mem_append_right _ (List.mem_append_right _ (List.mem_append_right _ (List.mem_append_right _ (List.mem_append_left _ (List.mem_of_getElem? (i := 161) rfl))))))) rfl, av_init.2.2.2.2.2.2.2.2.2.1, by decide +kernel, by decide +kernel⟩
set_option maxRecDepth 100000 in
theorem hX8_about : av_me mX8_about := ⟨av_in (w := Cond.code yX8_about prog_10_method_49_code 3 (some .int)) (List.mem_append_right _ (List.mem_append_right _ (List.mem_append_right _ (List.mem_append_right _ (List.mem_append_right _ (List.mem_append_left _ (List.mem_of_getElem? (i := 165) rfl))))))) rfl, av_init.2.2.2.2.2.2.2.2.2.1, by decide +kernel, by decide +kernel⟩
set_option maxRecDepth 100000 in
theorem hX8_setOn : av_me mX8_setOn := ⟨av_in (w := Cond.code yX8_setOn prog_10_method_50_code 3 (some .int)) (List.mem_append_right _ (List.mem_append_right _ (List.mem_append_right _ (List.mem_append_right _ (List.mem_append_right _ (List.mem_append_left _ (List.mem_of_getElem? (i := 174) rfl))))))) rfl, av_init.2.2.2.2.2.2.2.2.2.1, by decide +kernel, by decide +kernel⟩
set_option maxRecDepth 100000 in
theorem hX8_determinant : av_me mX8_determinant := ⟨av_in (w := Cond.code yX8_determinant prog_10_method_51_code 13 (some .long)) (List.mem_append_right _ (List.mem_append_right _ (List.mem_append_right _ (List.mem_append_right _ (List.mem_append_right _ (List.mem_append_left _ (List.mem_of_getElem? (i := 186) rfl))))))) rfl, av_init.2.2.2.2.2.2.2.2.2.1, by decide +kernel, by decide +kernel⟩
set_option maxRecDepth 100000 in
theorem hX8_leaves : av_me mX8_leaves := ⟨av_in (w := Cond.code yX8_leaves prog_10_method_52_code 10 (some .long)) (List.mem_append_right _ (List.mem_append_right _ (List.mem_append_right _ (List.mem_append_right _ (List.mem_append_right _ (List.mem_append_left _ (List.mem_of_getElem? (i := 194) rfl))))))) rfl, av_init.2.2.2.2.2.2.2.2.2.1, by decide +kernel, by decide +kernel⟩
set_option maxRecDepth 100000 in
theorem hX8_holdsAll : av_me mX8_holdsAll := ⟨av_in (w := Cond.code yX8_holdsAll prog_10_method_53_code 12 (some .boolean)) (List.mem_append_right _ (List.mem_append_right _ (List.mem_append_right _ (List.mem_append_right _ (List.mem_append_right _ (List.mem_append_left _ (List.mem_of_getElem? (i := 190) rfl))))))) rfl, av_init.2.2.2.2.2.2.2.2.2.1, by decide +kernel, by decide +kernel⟩
set_option maxRecDepth 100000 in
theorem hX8_put : av_me mX8_put := ⟨av_in (w := Cond.code yX8_put prog_10_method_54_code 11 none) (List.mem_append_right _ (List.mem_append_right _ (List.mem_append_right _ (List.mem_append_right _ (List.mem_append_right _ (List.mem_append_left _ (List.mem_of_getElem? (i := 198) rfl))))))) rfl, av_init.2.2.2.2.2.2.2.2.2.1, by decide +kernel, by decide +kernel⟩
set_option maxRecDepth 100000 in
theorem hX8_order : av_me mX8_order := ⟨av_in (w := Cond.code yX8_order prog_10_method_55_code 12 (some .int)) (List.mem_append_right _ (List.mem_append_right _ (List.mem_append_right _ (List.mem_append_right _ (List.mem_append_right _ (List.mem_append_left _ (List.mem_of_getElem? (i := 202) rfl))))))) rfl, av_init.2.2.2.2.2.2.2.2.2.1, by decide +kernel, by decide +kernel⟩
set_option maxRecDepth 100000 in
theorem hX8_layVertices : av_me mX8_layVertices := ⟨av_in (w := Cond.code yX8_layVertices prog_10_method_56_code 16 none) (List.mem_append_right _ (List.mem_append_right _ (List.mem_append_right _ (List.mem_append_right _ (List.mem_append_right _ (List.mem_append_left _ (List.mem_of_getElem? (i := 182) rfl))))))) rfl, av_init.2.2.2.2.2.2.2.2.2.1, by decide +kernel, by decide +kernel⟩
set_option maxRecDepth 100000 in
theorem hX8_goesOn : av_me mX8_goesOn := ⟨av_in (w := Cond.code yX8_goesOn prog_10_method_57_code 10 (some .boolean)) (List.mem_append_right _ (List.mem_append_right _ (List.mem_append_right _ (List.mem_append_right _ (List.mem_append_right _ (List.mem_append_left _ (List.mem_of_getElem? (i := 206) rfl))))))) rfl, av_init.2.2.2.2.2.2.2.2.2.1, by decide +kernel, by decide +kernel⟩
set_option maxRecDepth 100000 in
theorem hX8_isSound : av_me mX8_isSound := ⟨av_in (w := Cond.code yX8_isSound prog_10_method_58_code 11 (some .boolean)) (List.mem_append_right _ (List.mem_append_right _ (List.mem_append_right _ (List.mem_append_right _ (List.mem_append_right _ (List.mem_append_left _ (List.mem_of_getElem? (i := 178) rfl))))))) rfl, av_init.2.2.2.2.2.2.2.2.2.1, by decide +kernel, by decide +kernel⟩
set_option maxRecDepth 100000 in
theorem hX8_sound : av_me mX8_sound := ⟨av_in (w := Cond.code yX8_sound prog_10_method_59_code 1 (some .int)) (List.mem_append_right _ (List.mem_append_right _ (List.mem_append_right _ (List.mem_append_right _ (List.mem_append_right _ (List.mem_append_left _ (List.mem_of_getElem? (i := 170) rfl))))))) rfl, av_init.2.2.2.2.2.2.2.2.2.1, by decide +kernel, by decide +kernel⟩
set_option maxRecDepth 100000 in
theorem hX8_vertices : av_me mX8_vertices := ⟨av_in (w := Cond.code yX8_vertices prog_10_method_60_code 1 (some .int)) (List.mem_append_right _ (List.mem_append_right _ (List.mem_append_right _ (List.mem_append_right _ (List.mem_append_right _ (List.mem_append_left _ (List.mem_of_getElem? (i := 210) rfl))))))) rfl, av_init.2.2.2.2.2.2.2.2.2.1, by decide +kernel, by decide +kernel⟩
set_option maxRecDepth 100000 in
theorem hX8_vertex : av_me mX8_vertex := ⟨av_in (w := Cond.code yX8_vertex prog_10_method_61_code 4 (some .long)) (List.mem_append_right _ (List.mem_append_right _ (List.mem_append_right _ (List.mem_append_right _ (List.mem_append_right _ (List.mem_append_left _ (List.mem_of_getElem? (i := 214) rfl))))))) rfl, av_init.2.2.2.2.2.2.2.2.2.1, by decide +kernel, by decide +kernel⟩
set_option maxRecDepth 100000 in
theorem hX8_tightAt : av_me mX8_tightAt := ⟨av_in (w := Cond.code yX8_tightAt prog_10_method_62_code 5 (some .int)) (List.mem_append_right _ (List.mem_append_right _ (List.mem_append_right _ (List.mem_append_right _ (List.mem_append_right _ (List.mem_append_left _ (List.mem_of_getElem? (i := 227) rfl))))))) rfl, av_init.2.2.2.2.2.2.2.2.2.1, by decide +kernel, by decide +kernel⟩
set_option maxRecDepth 100000 in
theorem hX8_tight : av_me mX8_tight := ⟨av_in (w := Cond.code yX8_tight prog_10_method_63_code 2 (some .int)) (List.mem_append_right _ (List.mem_append_right _ (List.mem_append_right _ (List.mem_append_right _ (List.mem_append_right _ (List.mem_append_left _ (List.mem_of_getElem? (i := 223) rfl))))))) rfl, av_init.2.2.2.2.2.2.2.2.2.1, by decide +kernel, by decide +kernel⟩
set_option maxRecDepth 100000 in
theorem hX8_hasTwo : av_me mX8_hasTwo := ⟨av_in (w := Cond.code yX8_hasTwo prog_10_method_64_code 5 (some .boolean)) (List.mem_append_right _ (List.mem_append_right _ (List.mem_append_right _ (List.mem_append_right _ (List.mem_append_right _ (List.mem_append_left _ (List.mem_of_getElem? (i := 235) rfl))))))) rfl, av_init.2.2.2.2.2.2.2.2.2.1, by decide +kernel, by decide +kernel⟩
set_option maxRecDepth 100000 in
theorem hX8_rims : av_me mX8_rims := ⟨av_in (w := Cond.code yX8_rims prog_10_method_65_code 8 (some .int)) (List.mem_append_right _ (List.mem_append_right _ (List.mem_append_right _ (List.mem_append_right _ (List.mem_append_right _ (List.mem_append_left _ (List.mem_of_getElem? (i := 231) rfl))))))) rfl, av_init.2.2.2.2.2.2.2.2.2.1, by decide +kernel, by decide +kernel⟩
set_option maxRecDepth 100000 in
theorem hX8_keep : av_me mX8_keep := ⟨av_in (w := Cond.code yX8_keep prog_10_method_66_code 2 none) (List.mem_append_right _ (List.mem_append_right _ (List.mem_append_right _ (List.mem_append_right _ (List.mem_append_right _ (List.mem_append_right _ (List.mem_of_getElem? (i := 7) rfl))))))) rfl, av_init.2.2.2.2.2.2.2.2.2.1, by decide +kernel, by decide +kernel⟩
set_option maxRecDepth 100000 in
theorem hX8_areKept : av_me mX8_areKept := ⟨av_in (w := Cond.code yX8_areKept prog_10_method_67_code 3 (some .boolean)) (List.mem_append_right _ (List.mem_append_right _ (List.mem_append_right _ (List.mem_append_right _ (List.mem_append_right _ (List.mem_append_right _ (List.mem_of_getElem? (i := 11) rfl))))))) rfl, av_init.2.2.2.2.2.2.2.2.2.1, by decide +kernel, by decide +kernel⟩
set_option maxRecDepth 100000 in
theorem hX8_isIdle : av_me mX8_isIdle := ⟨av_in (w := Cond.code yX8_isIdle prog_10_method_68_code 3 (some .boolean)) (List.mem_append_right _ (List.mem_append_right _ (List.mem_append_right _ (List.mem_append_right _ (List.mem_append_right _ (List.mem_append_right _ (List.mem_of_getElem? (i := 3) rfl))))))) rfl, av_init.2.2.2.2.2.2.2.2.2.1, by decide +kernel, by decide +kernel⟩
set_option maxRecDepth 100000 in
theorem hX8_idle : av_me mX8_idle := ⟨av_in (w := Cond.code yX8_idle prog_10_method_69_code 2 (some .int)) (List.mem_append_right _ (List.mem_append_right _ (List.mem_append_right _ (List.mem_append_right _ (List.mem_append_right _ (List.mem_append_left _ (List.mem_of_getElem? (i := 239) rfl))))))) rfl, av_init.2.2.2.2.2.2.2.2.2.1, by decide +kernel, by decide +kernel⟩
set_option maxRecDepth 100000 in
theorem hX8_layShadow : av_me mX8_layShadow := ⟨av_in (w := Cond.code yX8_layShadow prog_10_method_70_code 3 (some .boolean)) (List.mem_append_right _ (List.mem_append_right _ (List.mem_append_right _ (List.mem_append_right _ (List.mem_append_right _ (List.mem_append_right _ (List.mem_of_getElem? (i := 19) rfl))))))) rfl, av_init.2.2.2.2.2.2.2.2.2.1, by decide +kernel, by decide +kernel⟩
set_option maxRecDepth 100000 in
theorem hX8_shadow : av_me mX8_shadow := ⟨av_in (w := Cond.code yX8_shadow prog_10_method_71_code 1 (some .int)) (List.mem_append_right _ (List.mem_append_right _ (List.mem_append_right _ (List.mem_append_right _ (List.mem_append_right _ (List.mem_append_right _ (List.mem_of_getElem? (i := 15) rfl))))))) rfl, av_init.2.2.2.2.2.2.2.2.2.1, by decide +kernel, by decide +kernel⟩
set_option maxRecDepth 100000 in
theorem hX8_shadowAt : av_me mX8_shadowAt := ⟨av_in (w := Cond.code yX8_shadowAt prog_10_method_72_code 4 (some .long)) (List.mem_append_right _ (List.mem_append_right _ (List.mem_append_right _ (List.mem_append_right _ (List.mem_append_right _ (List.mem_append_right _ (List.mem_of_getElem? (i := 23) rfl))))))) rfl, av_init.2.2.2.2.2.2.2.2.2.1, by decide +kernel, by decide +kernel⟩
set_option maxRecDepth 100000 in
theorem hX8_isSeen : av_me mX8_isSeen := ⟨av_in (w := Cond.code yX8_isSeen prog_10_method_73_code 3 (some .boolean)) (List.mem_append_right _ (List.mem_append_right _ (List.mem_append_right _ (List.mem_append_right _ (List.mem_append_right _ (List.mem_append_right _ (List.mem_of_getElem? (i := 32) rfl))))))) rfl, av_init.2.2.2.2.2.2.2.2.2.1, by decide +kernel, by decide +kernel⟩
set_option maxRecDepth 100000 in
theorem hX8_seen : av_me mX8_seen := ⟨av_in (w := Cond.code yX8_seen prog_10_method_74_code 1 (some .int)) (List.mem_append_right _ (List.mem_append_right _ (List.mem_append_right _ (List.mem_append_right _ (List.mem_append_right _ (List.mem_append_right _ (List.mem_of_getElem? (i := 28) rfl))))))) rfl, av_init.2.2.2.2.2.2.2.2.2.1, by decide +kernel, by decide +kernel⟩
set_option maxRecDepth 100000 in
theorem hX8_isOutside : av_me mX8_isOutside := ⟨av_in (w := Cond.code yX8_isOutside prog_10_method_75_code 6 (some .boolean)) (List.mem_append_right _ (List.mem_append_right _ (List.mem_append_right _ (List.mem_append_right _ (List.mem_append_right _ (List.mem_append_right _ (List.mem_of_getElem? (i := 40) rfl))))))) rfl, av_init.2.2.2.2.2.2.2.2.2.1, by decide +kernel, by decide +kernel⟩
set_option maxRecDepth 100000 in
theorem hX8_missed : av_me mX8_missed := ⟨av_in (w := Cond.code yX8_missed prog_10_method_76_code 3 (some .int)) (List.mem_append_right _ (List.mem_append_right _ (List.mem_append_right _ (List.mem_append_right _ (List.mem_append_right _ (List.mem_append_right _ (List.mem_of_getElem? (i := 36) rfl))))))) rfl, av_init.2.2.2.2.2.2.2.2.2.1, by decide +kernel, by decide +kernel⟩
set_option maxRecDepth 100000 in
theorem hX8_beyond : av_me mX8_beyond := ⟨av_in (w := Cond.code yX8_beyond prog_10_method_77_code 3 (some .int)) (List.mem_append_right _ (List.mem_append_right _ (List.mem_append_right _ (List.mem_append_right _ (List.mem_append_right _ (List.mem_append_right _ (List.mem_of_getElem? (i := 44) rfl))))))) rfl, av_init.2.2.2.2.2.2.2.2.2.1, by decide +kernel, by decide +kernel⟩
set_option maxRecDepth 100000 in
theorem hX8_bits : av_me mX8_bits := ⟨av_in (w := Cond.code yX8_bits prog_10_method_78_code 3 (some .int)) (List.mem_append_right _ (List.mem_append_right _ (List.mem_append_right _ (List.mem_append_right _ (List.mem_append_right _ (List.mem_append_right _ (List.mem_of_getElem? (i := 55) rfl))))))) rfl, av_init.2.2.2.2.2.2.2.2.2.1, by decide +kernel, by decide +kernel⟩
set_option maxRecDepth 100000 in
theorem hX8_isFirst : av_me mX8_isFirst := ⟨av_in (w := Cond.code yX8_isFirst prog_10_method_79_code 3 (some .boolean)) (List.mem_append_right _ (List.mem_append_right _ (List.mem_append_right _ (List.mem_append_right _ (List.mem_append_right _ (List.mem_append_right _ (List.mem_of_getElem? (i := 58) rfl))))))) rfl, av_init.2.2.2.2.2.2.2.2.2.1, by decide +kernel, by decide +kernel⟩
set_option maxRecDepth 100000 in
theorem hX8_layFewest : av_me mX8_layFewest := ⟨av_in (w := Cond.code yX8_layFewest prog_10_method_80_code 4 none) (List.mem_append_right _ (List.mem_append_right _ (List.mem_append_right _ (List.mem_append_right _ (List.mem_append_right _ (List.mem_append_right _ (List.mem_of_getElem? (i := 52) rfl))))))) rfl, av_init.2.2.2.2.2.2.2.2.2.1, by decide +kernel, by decide +kernel⟩
set_option maxRecDepth 100000 in
theorem hX8_fewest : av_me mX8_fewest := ⟨av_in (w := Cond.code yX8_fewest prog_10_method_81_code 1 (some .int)) (List.mem_append_right _ (List.mem_append_right _ (List.mem_append_right _ (List.mem_append_right _ (List.mem_append_right _ (List.mem_append_right _ (List.mem_of_getElem? (i := 48) rfl))))))) rfl, av_init.2.2.2.2.2.2.2.2.2.1, by decide +kernel, by decide +kernel⟩
set_option maxRecDepth 100000 in
theorem hX8_needed : av_me mX8_needed := ⟨av_in (w := Cond.code yX8_needed prog_10_method_82_code 4 (some .int)) (List.mem_append_right _ (List.mem_append_right _ (List.mem_append_right _ (List.mem_append_right _ (List.mem_append_right _ (List.mem_append_right _ (List.mem_of_getElem? (i := 62) rfl))))))) rfl, av_init.2.2.2.2.2.2.2.2.2.1, by decide +kernel, by decide +kernel⟩
set_option maxRecDepth 100000 in
theorem hX8_high : av_me mX8_high := ⟨av_in (w := Cond.code yX8_high prog_10_method_83_code 2 (some .int)) (List.mem_append_right _ (List.mem_append_right _ (List.mem_append_right _ (List.mem_append_right _ (List.mem_append_right _ (List.mem_append_right _ (List.mem_of_getElem? (i := 66) rfl))))))) rfl, av_init.2.2.2.2.2.2.2.2.2.1, by decide +kernel, by decide +kernel⟩
set_option maxRecDepth 100000 in
theorem hX8_isAbove : av_me mX8_isAbove := ⟨av_in (w := Cond.code yX8_isAbove prog_10_method_84_code 21 (some .boolean)) (List.mem_append_right _ (List.mem_append_right _ (List.mem_append_right _ (List.mem_append_right _ (List.mem_append_right _ (List.mem_append_right _ (List.mem_of_getElem? (i := 73) rfl))))))) rfl, av_init.2.2.2.2.2.2.2.2.2.1, by decide +kernel, by decide +kernel⟩
set_option maxRecDepth 100000 in
theorem hX8_blow : av_me mX8_blow := ⟨av_in (w := Cond.code yX8_blow prog_10_method_85_code 18 (some .long)) (List.mem_append_right _ (List.mem_append_right _ (List.mem_append_right _ (List.mem_append_right _ (List.mem_append_right _ (List.mem_append_right _ (List.mem_of_getElem? (i := 70) rfl))))))) rfl, av_init.2.2.2.2.2.2.2.2.2.1, by decide +kernel, by decide +kernel⟩
set_option maxRecDepth 100000 in
theorem hX8_most : av_me mX8_most := ⟨av_in (w := Cond.code yX8_most prog_10_method_86_code 6 (some .int)) (List.mem_append_right _ (List.mem_append_right _ (List.mem_append_right _ (List.mem_append_right _ (List.mem_append_right _ (List.mem_append_right _ (List.mem_of_getElem? (i := 77) rfl))))))) rfl, av_init.2.2.2.2.2.2.2.2.2.1, by decide +kernel, by decide +kernel⟩
set_option maxRecDepth 100000 in
theorem hX8_mayAsk : av_me mX8_mayAsk := ⟨av_in (w := Cond.code yX8_mayAsk prog_10_method_87_code 4 (some .int)) (List.mem_append_right _ (List.mem_append_right _ (List.mem_append_right _ (List.mem_append_right _ (List.mem_append_right _ (List.mem_append_right _ (List.mem_of_getElem? (i := 85) rfl))))))) rfl, av_init.2.2.2.2.2.2.2.2.2.1, by decide +kernel, by decide +kernel⟩
set_option maxRecDepth 100000 in
theorem hX8_bestVertex : av_me mX8_bestVertex := ⟨av_in (w := Cond.code yX8_bestVertex prog_10_method_88_code 10 (some .int)) (List.mem_append_right _ (List.mem_append_right _ (List.mem_append_right _ (List.mem_append_right _ (List.mem_append_right _ (List.mem_append_right _ (List.mem_of_getElem? (i := 89) rfl))))))) rfl, av_init.2.2.2.2.2.2.2.2.2.1, by decide +kernel, by decide +kernel⟩
set_option maxRecDepth 100000 in
theorem hX8_mostOf : av_me mX8_mostOf := ⟨av_in (w := Cond.code yX8_mostOf prog_10_method_89_code 7 (some .long)) (List.mem_append_right _ (List.mem_append_right _ (List.mem_append_right _ (List.mem_append_right _ (List.mem_append_right _ (List.mem_append_right _ (List.mem_of_getElem? (i := 81) rfl))))))) rfl, av_init.2.2.2.2.2.2.2.2.2.1, by decide +kernel, by decide +kernel⟩
set_option maxRecDepth 100000 in
theorem hX8_at : av_me mX8_at := ⟨av_in (w := Cond.code yX8_at prog_10_method_90_code 5 (some .int)) (List.mem_append_right _ (List.mem_append_right _ (List.mem_append_right _ (List.mem_append_right _ (List.mem_append_right _ (List.mem_append_right _ (List.mem_of_getElem? (i := 93) rfl))))))) rfl, av_init.2.2.2.2.2.2.2.2.2.1, by decide +kernel, by decide +kernel⟩
set_option maxRecDepth 100000 in
theorem hX8_count : av_me mX8_count := ⟨av_in (w := Cond.code yX8_count prog_10_method_91_code 2 (some .int)) (List.mem_append_right _ (List.mem_append_right _ (List.mem_append_right _ (List.mem_append_right _ (List.mem_append_right _ (List.mem_append_right _ (List.mem_of_getElem? (i := 97) rfl))))))) rfl, av_init.2.2.2.2.2.2.2.2.2.1, by decide +kernel, by decide +kernel⟩
set_option maxRecDepth 100000 in
theorem hJ6_bitCount_0f7a4 : av_me mJ6_bitCount_0f7a4 := ⟨av_in (w := Cond.code yJ6_bitCount_0f7a4 prog_11_method_49_code 1 (some .int)) (List.mem_append_right _ (List.mem_append_right _ (List.mem_append_left _ (List.mem_of_getElem? (i := 237) rfl)))) rfl, av_init.2.2.2.2.2.2.2.2.2.2.2.2, by decide +kernel, by decide +kernel⟩
set_option maxRecDepth 100000 in
theorem hJ13_compare_74951 : av_me mJ13_compare_74951 := ⟨av_in (w := Cond.code yJ13_compare_74951 prog_12_method_42_code 4 (some .int)) (List.mem_append_right _ (List.mem_append_right _ (List.mem_append_left _ (List.mem_of_getElem? (i := 14) rfl)))) rfl, av_init.2.2.2.2.2.2.2.2.2.2.1, by decide +kernel, by decide +kernel⟩
set_option maxRecDepth 100000 in
theorem hJ9abs : Cond.code Lib.MathLoose.abs_long.x Lib.MathLoose.abs_long.code 2 (some .long) ∈ av_WT := av_in (List.mem_append_right _ (List.mem_append_right _ (List.mem_append_left _ (List.mem_of_getElem? (i := 94) rfl)))) rfl
set_option maxRecDepth 100000 in
theorem hJ9max : Cond.code Lib.Math.max.name Lib.Math.max.code 2 (some .int) ∈ av_WT := av_in (List.mem_append_right _ (List.mem_append_right _ (List.mem_append_left _ (List.mem_of_getElem? (i := 151) rfl)))) rfl
set_option maxRecDepth 100000 in
theorem hJ9min : Cond.code Lib.Math.min.name Lib.Math.min.code 2 (some .int) ∈ av_WT := av_in (List.mem_append_right _ (List.mem_append_right _ (List.mem_append_left _ (List.mem_of_getElem? (i := 175) rfl)))) rfl
theorem u0_in : ∀ w ∈ u_ws RX0 TX0 6, w ∈ av_WT := by
  intro w hw
  refine av_in ?_ ?_
  · revert w; decide +kernel
  · revert w; decide +kernel
theorem u1_in : ∀ w ∈ u_ws RX1 TX1 3, w ∈ av_WT := by
  intro w hw
  refine av_in ?_ ?_
  · revert w; decide +kernel
  · revert w; decide +kernel
theorem u2_in : ∀ w ∈ u_ws RX2 TX2 4, w ∈ av_WT := by
  intro w hw
  refine av_in ?_ ?_
  · revert w; decide +kernel
  · revert w; decide +kernel
theorem u3_in : ∀ w ∈ u_ws RX3 TX3 10, w ∈ av_WT := by
  intro w hw
  refine av_in ?_ ?_
  · revert w; decide +kernel
  · revert w; decide +kernel
theorem u4_in : ∀ w ∈ u_ws RX4 TX4 6, w ∈ av_WT := by
  intro w hw
  refine av_in ?_ ?_
  · revert w; decide +kernel
  · revert w; decide +kernel
theorem u5_in : ∀ w ∈ u_ws RX5 TX5 4, w ∈ av_WT := by
  intro w hw
  refine av_in ?_ ?_
  · revert w; decide +kernel
  · revert w; decide +kernel
theorem u6_in : ∀ w ∈ u_ws RX6 TX6 6, w ∈ av_WT := by
  intro w hw
  refine av_in ?_ ?_
  · revert w; decide +kernel
  · revert w; decide +kernel
theorem u7_in : ∀ w ∈ u_ws RX7 TX7 4, w ∈ av_WT := by
  intro w hw
  refine av_in ?_ ?_
  · revert w; decide +kernel
  · revert w; decide +kernel
theorem u8_in : ∀ w ∈ u_ws RX8 TX8 34, w ∈ av_WT := by
  intro w hw
  refine av_in ?_ ?_
  · revert w; decide +kernel
  · revert w; decide +kernel
theorem fX4_7 : av_fl RX4 7 4 0 := ⟨RX4, TX4, 6, rfl, by decide, u4_in, Or.inl (av_in (by decide +kernel) rfl)⟩
theorem fX4_13 : av_fl RX4 13 4 1 := ⟨RX4, TX4, 6, rfl, by decide, u4_in, Or.inl (av_in (by decide +kernel) rfl)⟩
theorem fX4_16 : av_fl RX4 16 4 2 := ⟨RX4, TX4, 6, rfl, by decide, u4_in, Or.inl (av_in (by decide +kernel) rfl)⟩
theorem fX4_19 : av_fl RX4 19 4 3 := ⟨RX4, TX4, 6, rfl, by decide, u4_in, Or.inl (av_in (by decide +kernel) rfl)⟩
theorem fX4_22 : av_fl RX4 22 4 4 := ⟨RX4, TX4, 6, rfl, by decide, u4_in, Or.inl (av_in (by decide +kernel) rfl)⟩
theorem gX4_22 : av_fp RX4 22 4 4 .int := ⟨RX4, TX4, 6, tyX4, rfl, by decide, u4_in, av_in (by decide +kernel) rfl, tyX4_ok, nmX4, by decide +kernel, by decide +kernel⟩
theorem fX4_36 : av_fl RX4 36 4 5 := ⟨RX4, TX4, 6, rfl, by decide, u4_in, Or.inl (av_in (by decide +kernel) rfl)⟩
theorem gX4_36 : av_fp RX4 36 4 5 .int := ⟨RX4, TX4, 6, tyX4, rfl, by decide, u4_in, av_in (by decide +kernel) rfl, tyX4_ok, nmX4, by decide +kernel, by decide +kernel⟩
theorem fX2_9 : av_fl RX2 9 2 0 := ⟨RX2, TX2, 4, rfl, by decide, u2_in, Or.inl (av_in (by decide +kernel) rfl)⟩
theorem fX2_15 : av_fl RX2 15 2 1 := ⟨RX2, TX2, 4, rfl, by decide, u2_in, Or.inl (av_in (by decide +kernel) rfl)⟩
theorem fX2_23 : av_fl RX2 23 2 2 := ⟨RX2, TX2, 4, rfl, by decide, u2_in, Or.inl (av_in (by decide +kernel) rfl)⟩
theorem fX2_27 : av_fl RX2 27 2 3 := ⟨RX2, TX2, 4, rfl, by decide, u2_in, Or.inl (av_in (by decide +kernel) rfl)⟩
theorem gX2_27 : av_fp RX2 27 2 3 .int := ⟨RX2, TX2, 4, tyX2, rfl, by decide, u2_in, av_in (by decide +kernel) rfl, tyX2_ok, nmX2, by decide +kernel, by decide +kernel⟩
theorem fX5_9 : av_fl RX5 9 5 0 := ⟨RX5, TX5, 4, rfl, by decide, u5_in, Or.inl (av_in (by decide +kernel) rfl)⟩
theorem fX5_15 : av_fl RX5 15 5 1 := ⟨RX5, TX5, 4, rfl, by decide, u5_in, Or.inl (av_in (by decide +kernel) rfl)⟩
theorem fX5_18 : av_fl RX5 18 5 2 := ⟨RX5, TX5, 4, rfl, by decide, u5_in, Or.inl (av_in (by decide +kernel) rfl)⟩
theorem gX5_18 : av_fp RX5 18 5 2 .int := ⟨RX5, TX5, 4, tyX5, rfl, by decide, u5_in, av_in (by decide +kernel) rfl, tyX5_ok, nmX5, by decide +kernel, by decide +kernel⟩
theorem fX5_22 : av_fl RX5 22 5 3 := ⟨RX5, TX5, 4, rfl, by decide, u5_in, Or.inl (av_in (by decide +kernel) rfl)⟩
theorem gX5_22 : av_fp RX5 22 5 3 .int := ⟨RX5, TX5, 4, tyX5, rfl, by decide, u5_in, av_in (by decide +kernel) rfl, tyX5_ok, nmX5, by decide +kernel, by decide +kernel⟩
theorem fX6_9 : av_fl RX6 9 6 0 := ⟨RX6, TX6, 6, rfl, by decide, u6_in, Or.inl (av_in (by decide +kernel) rfl)⟩
theorem fX3_54 : av_fl RX3 54 6 0 := ⟨RX6, TX6, 6, rfl, by decide, u6_in, Or.inr ⟨"GreaterBodies", by decide +kernel⟩⟩
theorem fX6_15 : av_fl RX6 15 6 1 := ⟨RX6, TX6, 6, rfl, by decide, u6_in, Or.inl (av_in (by decide +kernel) rfl)⟩
theorem fX3_57 : av_fl RX3 57 6 1 := ⟨RX6, TX6, 6, rfl, by decide, u6_in, Or.inr ⟨"GreaterBodies", by decide +kernel⟩⟩
theorem fX6_18 : av_fl RX6 18 6 2 := ⟨RX6, TX6, 6, rfl, by decide, u6_in, Or.inl (av_in (by decide +kernel) rfl)⟩
theorem fX3_60 : av_fl RX3 60 6 2 := ⟨RX6, TX6, 6, rfl, by decide, u6_in, Or.inr ⟨"GreaterBodies", by decide +kernel⟩⟩
theorem fX6_21 : av_fl RX6 21 6 3 := ⟨RX6, TX6, 6, rfl, by decide, u6_in, Or.inl (av_in (by decide +kernel) rfl)⟩
theorem fX3_67 : av_fl RX3 67 6 3 := ⟨RX6, TX6, 6, rfl, by decide, u6_in, Or.inr ⟨"GreaterBodies", by decide +kernel⟩⟩
theorem fX6_24 : av_fl RX6 24 6 4 := ⟨RX6, TX6, 6, rfl, by decide, u6_in, Or.inl (av_in (by decide +kernel) rfl)⟩
theorem gX6_24 : av_fp RX6 24 6 4 .int := ⟨RX6, TX6, 6, tyX6, rfl, by decide, u6_in, av_in (by decide +kernel) rfl, tyX6_ok, nmX6, by decide +kernel, by decide +kernel⟩
theorem fX3_43 : av_fl RX3 43 6 4 := ⟨RX6, TX6, 6, rfl, by decide, u6_in, Or.inr ⟨"GreaterBodies", by decide +kernel⟩⟩
theorem fX6_28 : av_fl RX6 28 6 5 := ⟨RX6, TX6, 6, rfl, by decide, u6_in, Or.inl (av_in (by decide +kernel) rfl)⟩
theorem gX6_28 : av_fp RX6 28 6 5 .int := ⟨RX6, TX6, 6, tyX6, rfl, by decide, u6_in, av_in (by decide +kernel) rfl, tyX6_ok, nmX6, by decide +kernel, by decide +kernel⟩
theorem fX3_9 : av_fl RX3 9 3 0 := ⟨RX3, TX3, 10, rfl, by decide, u3_in, Or.inl (av_in (by decide +kernel) rfl)⟩
theorem fX3_15 : av_fl RX3 15 3 1 := ⟨RX3, TX3, 10, rfl, by decide, u3_in, Or.inl (av_in (by decide +kernel) rfl)⟩
theorem fX3_18 : av_fl RX3 18 3 2 := ⟨RX3, TX3, 10, rfl, by decide, u3_in, Or.inl (av_in (by decide +kernel) rfl)⟩
theorem fX3_21 : av_fl RX3 21 3 3 := ⟨RX3, TX3, 10, rfl, by decide, u3_in, Or.inl (av_in (by decide +kernel) rfl)⟩
theorem fX3_24 : av_fl RX3 24 3 4 := ⟨RX3, TX3, 10, rfl, by decide, u3_in, Or.inl (av_in (by decide +kernel) rfl)⟩
theorem fX3_27 : av_fl RX3 27 3 5 := ⟨RX3, TX3, 10, rfl, by decide, u3_in, Or.inl (av_in (by decide +kernel) rfl)⟩
theorem fX3_30 : av_fl RX3 30 3 6 := ⟨RX3, TX3, 10, rfl, by decide, u3_in, Or.inl (av_in (by decide +kernel) rfl)⟩
theorem fX3_33 : av_fl RX3 33 3 7 := ⟨RX3, TX3, 10, rfl, by decide, u3_in, Or.inl (av_in (by decide +kernel) rfl)⟩
theorem fX3_36 : av_fl RX3 36 3 8 := ⟨RX3, TX3, 10, rfl, by decide, u3_in, Or.inl (av_in (by decide +kernel) rfl)⟩
theorem gX3_36 : av_fp RX3 36 3 8 .int := ⟨RX3, TX3, 10, tyX3, rfl, by decide, u3_in, av_in (by decide +kernel) rfl, tyX3_ok, nmX3, by decide +kernel, by decide +kernel⟩
theorem fX3_40 : av_fl RX3 40 3 9 := ⟨RX3, TX3, 10, rfl, by decide, u3_in, Or.inl (av_in (by decide +kernel) rfl)⟩
theorem gX3_40 : av_fp RX3 40 3 9 .int := ⟨RX3, TX3, 10, tyX3, rfl, by decide, u3_in, av_in (by decide +kernel) rfl, tyX3_ok, nmX3, by decide +kernel, by decide +kernel⟩
theorem fX0_12 : av_fl RX0 12 0 0 := ⟨RX0, TX0, 6, rfl, by decide, u0_in, Or.inl (av_in (by decide +kernel) rfl)⟩
theorem fX0_21 : av_fl RX0 21 0 1 := ⟨RX0, TX0, 6, rfl, by decide, u0_in, Or.inl (av_in (by decide +kernel) rfl)⟩
theorem fX0_25 : av_fl RX0 25 0 2 := ⟨RX0, TX0, 6, rfl, by decide, u0_in, Or.inl (av_in (by decide +kernel) rfl)⟩
theorem fX0_34 : av_fl RX0 34 0 3 := ⟨RX0, TX0, 6, rfl, by decide, u0_in, Or.inl (av_in (by decide +kernel) rfl)⟩
theorem fX0_38 : av_fl RX0 38 0 4 := ⟨RX0, TX0, 6, rfl, by decide, u0_in, Or.inl (av_in (by decide +kernel) rfl)⟩
theorem gX0_38 : av_fp RX0 38 0 4 .int := ⟨RX0, TX0, 6, tyX0, rfl, by decide, u0_in, av_in (by decide +kernel) rfl, tyX0_ok, nmX0, by decide +kernel, by decide +kernel⟩
theorem fX0_42 : av_fl RX0 42 0 5 := ⟨RX0, TX0, 6, rfl, by decide, u0_in, Or.inl (av_in (by decide +kernel) rfl)⟩
theorem gX0_42 : av_fp RX0 42 0 5 .boolean := ⟨RX0, TX0, 6, tyX0, rfl, by decide, u0_in, av_in (by decide +kernel) rfl, tyX0_ok, nmX0, by decide +kernel, by decide +kernel⟩
theorem fX1_9 : av_fl RX1 9 1 0 := ⟨RX1, TX1, 3, rfl, by decide, u1_in, Or.inl (av_in (by decide +kernel) rfl)⟩
theorem fX1_15 : av_fl RX1 15 1 1 := ⟨RX1, TX1, 3, rfl, by decide, u1_in, Or.inl (av_in (by decide +kernel) rfl)⟩
theorem gX1_15 : av_fp RX1 15 1 1 .boolean := ⟨RX1, TX1, 3, tyX1, rfl, by decide, u1_in, av_in (by decide +kernel) rfl, tyX1_ok, nmX1, by decide +kernel, by decide +kernel⟩
theorem fX1_49 : av_fl RX1 49 1 2 := ⟨RX1, TX1, 3, rfl, by decide, u1_in, Or.inl (av_in (by decide +kernel) rfl)⟩
theorem gX1_49 : av_fp RX1 49 1 2 .int := ⟨RX1, TX1, 3, tyX1, rfl, by decide, u1_in, av_in (by decide +kernel) rfl, tyX1_ok, nmX1, by decide +kernel, by decide +kernel⟩
theorem fX7_10 : av_fl RX7 10 7 0 := ⟨RX7, TX7, 4, rfl, by decide, u7_in, Or.inl (av_in (by decide +kernel) rfl)⟩
theorem fX7_19 : av_fl RX7 19 7 1 := ⟨RX7, TX7, 4, rfl, by decide, u7_in, Or.inl (av_in (by decide +kernel) rfl)⟩
theorem fX7_26 : av_fl RX7 26 7 2 := ⟨RX7, TX7, 4, rfl, by decide, u7_in, Or.inl (av_in (by decide +kernel) rfl)⟩
theorem fX7_33 : av_fl RX7 33 7 3 := ⟨RX7, TX7, 4, rfl, by decide, u7_in, Or.inl (av_in (by decide +kernel) rfl)⟩
theorem vL_13 : av_cv RL 13 mX7_point 7 2 := ⟨av_in (by decide +kernel) rfl, av_in (by decide +kernel) rfl, av_in (by decide +kernel) rfl, ⟨_, rfl, rfl⟩, by decide +kernel⟩
theorem sX7_37 : av_cs0 RX7 37 mX7_isPlace 2 := ⟨Or.inl (av_in (by decide +kernel) rfl), av_in (by decide +kernel) rfl, by decide +kernel⟩
theorem sX7_85 : av_cs0 RX7 85 mX7_isWithin 3 := ⟨Or.inl (av_in (by decide +kernel) rfl), av_in (by decide +kernel) rfl, by decide +kernel⟩
theorem kX7_41 : Cond.constant RX7 41 (-900000002) ∈ av_WT := av_in (by decide +kernel) rfl
theorem vX7_42 : av_cv RX7 42 mX2_size 2 0 := ⟨av_in (by decide +kernel) rfl, av_in (by decide +kernel) rfl, av_in (by decide +kernel) rfl, ⟨_, rfl, rfl⟩, by decide +kernel⟩
theorem kX7_46 : Cond.constant RX7 46 (-900000004) ∈ av_WT := av_in (by decide +kernel) rfl
theorem vX7_47 : av_cv RX7 47 mX1_forget 1 0 := ⟨av_in (by decide +kernel) rfl, av_in (by decide +kernel) rfl, av_in (by decide +kernel) rfl, ⟨_, rfl, rfl⟩, by decide +kernel⟩
theorem vX7_50 : av_cv RX7 50 mX2_add 2 2 := ⟨av_in (by decide +kernel) rfl, av_in (by decide +kernel) rfl, av_in (by decide +kernel) rfl, ⟨_, rfl, rfl⟩, by decide +kernel⟩
theorem vX2_35 : av_cv RX2 35 mX2_put 2 3 := ⟨av_in (by decide +kernel) rfl, av_in (by decide +kernel) rfl, av_in (by decide +kernel) rfl, ⟨_, rfl, rfl⟩, by decide +kernel⟩
theorem vX2_39 : av_cv RX2 39 mX2_draw 2 0 := ⟨av_in (by decide +kernel) rfl, av_in (by decide +kernel) rfl, av_in (by decide +kernel) rfl, ⟨_, rfl, rfl⟩, by decide +kernel⟩
theorem vX2_42 : av_cv RX2 42 mX4_empty 4 0 := ⟨av_in (by decide +kernel) rfl, av_in (by decide +kernel) rfl, av_in (by decide +kernel) rfl, ⟨_, rfl, rfl⟩, by decide +kernel⟩
theorem vX2_45 : av_cv RX2 45 mX4_add 4 3 := ⟨av_in (by decide +kernel) rfl, av_in (by decide +kernel) rfl, av_in (by decide +kernel) rfl, ⟨_, rfl, rfl⟩, by decide +kernel⟩
theorem vX4_26 : av_cv RX4 26 mX4_side 4 4 := ⟨av_in (by decide +kernel) rfl, av_in (by decide +kernel) rfl, av_in (by decide +kernel) rfl, ⟨_, rfl, rfl⟩, by decide +kernel⟩
theorem sX4_30 : av_cs0 RX4 30 mJ13_compare_74951 2 := ⟨Or.inl (av_in (by decide +kernel) rfl), av_in (by decide +kernel) rfl, by decide +kernel⟩
theorem vX2_48 : av_cv RX2 48 mX4_wrap 4 0 := ⟨av_in (by decide +kernel) rfl, av_in (by decide +kernel) rfl, av_in (by decide +kernel) rfl, ⟨_, rfl, rfl⟩, by decide +kernel⟩
theorem vX4_39 : av_cv RX4 39 mX4_extend 4 2 := ⟨av_in (by decide +kernel) rfl, av_in (by decide +kernel) rfl, av_in (by decide +kernel) rfl, ⟨_, rfl, rfl⟩, by decide +kernel⟩
theorem vX4_43 : av_cv RX4 43 mX4_turn 4 5 := ⟨av_in (by decide +kernel) rfl, av_in (by decide +kernel) rfl, av_in (by decide +kernel) rfl, ⟨_, rfl, rfl⟩, by decide +kernel⟩
theorem vL_18 : av_cv RL 18 mX7_move 7 3 := ⟨av_in (by decide +kernel) rfl, av_in (by decide +kernel) rfl, av_in (by decide +kernel) rfl, ⟨_, rfl, rfl⟩, by decide +kernel⟩
theorem kX7_54 : Cond.constant RX7 54 (-900000001) ∈ av_WT := av_in (by decide +kernel) rfl
theorem vX7_55 : av_cv RX7 55 mX2_put 2 3 := ⟨av_in (by decide +kernel) rfl, av_in (by decide +kernel) rfl, av_in (by decide +kernel) rfl, ⟨_, rfl, rfl⟩, by decide +kernel⟩
theorem vL_23 : av_cv RL 23 mX7_clear 7 0 := ⟨av_in (by decide +kernel) rfl, av_in (by decide +kernel) rfl, av_in (by decide +kernel) rfl, ⟨_, rfl, rfl⟩, by decide +kernel⟩
theorem vX7_59 : av_cv RX7 59 mX2_drop 2 0 := ⟨av_in (by decide +kernel) rfl, av_in (by decide +kernel) rfl, av_in (by decide +kernel) rfl, ⟨_, rfl, rfl⟩, by decide +kernel⟩
theorem vL_28 : av_cv RL 28 mX7_corners 7 0 := ⟨av_in (by decide +kernel) rfl, av_in (by decide +kernel) rfl, av_in (by decide +kernel) rfl, ⟨_, rfl, rfl⟩, by decide +kernel⟩
theorem vX7_62 : av_cv RX7 62 mX2_hull 2 0 := ⟨av_in (by decide +kernel) rfl, av_in (by decide +kernel) rfl, av_in (by decide +kernel) rfl, ⟨_, rfl, rfl⟩, by decide +kernel⟩
theorem vX7_66 : av_cv RX7 66 mX4_size 4 0 := ⟨av_in (by decide +kernel) rfl, av_in (by decide +kernel) rfl, av_in (by decide +kernel) rfl, ⟨_, rfl, rfl⟩, by decide +kernel⟩
theorem vL_32 : av_cv RL 32 mX7_corner 7 2 := ⟨av_in (by decide +kernel) rfl, av_in (by decide +kernel) rfl, av_in (by decide +kernel) rfl, ⟨_, rfl, rfl⟩, by decide +kernel⟩
theorem vX7_69 : av_cv RX7 69 mX4_has 4 1 := ⟨av_in (by decide +kernel) rfl, av_in (by decide +kernel) rfl, av_in (by decide +kernel) rfl, ⟨_, rfl, rfl⟩, by decide +kernel⟩
theorem vX7_73 : av_cv RX7 73 mX4_yOf 4 1 := ⟨av_in (by decide +kernel) rfl, av_in (by decide +kernel) rfl, av_in (by decide +kernel) rfl, ⟨_, rfl, rfl⟩, by decide +kernel⟩
theorem vX7_77 : av_cv RX7 77 mX4_xOf 4 1 := ⟨av_in (by decide +kernel) rfl, av_in (by decide +kernel) rfl, av_in (by decide +kernel) rfl, ⟨_, rfl, rfl⟩, by decide +kernel⟩
theorem vL_37 : av_cv RL 37 mX7_wallOf 7 2 := ⟨av_in (by decide +kernel) rfl, av_in (by decide +kernel) rfl, av_in (by decide +kernel) rfl, ⟨_, rfl, rfl⟩, by decide +kernel⟩
theorem vX7_80 : av_cv RX7 80 mX2_isFlat 2 0 := ⟨av_in (by decide +kernel) rfl, av_in (by decide +kernel) rfl, av_in (by decide +kernel) rfl, ⟨_, rfl, rfl⟩, by decide +kernel⟩
theorem vX2_31 : av_cv RX2 31 mX4_size 4 0 := ⟨av_in (by decide +kernel) rfl, av_in (by decide +kernel) rfl, av_in (by decide +kernel) rfl, ⟨_, rfl, rfl⟩, by decide +kernel⟩
theorem kX7_84 : Cond.constant RX7 84 (-900000003) ∈ av_WT := av_in (by decide +kernel) rfl
theorem vX7_89 : av_cv RX7 89 mX2_wallPart 2 2 := ⟨av_in (by decide +kernel) rfl, av_in (by decide +kernel) rfl, av_in (by decide +kernel) rfl, ⟨_, rfl, rfl⟩, by decide +kernel⟩
theorem vX2_51 : av_cv RX2 51 mX4_next 4 1 := ⟨av_in (by decide +kernel) rfl, av_in (by decide +kernel) rfl, av_in (by decide +kernel) rfl, ⟨_, rfl, rfl⟩, by decide +kernel⟩
theorem vX2_55 : av_cv RX2 55 mX4_xOf 4 1 := ⟨av_in (by decide +kernel) rfl, av_in (by decide +kernel) rfl, av_in (by decide +kernel) rfl, ⟨_, rfl, rfl⟩, by decide +kernel⟩
theorem vX2_58 : av_cv RX2 58 mX4_yOf 4 1 := ⟨av_in (by decide +kernel) rfl, av_in (by decide +kernel) rfl, av_in (by decide +kernel) rfl, ⟨_, rfl, rfl⟩, by decide +kernel⟩
theorem sX2_61 : av_cs0 RX2 61 mX7_gcd 2 := ⟨Or.inr ⟨"GreaterBodies", by decide +kernel⟩, av_in (by decide +kernel) rfl, by decide +kernel⟩
theorem sX7_240 : av_cs0 RX7 240 mJ9_abs_067f4 1 := ⟨Or.inl (av_in (by decide +kernel) rfl), av_in (by decide +kernel) rfl, by decide +kernel⟩
theorem vL_41 : av_cv RL 41 mX7_slack 7 2 := ⟨av_in (by decide +kernel) rfl, av_in (by decide +kernel) rfl, av_in (by decide +kernel) rfl, ⟨_, rfl, rfl⟩, by decide +kernel⟩
theorem vX7_92 : av_cv RX7 92 mX2_gap 2 2 := ⟨av_in (by decide +kernel) rfl, av_in (by decide +kernel) rfl, av_in (by decide +kernel) rfl, ⟨_, rfl, rfl⟩, by decide +kernel⟩
theorem vX2_65 : av_cv RX2 65 mX2_wallPart 2 2 := ⟨av_in (by decide +kernel) rfl, av_in (by decide +kernel) rfl, av_in (by decide +kernel) rfl, ⟨_, rfl, rfl⟩, by decide +kernel⟩
theorem vL_45 : av_cv RL 45 mX7_area 7 0 := ⟨av_in (by decide +kernel) rfl, av_in (by decide +kernel) rfl, av_in (by decide +kernel) rfl, ⟨_, rfl, rfl⟩, by decide +kernel⟩
theorem vX7_95 : av_cv RX7 95 mX2_twiceArea 2 0 := ⟨av_in (by decide +kernel) rfl, av_in (by decide +kernel) rfl, av_in (by decide +kernel) rfl, ⟨_, rfl, rfl⟩, by decide +kernel⟩
theorem vL_49 : av_cv RL 49 mX7_open 7 0 := ⟨av_in (by decide +kernel) rfl, av_in (by decide +kernel) rfl, av_in (by decide +kernel) rfl, ⟨_, rfl, rfl⟩, by decide +kernel⟩
theorem vX7_98 : av_cv RX7 98 mX2_openPairs 2 0 := ⟨av_in (by decide +kernel) rfl, av_in (by decide +kernel) rfl, av_in (by decide +kernel) rfl, ⟨_, rfl, rfl⟩, by decide +kernel⟩
theorem vX2_69 : av_cv RX2 69 mX2_gap 2 2 := ⟨av_in (by decide +kernel) rfl, av_in (by decide +kernel) rfl, av_in (by decide +kernel) rfl, ⟨_, rfl, rfl⟩, by decide +kernel⟩
theorem vL_53 : av_cv RL 53 mX7_cover 7 0 := ⟨av_in (by decide +kernel) rfl, av_in (by decide +kernel) rfl, av_in (by decide +kernel) rfl, ⟨_, rfl, rfl⟩, by decide +kernel⟩
theorem vX7_101 : av_cv RX7 101 mX7_isBounded 7 0 := ⟨av_in (by decide +kernel) rfl, av_in (by decide +kernel) rfl, av_in (by decide +kernel) rfl, ⟨_, rfl, rfl⟩, by decide +kernel⟩
theorem vL_57 : av_cv RL 57 mX7_fools 7 0 := ⟨av_in (by decide +kernel) rfl, av_in (by decide +kernel) rfl, av_in (by decide +kernel) rfl, ⟨_, rfl, rfl⟩, by decide +kernel⟩
theorem vL_61 : av_cv RL 61 mX7_log 7 0 := ⟨av_in (by decide +kernel) rfl, av_in (by decide +kernel) rfl, av_in (by decide +kernel) rfl, ⟨_, rfl, rfl⟩, by decide +kernel⟩
theorem vX7_111 : av_cv RX7 111 mX7_levels 7 0 := ⟨av_in (by decide +kernel) rfl, av_in (by decide +kernel) rfl, av_in (by decide +kernel) rfl, ⟨_, rfl, rfl⟩, by decide +kernel⟩
theorem vL_65 : av_cv RL 65 mX7_low 7 0 := ⟨av_in (by decide +kernel) rfl, av_in (by decide +kernel) rfl, av_in (by decide +kernel) rfl, ⟨_, rfl, rfl⟩, by decide +kernel⟩
theorem sX7_114 : av_cs0 RX7 114 mJ9_max_7cf53 2 := ⟨Or.inl (av_in (by decide +kernel) rfl), av_in (by decide +kernel) rfl, by decide +kernel⟩
theorem vL_69 : av_cv RL 69 mX7_high 7 0 := ⟨av_in (by decide +kernel) rfl, av_in (by decide +kernel) rfl, av_in (by decide +kernel) rfl, ⟨_, rfl, rfl⟩, by decide +kernel⟩
theorem vX7_119 : av_cv RX7 119 mX5_firstWrong 5 1 := ⟨av_in (by decide +kernel) rfl, av_in (by decide +kernel) rfl, av_in (by decide +kernel) rfl, ⟨_, rfl, rfl⟩, by decide +kernel⟩
theorem vX5_25 : av_cv RX5 25 mX2_hull 2 0 := ⟨av_in (by decide +kernel) rfl, av_in (by decide +kernel) rfl, av_in (by decide +kernel) rfl, ⟨_, rfl, rfl⟩, by decide +kernel⟩
theorem vX5_31 : av_cv RX5 31 mX4_size 4 0 := ⟨av_in (by decide +kernel) rfl, av_in (by decide +kernel) rfl, av_in (by decide +kernel) rfl, ⟨_, rfl, rfl⟩, by decide +kernel⟩
theorem vX5_37 : av_cv RX5 37 mX5_product 5 2 := ⟨av_in (by decide +kernel) rfl, av_in (by decide +kernel) rfl, av_in (by decide +kernel) rfl, ⟨_, rfl, rfl⟩, by decide +kernel⟩
theorem vX5_41 : av_cv RX5 41 mX2_gap 2 2 := ⟨av_in (by decide +kernel) rfl, av_in (by decide +kernel) rfl, av_in (by decide +kernel) rfl, ⟨_, rfl, rfl⟩, by decide +kernel⟩
theorem kX5_44 : Cond.constant RX5 44 (-900000009) ∈ av_WT := av_in (by decide +kernel) rfl
theorem kX7_123 : Cond.constant RX7 123 (-900000009) ∈ av_WT := av_in (by decide +kernel) rfl
theorem vX7_124 : av_cv RX7 124 mX5_inner 5 0 := ⟨av_in (by decide +kernel) rfl, av_in (by decide +kernel) rfl, av_in (by decide +kernel) rfl, ⟨_, rfl, rfl⟩, by decide +kernel⟩
theorem sX7_127 : av_cs0 RX7 127 mJ9_min_7cf53 2 := ⟨Or.inl (av_in (by decide +kernel) rfl), av_in (by decide +kernel) rfl, by decide +kernel⟩
theorem vX7_130 : av_cv RX7 130 mX1_walls 1 2 := ⟨av_in (by decide +kernel) rfl, av_in (by decide +kernel) rfl, av_in (by decide +kernel) rfl, ⟨_, rfl, rfl⟩, by decide +kernel⟩
theorem vX1_19 : av_cv RX1 19 mX2_isFlat 2 0 := ⟨av_in (by decide +kernel) rfl, av_in (by decide +kernel) rfl, av_in (by decide +kernel) rfl, ⟨_, rfl, rfl⟩, by decide +kernel⟩
theorem vX1_25 : av_cv RX1 25 mX2_hull 2 0 := ⟨av_in (by decide +kernel) rfl, av_in (by decide +kernel) rfl, av_in (by decide +kernel) rfl, ⟨_, rfl, rfl⟩, by decide +kernel⟩
theorem vX1_29 : av_cv RX1 29 mX0_meets 0 0 := ⟨av_in (by decide +kernel) rfl, av_in (by decide +kernel) rfl, av_in (by decide +kernel) rfl, ⟨_, rfl, rfl⟩, by decide +kernel⟩
theorem vX1_35 : av_cv RX1 35 mX0_walls 0 0 := ⟨av_in (by decide +kernel) rfl, av_in (by decide +kernel) rfl, av_in (by decide +kernel) rfl, ⟨_, rfl, rfl⟩, by decide +kernel⟩
theorem vX1_39 : av_cv RX1 39 mX6_onSet 6 0 := ⟨av_in (by decide +kernel) rfl, av_in (by decide +kernel) rfl, av_in (by decide +kernel) rfl, ⟨_, rfl, rfl⟩, by decide +kernel⟩
theorem vX1_45 : av_cv RX1 45 mX1_search 1 3 := ⟨av_in (by decide +kernel) rfl, av_in (by decide +kernel) rfl, av_in (by decide +kernel) rfl, ⟨_, rfl, rfl⟩, by decide +kernel⟩
theorem vX1_53 : av_cv RX1 53 mX4_size 4 0 := ⟨av_in (by decide +kernel) rfl, av_in (by decide +kernel) rfl, av_in (by decide +kernel) rfl, ⟨_, rfl, rfl⟩, by decide +kernel⟩
theorem vX1_58 : av_cv RX1 58 mX1_castAll 1 3 := ⟨av_in (by decide +kernel) rfl, av_in (by decide +kernel) rfl, av_in (by decide +kernel) rfl, ⟨_, rfl, rfl⟩, by decide +kernel⟩
theorem vX1_74 : av_cv RX1 74 mX3_size 3 0 := ⟨av_in (by decide +kernel) rfl, av_in (by decide +kernel) rfl, av_in (by decide +kernel) rfl, ⟨_, rfl, rfl⟩, by decide +kernel⟩
theorem vX1_77 : av_cv RX1 77 mX3_xOf 3 1 := ⟨av_in (by decide +kernel) rfl, av_in (by decide +kernel) rfl, av_in (by decide +kernel) rfl, ⟨_, rfl, rfl⟩, by decide +kernel⟩
theorem vX1_80 : av_cv RX1 80 mX3_yOf 3 1 := ⟨av_in (by decide +kernel) rfl, av_in (by decide +kernel) rfl, av_in (by decide +kernel) rfl, ⟨_, rfl, rfl⟩, by decide +kernel⟩
theorem vX1_83 : av_cv RX1 83 mX3_wOf 3 1 := ⟨av_in (by decide +kernel) rfl, av_in (by decide +kernel) rfl, av_in (by decide +kernel) rfl, ⟨_, rfl, rfl⟩, by decide +kernel⟩
theorem sX1_86 : av_cs0 RX1 86 mX1_cast 4 := ⟨Or.inl (av_in (by decide +kernel) rfl), av_in (by decide +kernel) rfl, by decide +kernel⟩
theorem vX1_94 : av_cv RX1 94 mX4_holds 4 3 := ⟨av_in (by decide +kernel) rfl, av_in (by decide +kernel) rfl, av_in (by decide +kernel) rfl, ⟨_, rfl, rfl⟩, by decide +kernel⟩
theorem vX4_47 : av_cv RX4 47 mX4_next 4 1 := ⟨av_in (by decide +kernel) rfl, av_in (by decide +kernel) rfl, av_in (by decide +kernel) rfl, ⟨_, rfl, rfl⟩, by decide +kernel⟩
theorem vX1_98 : av_cv RX1 98 mX4_cornerAt 4 3 := ⟨av_in (by decide +kernel) rfl, av_in (by decide +kernel) rfl, av_in (by decide +kernel) rfl, ⟨_, rfl, rfl⟩, by decide +kernel⟩
theorem vX1_90 : av_cv RX1 90 mX3_isMadeBy 3 2 := ⟨av_in (by decide +kernel) rfl, av_in (by decide +kernel) rfl, av_in (by decide +kernel) rfl, ⟨_, rfl, rfl⟩, by decide +kernel⟩
theorem sX1_61 : av_cs0 RX1 61 mJ6_bitCount_0f7a4 1 := ⟨Or.inl (av_in (by decide +kernel) rfl), av_in (by decide +kernel) rfl, by decide +kernel⟩
theorem kJ6_265 : Cond.constant RJ6 265 (1431655765) ∈ av_WT := av_in (by decide +kernel) rfl
theorem kJ6_266 : Cond.constant RJ6 266 (858993459) ∈ av_WT := av_in (by decide +kernel) rfl
theorem kJ6_267 : Cond.constant RJ6 267 (252645135) ∈ av_WT := av_in (by decide +kernel) rfl
theorem sX1_67 : av_cs0 RX1 67 mX1_mirror 1 := ⟨Or.inl (av_in (by decide +kernel) rfl), av_in (by decide +kernel) rfl, by decide +kernel⟩
theorem vX1_70 : av_cv RX1 70 mX1_shows 1 3 := ⟨av_in (by decide +kernel) rfl, av_in (by decide +kernel) rfl, av_in (by decide +kernel) rfl, ⟨_, rfl, rfl⟩, by decide +kernel⟩
theorem vX1_102 : av_cv RX1 102 mX3_isVertex 3 2 := ⟨av_in (by decide +kernel) rfl, av_in (by decide +kernel) rfl, av_in (by decide +kernel) rfl, ⟨_, rfl, rfl⟩, by decide +kernel⟩
theorem vX3_81 : av_cv RX3 81 mX3_isMadeBy 3 2 := ⟨av_in (by decide +kernel) rfl, av_in (by decide +kernel) rfl, av_in (by decide +kernel) rfl, ⟨_, rfl, rfl⟩, by decide +kernel⟩
theorem vX1_105 : av_cv RX1 105 mX3_isEndless 3 1 := ⟨av_in (by decide +kernel) rfl, av_in (by decide +kernel) rfl, av_in (by decide +kernel) rfl, ⟨_, rfl, rfl⟩, by decide +kernel⟩
theorem sX7_134 : av_cs0 RX7 134 mJ6_bitCount_0f7a4 1 := ⟨Or.inl (av_in (by decide +kernel) rfl), av_in (by decide +kernel) rfl, by decide +kernel⟩
theorem vL_73 : av_cv RL 73 mX7_factors 7 2 := ⟨av_in (by decide +kernel) rfl, av_in (by decide +kernel) rfl, av_in (by decide +kernel) rfl, ⟨_, rfl, rfl⟩, by decide +kernel⟩
theorem vX7_139 : av_cv RX7 139 mX5_resize 5 2 := ⟨av_in (by decide +kernel) rfl, av_in (by decide +kernel) rfl, av_in (by decide +kernel) rfl, ⟨_, rfl, rfl⟩, by decide +kernel⟩
theorem vL_77 : av_cv RL 77 mX7_entry 7 4 := ⟨av_in (by decide +kernel) rfl, av_in (by decide +kernel) rfl, av_in (by decide +kernel) rfl, ⟨_, rfl, rfl⟩, by decide +kernel⟩
theorem vX7_142 : av_cv RX7 142 mX5_put 5 3 := ⟨av_in (by decide +kernel) rfl, av_in (by decide +kernel) rfl, av_in (by decide +kernel) rfl, ⟨_, rfl, rfl⟩, by decide +kernel⟩
theorem vL_82 : av_cv RL 82 mX7_hold 7 0 := ⟨av_in (by decide +kernel) rfl, av_in (by decide +kernel) rfl, av_in (by decide +kernel) rfl, ⟨_, rfl, rfl⟩, by decide +kernel⟩
theorem vL_86 : av_cv RL 86 mX7_wrong 7 0 := ⟨av_in (by decide +kernel) rfl, av_in (by decide +kernel) rfl, av_in (by decide +kernel) rfl, ⟨_, rfl, rfl⟩, by decide +kernel⟩
theorem vL_90 : av_cv RL 90 mX7_wall 7 4 := ⟨av_in (by decide +kernel) rfl, av_in (by decide +kernel) rfl, av_in (by decide +kernel) rfl, ⟨_, rfl, rfl⟩, by decide +kernel⟩
theorem sX7_145 : av_cs0 RX7 145 mX7_isStep 1 := ⟨Or.inl (av_in (by decide +kernel) rfl), av_in (by decide +kernel) rfl, by decide +kernel⟩
theorem sX7_148 : av_cs0 RX7 148 mX7_isFar 1 := ⟨Or.inl (av_in (by decide +kernel) rfl), av_in (by decide +kernel) rfl, by decide +kernel⟩
theorem vX7_151 : av_cv RX7 151 mX0_walls 0 0 := ⟨av_in (by decide +kernel) rfl, av_in (by decide +kernel) rfl, av_in (by decide +kernel) rfl, ⟨_, rfl, rfl⟩, by decide +kernel⟩
theorem vX7_154 : av_cv RX7 154 mX6_size 6 0 := ⟨av_in (by decide +kernel) rfl, av_in (by decide +kernel) rfl, av_in (by decide +kernel) rfl, ⟨_, rfl, rfl⟩, by decide +kernel⟩
theorem vX7_157 : av_cv RX7 157 mX0_build 0 4 := ⟨av_in (by decide +kernel) rfl, av_in (by decide +kernel) rfl, av_in (by decide +kernel) rfl, ⟨_, rfl, rfl⟩, by decide +kernel⟩
theorem vX0_46 : av_cv RX0 46 mX6_add 6 4 := ⟨av_in (by decide +kernel) rfl, av_in (by decide +kernel) rfl, av_in (by decide +kernel) rfl, ⟨_, rfl, rfl⟩, by decide +kernel⟩
theorem vX6_35 : av_cv RX6 35 mX6_turn 6 2 := ⟨av_in (by decide +kernel) rfl, av_in (by decide +kernel) rfl, av_in (by decide +kernel) rfl, ⟨_, rfl, rfl⟩, by decide +kernel⟩
theorem vX6_31 : av_cv RX6 31 mX6_isOn 6 1 := ⟨av_in (by decide +kernel) rfl, av_in (by decide +kernel) rfl, av_in (by decide +kernel) rfl, ⟨_, rfl, rfl⟩, by decide +kernel⟩
theorem vX0_50 : av_cv RX0 50 mX3_find 3 1 := ⟨av_in (by decide +kernel) rfl, av_in (by decide +kernel) rfl, av_in (by decide +kernel) rfl, ⟨_, rfl, rfl⟩, by decide +kernel⟩
theorem vX3_46 : av_cv RX3 46 mX3_addRays 3 3 := ⟨av_in (by decide +kernel) rfl, av_in (by decide +kernel) rfl, av_in (by decide +kernel) rfl, ⟨_, rfl, rfl⟩, by decide +kernel⟩
theorem vX3_78 : av_cv RX3 78 mX3_addRay 3 4 := ⟨av_in (by decide +kernel) rfl, av_in (by decide +kernel) rfl, av_in (by decide +kernel) rfl, ⟨_, rfl, rfl⟩, by decide +kernel⟩
theorem vX3_74 : av_cv RX3 74 mX6_excess 6 5 := ⟨av_in (by decide +kernel) rfl, av_in (by decide +kernel) rfl, av_in (by decide +kernel) rfl, ⟨_, rfl, rfl⟩, by decide +kernel⟩
theorem vX3_50 : av_cv RX3 50 mX3_addMeet 3 4 := ⟨av_in (by decide +kernel) rfl, av_in (by decide +kernel) rfl, av_in (by decide +kernel) rfl, ⟨_, rfl, rfl⟩, by decide +kernel⟩
theorem sX3_63 : av_cs0 RX3 63 mX3_volume 6 := ⟨Or.inl (av_in (by decide +kernel) rfl), av_in (by decide +kernel) rfl, by decide +kernel⟩
theorem vX3_70 : av_cv RX3 70 mX3_mark 3 1 := ⟨av_in (by decide +kernel) rfl, av_in (by decide +kernel) rfl, av_in (by decide +kernel) rfl, ⟨_, rfl, rfl⟩, by decide +kernel⟩
theorem vX0_54 : av_cv RX0 54 mX0_carve 0 0 := ⟨av_in (by decide +kernel) rfl, av_in (by decide +kernel) rfl, av_in (by decide +kernel) rfl, ⟨_, rfl, rfl⟩, by decide +kernel⟩
theorem vX0_65 : av_cv RX0 65 mX3_size 3 0 := ⟨av_in (by decide +kernel) rfl, av_in (by decide +kernel) rfl, av_in (by decide +kernel) rfl, ⟨_, rfl, rfl⟩, by decide +kernel⟩
theorem vX0_68 : av_cv RX0 68 mX6_onSet 6 0 := ⟨av_in (by decide +kernel) rfl, av_in (by decide +kernel) rfl, av_in (by decide +kernel) rfl, ⟨_, rfl, rfl⟩, by decide +kernel⟩
theorem vX0_71 : av_cv RX0 71 mX3_isVertex 3 2 := ⟨av_in (by decide +kernel) rfl, av_in (by decide +kernel) rfl, av_in (by decide +kernel) rfl, ⟨_, rfl, rfl⟩, by decide +kernel⟩
theorem vX0_75 : av_cv RX0 75 mX0_addVertex 0 1 := ⟨av_in (by decide +kernel) rfl, av_in (by decide +kernel) rfl, av_in (by decide +kernel) rfl, ⟨_, rfl, rfl⟩, by decide +kernel⟩
theorem vX0_101 : av_cv RX0 101 mX3_order 3 2 := ⟨av_in (by decide +kernel) rfl, av_in (by decide +kernel) rfl, av_in (by decide +kernel) rfl, ⟨_, rfl, rfl⟩, by decide +kernel⟩
theorem sX3_85 : av_cs0 RX3 85 mJ13_compare_74951 2 := ⟨Or.inl (av_in (by decide +kernel) rfl), av_in (by decide +kernel) rfl, by decide +kernel⟩
theorem vX0_78 : av_cv RX0 78 mX3_isEndless 3 1 := ⟨av_in (by decide +kernel) rfl, av_in (by decide +kernel) rfl, av_in (by decide +kernel) rfl, ⟨_, rfl, rfl⟩, by decide +kernel⟩
theorem vX0_82 : av_cv RX0 82 mX4_empty 4 0 := ⟨av_in (by decide +kernel) rfl, av_in (by decide +kernel) rfl, av_in (by decide +kernel) rfl, ⟨_, rfl, rfl⟩, by decide +kernel⟩
theorem vX0_85 : av_cv RX0 85 mX3_xOf 3 1 := ⟨av_in (by decide +kernel) rfl, av_in (by decide +kernel) rfl, av_in (by decide +kernel) rfl, ⟨_, rfl, rfl⟩, by decide +kernel⟩
theorem vX0_89 : av_cv RX0 89 mX3_yOf 3 1 := ⟨av_in (by decide +kernel) rfl, av_in (by decide +kernel) rfl, av_in (by decide +kernel) rfl, ⟨_, rfl, rfl⟩, by decide +kernel⟩
theorem vX0_92 : av_cv RX0 92 mX3_wOf 3 1 := ⟨av_in (by decide +kernel) rfl, av_in (by decide +kernel) rfl, av_in (by decide +kernel) rfl, ⟨_, rfl, rfl⟩, by decide +kernel⟩
theorem vX0_95 : av_cv RX0 95 mX4_add 4 3 := ⟨av_in (by decide +kernel) rfl, av_in (by decide +kernel) rfl, av_in (by decide +kernel) rfl, ⟨_, rfl, rfl⟩, by decide +kernel⟩
theorem vX0_98 : av_cv RX0 98 mX4_wrap 4 0 := ⟨av_in (by decide +kernel) rfl, av_in (by decide +kernel) rfl, av_in (by decide +kernel) rfl, ⟨_, rfl, rfl⟩, by decide +kernel⟩
theorem vL_95 : av_cv RL 95 mX7_shift 7 2 := ⟨av_in (by decide +kernel) rfl, av_in (by decide +kernel) rfl, av_in (by decide +kernel) rfl, ⟨_, rfl, rfl⟩, by decide +kernel⟩
theorem vX7_161 : av_cv RX7 161 mX6_has 6 1 := ⟨av_in (by decide +kernel) rfl, av_in (by decide +kernel) rfl, av_in (by decide +kernel) rfl, ⟨_, rfl, rfl⟩, by decide +kernel⟩
theorem vX7_162 : av_cv RX7 162 mX0_push 0 2 := ⟨av_in (by decide +kernel) rfl, av_in (by decide +kernel) rfl, av_in (by decide +kernel) rfl, ⟨_, rfl, rfl⟩, by decide +kernel⟩
theorem vX0_57 : av_cv RX0 57 mX6_push 6 2 := ⟨av_in (by decide +kernel) rfl, av_in (by decide +kernel) rfl, av_in (by decide +kernel) rfl, ⟨_, rfl, rfl⟩, by decide +kernel⟩
theorem vL_99 : av_cv RL 99 mX7_on 7 2 := ⟨av_in (by decide +kernel) rfl, av_in (by decide +kernel) rfl, av_in (by decide +kernel) rfl, ⟨_, rfl, rfl⟩, by decide +kernel⟩
theorem vX7_165 : av_cv RX7 165 mX0_turn 0 2 := ⟨av_in (by decide +kernel) rfl, av_in (by decide +kernel) rfl, av_in (by decide +kernel) rfl, ⟨_, rfl, rfl⟩, by decide +kernel⟩
theorem vX0_61 : av_cv RX0 61 mX6_turn 6 2 := ⟨av_in (by decide +kernel) rfl, av_in (by decide +kernel) rfl, av_in (by decide +kernel) rfl, ⟨_, rfl, rfl⟩, by decide +kernel⟩
theorem vL_103 : av_cv RL 103 mX7_about 7 2 := ⟨av_in (by decide +kernel) rfl, av_in (by decide +kernel) rfl, av_in (by decide +kernel) rfl, ⟨_, rfl, rfl⟩, by decide +kernel⟩
theorem vX7_169 : av_cv RX7 169 mX6_part 6 2 := ⟨av_in (by decide +kernel) rfl, av_in (by decide +kernel) rfl, av_in (by decide +kernel) rfl, ⟨_, rfl, rfl⟩, by decide +kernel⟩
theorem vL_107 : av_cv RL 107 mX7_sound 7 0 := ⟨av_in (by decide +kernel) rfl, av_in (by decide +kernel) rfl, av_in (by decide +kernel) rfl, ⟨_, rfl, rfl⟩, by decide +kernel⟩
theorem vX7_172 : av_cv RX7 172 mX0_isSound 0 0 := ⟨av_in (by decide +kernel) rfl, av_in (by decide +kernel) rfl, av_in (by decide +kernel) rfl, ⟨_, rfl, rfl⟩, by decide +kernel⟩
theorem vL_111 : av_cv RL 111 mX7_vertices 7 0 := ⟨av_in (by decide +kernel) rfl, av_in (by decide +kernel) rfl, av_in (by decide +kernel) rfl, ⟨_, rfl, rfl⟩, by decide +kernel⟩
theorem vX7_175 : av_cv RX7 175 mX0_size 0 0 := ⟨av_in (by decide +kernel) rfl, av_in (by decide +kernel) rfl, av_in (by decide +kernel) rfl, ⟨_, rfl, rfl⟩, by decide +kernel⟩
theorem vL_115 : av_cv RL 115 mX7_vertex 7 3 := ⟨av_in (by decide +kernel) rfl, av_in (by decide +kernel) rfl, av_in (by decide +kernel) rfl, ⟨_, rfl, rfl⟩, by decide +kernel⟩
theorem vX7_176 : av_cv RX7 176 mX0_has 0 1 := ⟨av_in (by decide +kernel) rfl, av_in (by decide +kernel) rfl, av_in (by decide +kernel) rfl, ⟨_, rfl, rfl⟩, by decide +kernel⟩
theorem kX7_177 : Cond.constantLong RX7 177 (-900000001) ∈ av_WT := av_in (by decide +kernel) rfl
theorem vX7_179 : av_cv RX7 179 mX0_coordinate 0 3 := ⟨av_in (by decide +kernel) rfl, av_in (by decide +kernel) rfl, av_in (by decide +kernel) rfl, ⟨_, rfl, rfl⟩, by decide +kernel⟩
theorem vX0_104 : av_cv RX0 104 mX3_zOf 3 1 := ⟨av_in (by decide +kernel) rfl, av_in (by decide +kernel) rfl, av_in (by decide +kernel) rfl, ⟨_, rfl, rfl⟩, by decide +kernel⟩
theorem sX0_107 : av_cs0 RX0 107 mX7_told 3 := ⟨Or.inr ⟨"GreaterBodies", by decide +kernel⟩, av_in (by decide +kernel) rfl, by decide +kernel⟩
theorem sX7_244 : av_cs0 RX7 244 mX7_gcd 2 := ⟨Or.inl (av_in (by decide +kernel) rfl), av_in (by decide +kernel) rfl, by decide +kernel⟩
theorem kX7_183 : Cond.constantLong RX7 183 (-900000002) ∈ av_WT := av_in (by decide +kernel) rfl
theorem vL_120 : av_cv RL 120 mX7_tight 7 1 := ⟨av_in (by decide +kernel) rfl, av_in (by decide +kernel) rfl, av_in (by decide +kernel) rfl, ⟨_, rfl, rfl⟩, by decide +kernel⟩
theorem vX7_185 : av_cv RX7 185 mX0_tightAt 0 1 := ⟨av_in (by decide +kernel) rfl, av_in (by decide +kernel) rfl, av_in (by decide +kernel) rfl, ⟨_, rfl, rfl⟩, by decide +kernel⟩
theorem vX0_111 : av_cv RX0 111 mX3_touchersOf 3 1 := ⟨av_in (by decide +kernel) rfl, av_in (by decide +kernel) rfl, av_in (by decide +kernel) rfl, ⟨_, rfl, rfl⟩, by decide +kernel⟩
theorem vL_125 : av_cv RL 125 mX7_rims 7 0 := ⟨av_in (by decide +kernel) rfl, av_in (by decide +kernel) rfl, av_in (by decide +kernel) rfl, ⟨_, rfl, rfl⟩, by decide +kernel⟩
theorem vX7_188 : av_cv RX7 188 mX0_rimCount 0 0 := ⟨av_in (by decide +kernel) rfl, av_in (by decide +kernel) rfl, av_in (by decide +kernel) rfl, ⟨_, rfl, rfl⟩, by decide +kernel⟩
theorem vX0_114 : av_cv RX0 114 mX0_isRim 0 2 := ⟨av_in (by decide +kernel) rfl, av_in (by decide +kernel) rfl, av_in (by decide +kernel) rfl, ⟨_, rfl, rfl⟩, by decide +kernel⟩
theorem vX0_117 : av_cv RX0 117 mX0_tightAt 0 1 := ⟨av_in (by decide +kernel) rfl, av_in (by decide +kernel) rfl, av_in (by decide +kernel) rfl, ⟨_, rfl, rfl⟩, by decide +kernel⟩
theorem vL_129 : av_cv RL 129 mX7_idle 7 1 := ⟨av_in (by decide +kernel) rfl, av_in (by decide +kernel) rfl, av_in (by decide +kernel) rfl, ⟨_, rfl, rfl⟩, by decide +kernel⟩
theorem vX7_191 : av_cv RX7 191 mX0_isIdle 0 1 := ⟨av_in (by decide +kernel) rfl, av_in (by decide +kernel) rfl, av_in (by decide +kernel) rfl, ⟨_, rfl, rfl⟩, by decide +kernel⟩
theorem vX0_120 : av_cv RX0 120 mX6_isOn 6 1 := ⟨av_in (by decide +kernel) rfl, av_in (by decide +kernel) rfl, av_in (by decide +kernel) rfl, ⟨_, rfl, rfl⟩, by decide +kernel⟩
theorem vX0_123 : av_cv RX0 123 mX3_isBroken 3 2 := ⟨av_in (by decide +kernel) rfl, av_in (by decide +kernel) rfl, av_in (by decide +kernel) rfl, ⟨_, rfl, rfl⟩, by decide +kernel⟩
theorem vL_133 : av_cv RL 133 mX7_shadow 7 0 := ⟨av_in (by decide +kernel) rfl, av_in (by decide +kernel) rfl, av_in (by decide +kernel) rfl, ⟨_, rfl, rfl⟩, by decide +kernel⟩
theorem vX7_194 : av_cv RX7 194 mX0_outline 0 0 := ⟨av_in (by decide +kernel) rfl, av_in (by decide +kernel) rfl, av_in (by decide +kernel) rfl, ⟨_, rfl, rfl⟩, by decide +kernel⟩
theorem vL_137 : av_cv RL 137 mX7_shadowAt 7 3 := ⟨av_in (by decide +kernel) rfl, av_in (by decide +kernel) rfl, av_in (by decide +kernel) rfl, ⟨_, rfl, rfl⟩, by decide +kernel⟩
theorem kX7_197 : Cond.constantLong RX7 197 (-900000003) ∈ av_WT := av_in (by decide +kernel) rfl
theorem vX7_199 : av_cv RX7 199 mX4_wOf 4 1 := ⟨av_in (by decide +kernel) rfl, av_in (by decide +kernel) rfl, av_in (by decide +kernel) rfl, ⟨_, rfl, rfl⟩, by decide +kernel⟩
theorem sX7_202 : av_cs0 RX7 202 mX7_told 3 := ⟨Or.inl (av_in (by decide +kernel) rfl), av_in (by decide +kernel) rfl, by decide +kernel⟩
theorem vL_142 : av_cv RL 142 mX7_seen 7 0 := ⟨av_in (by decide +kernel) rfl, av_in (by decide +kernel) rfl, av_in (by decide +kernel) rfl, ⟨_, rfl, rfl⟩, by decide +kernel⟩
theorem vX7_206 : av_cv RX7 206 mX4_cornersMissing 4 1 := ⟨av_in (by decide +kernel) rfl, av_in (by decide +kernel) rfl, av_in (by decide +kernel) rfl, ⟨_, rfl, rfl⟩, by decide +kernel⟩
theorem vX4_51 : av_cv RX4 51 mX4_xOf 4 1 := ⟨av_in (by decide +kernel) rfl, av_in (by decide +kernel) rfl, av_in (by decide +kernel) rfl, ⟨_, rfl, rfl⟩, by decide +kernel⟩
theorem vX4_54 : av_cv RX4 54 mX4_yOf 4 1 := ⟨av_in (by decide +kernel) rfl, av_in (by decide +kernel) rfl, av_in (by decide +kernel) rfl, ⟨_, rfl, rfl⟩, by decide +kernel⟩
theorem vX4_57 : av_cv RX4 57 mX4_wOf 4 1 := ⟨av_in (by decide +kernel) rfl, av_in (by decide +kernel) rfl, av_in (by decide +kernel) rfl, ⟨_, rfl, rfl⟩, by decide +kernel⟩
theorem vX4_60 : av_cv RX4 60 mX4_holds 4 3 := ⟨av_in (by decide +kernel) rfl, av_in (by decide +kernel) rfl, av_in (by decide +kernel) rfl, ⟨_, rfl, rfl⟩, by decide +kernel⟩
theorem vL_146 : av_cv RL 146 mX7_missed 7 0 := ⟨av_in (by decide +kernel) rfl, av_in (by decide +kernel) rfl, av_in (by decide +kernel) rfl, ⟨_, rfl, rfl⟩, by decide +kernel⟩
theorem vL_150 : av_cv RL 150 mX7_beyond 7 0 := ⟨av_in (by decide +kernel) rfl, av_in (by decide +kernel) rfl, av_in (by decide +kernel) rfl, ⟨_, rfl, rfl⟩, by decide +kernel⟩
theorem vL_154 : av_cv RL 154 mX7_fewest 7 0 := ⟨av_in (by decide +kernel) rfl, av_in (by decide +kernel) rfl, av_in (by decide +kernel) rfl, ⟨_, rfl, rfl⟩, by decide +kernel⟩
theorem vL_158 : av_cv RL 158 mX7_needed 7 1 := ⟨av_in (by decide +kernel) rfl, av_in (by decide +kernel) rfl, av_in (by decide +kernel) rfl, ⟨_, rfl, rfl⟩, by decide +kernel⟩
theorem vL_162 : av_cv RL 162 mX7_blow 7 1 := ⟨av_in (by decide +kernel) rfl, av_in (by decide +kernel) rfl, av_in (by decide +kernel) rfl, ⟨_, rfl, rfl⟩, by decide +kernel⟩
theorem vX7_210 : av_cv RX7 210 mX4_isRoundOrigin 4 0 := ⟨av_in (by decide +kernel) rfl, av_in (by decide +kernel) rfl, av_in (by decide +kernel) rfl, ⟨_, rfl, rfl⟩, by decide +kernel⟩
theorem vX7_213 : av_cv RX7 213 mX4_growth 4 2 := ⟨av_in (by decide +kernel) rfl, av_in (by decide +kernel) rfl, av_in (by decide +kernel) rfl, ⟨_, rfl, rfl⟩, by decide +kernel⟩
theorem sX4_64 : av_cs0 RX4 64 mX7_gcd 2 := ⟨Or.inr ⟨"GreaterBodies", by decide +kernel⟩, av_in (by decide +kernel) rfl, by decide +kernel⟩
theorem sX4_70 : av_cs0 RX4 70 mX7_told 3 := ⟨Or.inr ⟨"GreaterBodies", by decide +kernel⟩, av_in (by decide +kernel) rfl, by decide +kernel⟩
theorem vL_167 : av_cv RL 167 mX7_most 7 2 := ⟨av_in (by decide +kernel) rfl, av_in (by decide +kernel) rfl, av_in (by decide +kernel) rfl, ⟨_, rfl, rfl⟩, by decide +kernel⟩
theorem sX7_217 : av_cs0 RX7 217 mX7_isAim 1 := ⟨Or.inl (av_in (by decide +kernel) rfl), av_in (by decide +kernel) rfl, by decide +kernel⟩
theorem vX7_220 : av_cv RX7 220 mX2_greatest 2 2 := ⟨av_in (by decide +kernel) rfl, av_in (by decide +kernel) rfl, av_in (by decide +kernel) rfl, ⟨_, rfl, rfl⟩, by decide +kernel⟩
theorem sX2_72 : av_cs0 RX2 72 mJ9_max_7cf53 2 := ⟨Or.inl (av_in (by decide +kernel) rfl), av_in (by decide +kernel) rfl, by decide +kernel⟩
theorem vL_171 : av_cv RL 171 mX7_mostOf 7 4 := ⟨av_in (by decide +kernel) rfl, av_in (by decide +kernel) rfl, av_in (by decide +kernel) rfl, ⟨_, rfl, rfl⟩, by decide +kernel⟩
theorem vX7_223 : av_cv RX7 223 mX7_aimRefusal 7 3 := ⟨av_in (by decide +kernel) rfl, av_in (by decide +kernel) rfl, av_in (by decide +kernel) rfl, ⟨_, rfl, rfl⟩, by decide +kernel⟩
theorem vX7_227 : av_cv RX7 227 mX0_firstBest 0 3 := ⟨av_in (by decide +kernel) rfl, av_in (by decide +kernel) rfl, av_in (by decide +kernel) rfl, ⟨_, rfl, rfl⟩, by decide +kernel⟩
theorem vX0_126 : av_cv RX0 126 mX0_over 0 4 := ⟨av_in (by decide +kernel) rfl, av_in (by decide +kernel) rfl, av_in (by decide +kernel) rfl, ⟨_, rfl, rfl⟩, by decide +kernel⟩
theorem vX7_230 : av_cv RX7 230 mX0_valueAt 0 5 := ⟨av_in (by decide +kernel) rfl, av_in (by decide +kernel) rfl, av_in (by decide +kernel) rfl, ⟨_, rfl, rfl⟩, by decide +kernel⟩
theorem vL_176 : av_cv RL 176 mX7_at 7 3 := ⟨av_in (by decide +kernel) rfl, av_in (by decide +kernel) rfl, av_in (by decide +kernel) rfl, ⟨_, rfl, rfl⟩, by decide +kernel⟩
theorem vL_180 : av_cv RL 180 mX7_count 7 1 := ⟨av_in (by decide +kernel) rfl, av_in (by decide +kernel) rfl, av_in (by decide +kernel) rfl, ⟨_, rfl, rfl⟩, by decide +kernel⟩
theorem vX7_234 : av_cv RX7 234 mX6_onSet 6 0 := ⟨av_in (by decide +kernel) rfl, av_in (by decide +kernel) rfl, av_in (by decide +kernel) rfl, ⟨_, rfl, rfl⟩, by decide +kernel⟩
theorem vX7_237 : av_cv RX7 237 mX5_scale 5 0 := ⟨av_in (by decide +kernel) rfl, av_in (by decide +kernel) rfl, av_in (by decide +kernel) rfl, ⟨_, rfl, rfl⟩, by decide +kernel⟩
theorem fX8_101 : av_fl RX8 101 8 0 := ⟨RX8, TX8, 34, rfl, by decide, u8_in, Or.inl (av_in (by decide +kernel) rfl)⟩
theorem gX8_101 : av_fp RX8 101 8 0 .int := ⟨RX8, TX8, 34, tyX8, rfl, by decide, u8_in, av_in (by decide +kernel) rfl, tyX8_ok, nmX8, by decide +kernel, by decide +kernel⟩
theorem fX8_7 : av_fl RX8 7 8 1 := ⟨RX8, TX8, 34, rfl, by decide, u8_in, Or.inl (av_in (by decide +kernel) rfl)⟩
theorem fX8_13 : av_fl RX8 13 8 2 := ⟨RX8, TX8, 34, rfl, by decide, u8_in, Or.inl (av_in (by decide +kernel) rfl)⟩
theorem fX8_16 : av_fl RX8 16 8 3 := ⟨RX8, TX8, 34, rfl, by decide, u8_in, Or.inl (av_in (by decide +kernel) rfl)⟩
theorem fX8_20 : av_fl RX8 20 8 4 := ⟨RX8, TX8, 34, rfl, by decide, u8_in, Or.inl (av_in (by decide +kernel) rfl)⟩
theorem fX8_23 : av_fl RX8 23 8 5 := ⟨RX8, TX8, 34, rfl, by decide, u8_in, Or.inl (av_in (by decide +kernel) rfl)⟩
theorem fX8_26 : av_fl RX8 26 8 6 := ⟨RX8, TX8, 34, rfl, by decide, u8_in, Or.inl (av_in (by decide +kernel) rfl)⟩
theorem fX8_131 : av_fl RX8 131 8 7 := ⟨RX8, TX8, 34, rfl, by decide, u8_in, Or.inl (av_in (by decide +kernel) rfl)⟩
theorem gX8_131 : av_fp RX8 131 8 7 .int := ⟨RX8, TX8, 34, tyX8, rfl, by decide, u8_in, av_in (by decide +kernel) rfl, tyX8_ok, nmX8, by decide +kernel, by decide +kernel⟩
theorem fX8_29 : av_fl RX8 29 8 8 := ⟨RX8, TX8, 34, rfl, by decide, u8_in, Or.inl (av_in (by decide +kernel) rfl)⟩
theorem fX8_287 : av_fl RX8 287 8 9 := ⟨RX8, TX8, 34, rfl, by decide, u8_in, Or.inl (av_in (by decide +kernel) rfl)⟩
theorem gX8_287 : av_fp RX8 287 8 9 .int := ⟨RX8, TX8, 34, tyX8, rfl, by decide, u8_in, av_in (by decide +kernel) rfl, tyX8_ok, nmX8, by decide +kernel, by decide +kernel⟩
theorem fX8_32 : av_fl RX8 32 8 10 := ⟨RX8, TX8, 34, rfl, by decide, u8_in, Or.inl (av_in (by decide +kernel) rfl)⟩
theorem fX8_155 : av_fl RX8 155 8 11 := ⟨RX8, TX8, 34, rfl, by decide, u8_in, Or.inl (av_in (by decide +kernel) rfl)⟩
theorem gX8_155 : av_fp RX8 155 8 11 .int := ⟨RX8, TX8, 34, tyX8, rfl, by decide, u8_in, av_in (by decide +kernel) rfl, tyX8_ok, nmX8, by decide +kernel, by decide +kernel⟩
theorem fX8_35 : av_fl RX8 35 8 12 := ⟨RX8, TX8, 34, rfl, by decide, u8_in, Or.inl (av_in (by decide +kernel) rfl)⟩
theorem fX8_151 : av_fl RX8 151 8 13 := ⟨RX8, TX8, 34, rfl, by decide, u8_in, Or.inl (av_in (by decide +kernel) rfl)⟩
theorem gX8_151 : av_fp RX8 151 8 13 .long := ⟨RX8, TX8, 34, tyX8, rfl, by decide, u8_in, av_in (by decide +kernel) rfl, tyX8_ok, nmX8, by decide +kernel, by decide +kernel⟩
theorem fX8_38 : av_fl RX8 38 8 14 := ⟨RX8, TX8, 34, rfl, by decide, u8_in, Or.inl (av_in (by decide +kernel) rfl)⟩
theorem fX8_41 : av_fl RX8 41 8 15 := ⟨RX8, TX8, 34, rfl, by decide, u8_in, Or.inl (av_in (by decide +kernel) rfl)⟩
theorem fX8_44 : av_fl RX8 44 8 16 := ⟨RX8, TX8, 34, rfl, by decide, u8_in, Or.inl (av_in (by decide +kernel) rfl)⟩
theorem fX8_47 : av_fl RX8 47 8 17 := ⟨RX8, TX8, 34, rfl, by decide, u8_in, Or.inl (av_in (by decide +kernel) rfl)⟩
theorem fX8_50 : av_fl RX8 50 8 18 := ⟨RX8, TX8, 34, rfl, by decide, u8_in, Or.inl (av_in (by decide +kernel) rfl)⟩
theorem fX8_53 : av_fl RX8 53 8 19 := ⟨RX8, TX8, 34, rfl, by decide, u8_in, Or.inl (av_in (by decide +kernel) rfl)⟩
theorem gX8_53 : av_fp RX8 53 8 19 .int := ⟨RX8, TX8, 34, tyX8, rfl, by decide, u8_in, av_in (by decide +kernel) rfl, tyX8_ok, nmX8, by decide +kernel, by decide +kernel⟩
theorem fX8_57 : av_fl RX8 57 8 20 := ⟨RX8, TX8, 34, rfl, by decide, u8_in, Or.inl (av_in (by decide +kernel) rfl)⟩
theorem gX8_57 : av_fp RX8 57 8 20 .int := ⟨RX8, TX8, 34, tyX8, rfl, by decide, u8_in, av_in (by decide +kernel) rfl, tyX8_ok, nmX8, by decide +kernel, by decide +kernel⟩
theorem fX8_60 : av_fl RX8 60 8 21 := ⟨RX8, TX8, 34, rfl, by decide, u8_in, Or.inl (av_in (by decide +kernel) rfl)⟩
theorem fX8_63 : av_fl RX8 63 8 22 := ⟨RX8, TX8, 34, rfl, by decide, u8_in, Or.inl (av_in (by decide +kernel) rfl)⟩
theorem fX8_216 : av_fl RX8 216 8 23 := ⟨RX8, TX8, 34, rfl, by decide, u8_in, Or.inl (av_in (by decide +kernel) rfl)⟩
theorem gX8_216 : av_fp RX8 216 8 23 .int := ⟨RX8, TX8, 34, tyX8, rfl, by decide, u8_in, av_in (by decide +kernel) rfl, tyX8_ok, nmX8, by decide +kernel, by decide +kernel⟩
theorem fX8_66 : av_fl RX8 66 8 24 := ⟨RX8, TX8, 34, rfl, by decide, u8_in, Or.inl (av_in (by decide +kernel) rfl)⟩
theorem fX8_69 : av_fl RX8 69 8 25 := ⟨RX8, TX8, 34, rfl, by decide, u8_in, Or.inl (av_in (by decide +kernel) rfl)⟩
theorem fX8_228 : av_fl RX8 228 8 26 := ⟨RX8, TX8, 34, rfl, by decide, u8_in, Or.inl (av_in (by decide +kernel) rfl)⟩
theorem gX8_228 : av_fp RX8 228 8 26 .int := ⟨RX8, TX8, 34, tyX8, rfl, by decide, u8_in, av_in (by decide +kernel) rfl, tyX8_ok, nmX8, by decide +kernel, by decide +kernel⟩
theorem fX8_73 : av_fl RX8 73 8 27 := ⟨RX8, TX8, 34, rfl, by decide, u8_in, Or.inl (av_in (by decide +kernel) rfl)⟩
theorem fX8_76 : av_fl RX8 76 8 28 := ⟨RX8, TX8, 34, rfl, by decide, u8_in, Or.inl (av_in (by decide +kernel) rfl)⟩
theorem fX8_79 : av_fl RX8 79 8 29 := ⟨RX8, TX8, 34, rfl, by decide, u8_in, Or.inl (av_in (by decide +kernel) rfl)⟩
theorem fX8_82 : av_fl RX8 82 8 30 := ⟨RX8, TX8, 34, rfl, by decide, u8_in, Or.inl (av_in (by decide +kernel) rfl)⟩
theorem fX8_275 : av_fl RX8 275 8 31 := ⟨RX8, TX8, 34, rfl, by decide, u8_in, Or.inl (av_in (by decide +kernel) rfl)⟩
theorem gX8_275 : av_fp RX8 275 8 31 .int := ⟨RX8, TX8, 34, tyX8, rfl, by decide, u8_in, av_in (by decide +kernel) rfl, tyX8_ok, nmX8, by decide +kernel, by decide +kernel⟩
theorem fX8_85 : av_fl RX8 85 8 32 := ⟨RX8, TX8, 34, rfl, by decide, u8_in, Or.inl (av_in (by decide +kernel) rfl)⟩
theorem fX8_302 : av_fl RX8 302 8 33 := ⟨RX8, TX8, 34, rfl, by decide, u8_in, Or.inl (av_in (by decide +kernel) rfl)⟩
theorem gX8_302 : av_fp RX8 302 8 33 .int := ⟨RX8, TX8, 34, tyX8, rfl, by decide, u8_in, av_in (by decide +kernel) rfl, tyX8_ok, nmX8, by decide +kernel, by decide +kernel⟩
theorem vL_17 : av_cv RL 17 mX8_point 8 2 := ⟨av_in (by decide +kernel) rfl, av_in (by decide +kernel) rfl, av_in (by decide +kernel) rfl, ⟨_, rfl, rfl⟩, by decide +kernel⟩
theorem kX8_92 : Cond.constantLong RX8 92 (-50) ∈ av_WT := av_in (by decide +kernel) rfl
theorem kX8_94 : Cond.constantLong RX8 94 (50) ∈ av_WT := av_in (by decide +kernel) rfl
theorem sX8_96 : av_cs0 RX8 96 mX8_in 3 := ⟨Or.inl (av_in (by decide +kernel) rfl), av_in (by decide +kernel) rfl, by decide +kernel⟩
theorem kX8_100 : Cond.constant RX8 100 (-900000002) ∈ av_WT := av_in (by decide +kernel) rfl
theorem kX8_104 : Cond.constant RX8 104 (-900000004) ∈ av_WT := av_in (by decide +kernel) rfl
theorem vL_22 : av_cv RL 22 mX8_move 8 3 := ⟨av_in (by decide +kernel) rfl, av_in (by decide +kernel) rfl, av_in (by decide +kernel) rfl, ⟨_, rfl, rfl⟩, by decide +kernel⟩
theorem kX8_105 : Cond.constant RX8 105 (-900000001) ∈ av_WT := av_in (by decide +kernel) rfl
theorem vL_27 : av_cv RL 27 mX8_clear 8 0 := ⟨av_in (by decide +kernel) rfl, av_in (by decide +kernel) rfl, av_in (by decide +kernel) rfl, ⟨_, rfl, rfl⟩, by decide +kernel⟩
theorem vL_31 : av_cv RL 31 mX8_corners 8 0 := ⟨av_in (by decide +kernel) rfl, av_in (by decide +kernel) rfl, av_in (by decide +kernel) rfl, ⟨_, rfl, rfl⟩, by decide +kernel⟩
theorem vX8_134 : av_cv RX8 134 mX8_layFigure 8 0 := ⟨av_in (by decide +kernel) rfl, av_in (by decide +kernel) rfl, av_in (by decide +kernel) rfl, ⟨_, rfl, rfl⟩, by decide +kernel⟩
theorem vX8_127 : av_cv RX8 127 mX8_hull 8 3 := ⟨av_in (by decide +kernel) rfl, av_in (by decide +kernel) rfl, av_in (by decide +kernel) rfl, ⟨_, rfl, rfl⟩, by decide +kernel⟩
theorem vX8_110 : av_cv RX8 110 mX8_isAhead 8 2 := ⟨av_in (by decide +kernel) rfl, av_in (by decide +kernel) rfl, av_in (by decide +kernel) rfl, ⟨_, rfl, rfl⟩, by decide +kernel⟩
theorem vX8_106 : av_cv RX8 106 mX8_compare 8 4 := ⟨av_in (by decide +kernel) rfl, av_in (by decide +kernel) rfl, av_in (by decide +kernel) rfl, ⟨_, rfl, rfl⟩, by decide +kernel⟩
theorem vX8_114 : av_cv RX8 114 mX8_isOne 8 2 := ⟨av_in (by decide +kernel) rfl, av_in (by decide +kernel) rfl, av_in (by decide +kernel) rfl, ⟨_, rfl, rfl⟩, by decide +kernel⟩
theorem kX8_117 : Cond.constantLong RX8 117 (-1) ∈ av_WT := av_in (by decide +kernel) rfl
theorem vX8_119 : av_cv RX8 119 mX8_side 8 3 := ⟨av_in (by decide +kernel) rfl, av_in (by decide +kernel) rfl, av_in (by decide +kernel) rfl, ⟨_, rfl, rfl⟩, by decide +kernel⟩
theorem vX8_123 : av_cv RX8 123 mX8_isBetween 8 3 := ⟨av_in (by decide +kernel) rfl, av_in (by decide +kernel) rfl, av_in (by decide +kernel) rfl, ⟨_, rfl, rfl⟩, by decide +kernel⟩
theorem vL_36 : av_cv RL 36 mX8_corner 8 2 := ⟨av_in (by decide +kernel) rfl, av_in (by decide +kernel) rfl, av_in (by decide +kernel) rfl, ⟨_, rfl, rfl⟩, by decide +kernel⟩
theorem vL_40 : av_cv RL 40 mX8_wallOf 8 2 := ⟨av_in (by decide +kernel) rfl, av_in (by decide +kernel) rfl, av_in (by decide +kernel) rfl, ⟨_, rfl, rfl⟩, by decide +kernel⟩
theorem kX8_137 : Cond.constant RX8 137 (-900000003) ∈ av_WT := av_in (by decide +kernel) rfl
theorem kX8_138 : Cond.constantLong RX8 138 (2) ∈ av_WT := av_in (by decide +kernel) rfl
theorem vX8_140 : av_cv RX8 140 mX8_wallPart 8 2 := ⟨av_in (by decide +kernel) rfl, av_in (by decide +kernel) rfl, av_in (by decide +kernel) rfl, ⟨_, rfl, rfl⟩, by decide +kernel⟩
theorem sX8_88 : av_cs0 RX8 88 mX8_common 2 := ⟨Or.inl (av_in (by decide +kernel) rfl), av_in (by decide +kernel) rfl, by decide +kernel⟩
theorem vL_44 : av_cv RL 44 mX8_slack 8 2 := ⟨av_in (by decide +kernel) rfl, av_in (by decide +kernel) rfl, av_in (by decide +kernel) rfl, ⟨_, rfl, rfl⟩, by decide +kernel⟩
theorem vX8_144 : av_cv RX8 144 mX8_slackOf 8 2 := ⟨av_in (by decide +kernel) rfl, av_in (by decide +kernel) rfl, av_in (by decide +kernel) rfl, ⟨_, rfl, rfl⟩, by decide +kernel⟩
theorem vL_48 : av_cv RL 48 mX8_area 8 0 := ⟨av_in (by decide +kernel) rfl, av_in (by decide +kernel) rfl, av_in (by decide +kernel) rfl, ⟨_, rfl, rfl⟩, by decide +kernel⟩
theorem vL_52 : av_cv RL 52 mX8_open 8 0 := ⟨av_in (by decide +kernel) rfl, av_in (by decide +kernel) rfl, av_in (by decide +kernel) rfl, ⟨_, rfl, rfl⟩, by decide +kernel⟩
theorem vX8_147 : av_cv RX8 147 mX8_isFlat 8 0 := ⟨av_in (by decide +kernel) rfl, av_in (by decide +kernel) rfl, av_in (by decide +kernel) rfl, ⟨_, rfl, rfl⟩, by decide +kernel⟩
theorem vL_56 : av_cv RL 56 mX8_cover 8 0 := ⟨av_in (by decide +kernel) rfl, av_in (by decide +kernel) rfl, av_in (by decide +kernel) rfl, ⟨_, rfl, rfl⟩, by decide +kernel⟩
theorem vX8_181 : av_cv RX8 181 mX8_mayBound 8 0 := ⟨av_in (by decide +kernel) rfl, av_in (by decide +kernel) rfl, av_in (by decide +kernel) rfl, ⟨_, rfl, rfl⟩, by decide +kernel⟩
theorem vX8_184 : av_cv RX8 184 mX8_coverNow 8 0 := ⟨av_in (by decide +kernel) rfl, av_in (by decide +kernel) rfl, av_in (by decide +kernel) rfl, ⟨_, rfl, rfl⟩, by decide +kernel⟩
theorem vX8_162 : av_cv RX8 162 mX8_layOpen 8 0 := ⟨av_in (by decide +kernel) rfl, av_in (by decide +kernel) rfl, av_in (by decide +kernel) rfl, ⟨_, rfl, rfl⟩, by decide +kernel⟩
theorem vX8_165 : av_cv RX8 165 mX8_layBlocks 8 0 := ⟨av_in (by decide +kernel) rfl, av_in (by decide +kernel) rfl, av_in (by decide +kernel) rfl, ⟨_, rfl, rfl⟩, by decide +kernel⟩
theorem vX8_168 : av_cv RX8 168 mX8_covers 8 1 := ⟨av_in (by decide +kernel) rfl, av_in (by decide +kernel) rfl, av_in (by decide +kernel) rfl, ⟨_, rfl, rfl⟩, by decide +kernel⟩
theorem sX8_158 : av_cs0 RX8 158 mX8_firstBit 1 := ⟨Or.inl (av_in (by decide +kernel) rfl), av_in (by decide +kernel) rfl, by decide +kernel⟩
theorem vL_60 : av_cv RL 60 mX8_fools 8 0 := ⟨av_in (by decide +kernel) rfl, av_in (by decide +kernel) rfl, av_in (by decide +kernel) rfl, ⟨_, rfl, rfl⟩, by decide +kernel⟩
theorem vX8_188 : av_cv RX8 188 mX8_foolsNow 8 0 := ⟨av_in (by decide +kernel) rfl, av_in (by decide +kernel) rfl, av_in (by decide +kernel) rfl, ⟨_, rfl, rfl⟩, by decide +kernel⟩
theorem vX8_175 : av_cv RX8 175 mX8_layFooling 8 0 := ⟨av_in (by decide +kernel) rfl, av_in (by decide +kernel) rfl, av_in (by decide +kernel) rfl, ⟨_, rfl, rfl⟩, by decide +kernel⟩
theorem vX8_172 : av_cv RX8 172 mX8_isOpen 8 2 := ⟨av_in (by decide +kernel) rfl, av_in (by decide +kernel) rfl, av_in (by decide +kernel) rfl, ⟨_, rfl, rfl⟩, by decide +kernel⟩
theorem sX8_178 : av_cs0 RX8 178 mX8_ones 1 := ⟨Or.inl (av_in (by decide +kernel) rfl), av_in (by decide +kernel) rfl, by decide +kernel⟩
theorem vL_64 : av_cv RL 64 mX8_log 8 0 := ⟨av_in (by decide +kernel) rfl, av_in (by decide +kernel) rfl, av_in (by decide +kernel) rfl, ⟨_, rfl, rfl⟩, by decide +kernel⟩
theorem vX8_191 : av_cv RX8 191 mX8_logNow 8 0 := ⟨av_in (by decide +kernel) rfl, av_in (by decide +kernel) rfl, av_in (by decide +kernel) rfl, ⟨_, rfl, rfl⟩, by decide +kernel⟩
theorem vL_68 : av_cv RL 68 mX8_low 8 0 := ⟨av_in (by decide +kernel) rfl, av_in (by decide +kernel) rfl, av_in (by decide +kernel) rfl, ⟨_, rfl, rfl⟩, by decide +kernel⟩
theorem vL_76 : av_cv RL 76 mX8_factors 8 2 := ⟨av_in (by decide +kernel) rfl, av_in (by decide +kernel) rfl, av_in (by decide +kernel) rfl, ⟨_, rfl, rfl⟩, by decide +kernel⟩
theorem kX8_194 : Cond.constantLong RX8 194 (8) ∈ av_WT := av_in (by decide +kernel) rfl
theorem kX8_196 : Cond.constantLong RX8 196 (999) ∈ av_WT := av_in (by decide +kernel) rfl
theorem vL_81 : av_cv RL 81 mX8_entry 8 4 := ⟨av_in (by decide +kernel) rfl, av_in (by decide +kernel) rfl, av_in (by decide +kernel) rfl, ⟨_, rfl, rfl⟩, by decide +kernel⟩
theorem kX8_198 : Cond.constantLong RX8 198 (11) ∈ av_WT := av_in (by decide +kernel) rfl
theorem kX8_200 : Cond.constantLong RX8 200 (7) ∈ av_WT := av_in (by decide +kernel) rfl
theorem kX8_202 : Cond.constantLong RX8 202 (9999) ∈ av_WT := av_in (by decide +kernel) rfl
theorem vL_85 : av_cv RL 85 mX8_hold 8 0 := ⟨av_in (by decide +kernel) rfl, av_in (by decide +kernel) rfl, av_in (by decide +kernel) rfl, ⟨_, rfl, rfl⟩, by decide +kernel⟩
theorem vX8_205 : av_cv RX8 205 mX8_wrongPair 8 0 := ⟨av_in (by decide +kernel) rfl, av_in (by decide +kernel) rfl, av_in (by decide +kernel) rfl, ⟨_, rfl, rfl⟩, by decide +kernel⟩
theorem kX8_204 : Cond.constant RX8 204 (-900000009) ∈ av_WT := av_in (by decide +kernel) rfl
theorem vL_89 : av_cv RL 89 mX8_wrong 8 0 := ⟨av_in (by decide +kernel) rfl, av_in (by decide +kernel) rfl, av_in (by decide +kernel) rfl, ⟨_, rfl, rfl⟩, by decide +kernel⟩
theorem vL_94 : av_cv RL 94 mX8_wall 8 4 := ⟨av_in (by decide +kernel) rfl, av_in (by decide +kernel) rfl, av_in (by decide +kernel) rfl, ⟨_, rfl, rfl⟩, by decide +kernel⟩
theorem kX8_208 : Cond.constantLong RX8 208 (-9) ∈ av_WT := av_in (by decide +kernel) rfl
theorem kX8_210 : Cond.constantLong RX8 210 (9) ∈ av_WT := av_in (by decide +kernel) rfl
theorem kX8_212 : Cond.constantLong RX8 212 (-99) ∈ av_WT := av_in (by decide +kernel) rfl
theorem kX8_214 : Cond.constantLong RX8 214 (99) ∈ av_WT := av_in (by decide +kernel) rfl
theorem vL_98 : av_cv RL 98 mX8_shift 8 2 := ⟨av_in (by decide +kernel) rfl, av_in (by decide +kernel) rfl, av_in (by decide +kernel) rfl, ⟨_, rfl, rfl⟩, by decide +kernel⟩
theorem vX8_219 : av_cv RX8 219 mX8_isWall 8 1 := ⟨av_in (by decide +kernel) rfl, av_in (by decide +kernel) rfl, av_in (by decide +kernel) rfl, ⟨_, rfl, rfl⟩, by decide +kernel⟩
theorem vL_102 : av_cv RL 102 mX8_on 8 2 := ⟨av_in (by decide +kernel) rfl, av_in (by decide +kernel) rfl, av_in (by decide +kernel) rfl, ⟨_, rfl, rfl⟩, by decide +kernel⟩
theorem vL_106 : av_cv RL 106 mX8_about 8 2 := ⟨av_in (by decide +kernel) rfl, av_in (by decide +kernel) rfl, av_in (by decide +kernel) rfl, ⟨_, rfl, rfl⟩, by decide +kernel⟩
theorem kX8_222 : Cond.constantLong RX8 222 (3) ∈ av_WT := av_in (by decide +kernel) rfl
theorem vL_110 : av_cv RL 110 mX8_sound 8 0 := ⟨av_in (by decide +kernel) rfl, av_in (by decide +kernel) rfl, av_in (by decide +kernel) rfl, ⟨_, rfl, rfl⟩, by decide +kernel⟩
theorem vX8_255 : av_cv RX8 255 mX8_setOn 8 0 := ⟨av_in (by decide +kernel) rfl, av_in (by decide +kernel) rfl, av_in (by decide +kernel) rfl, ⟨_, rfl, rfl⟩, by decide +kernel⟩
theorem vX8_258 : av_cv RX8 258 mX8_isSound 8 1 := ⟨av_in (by decide +kernel) rfl, av_in (by decide +kernel) rfl, av_in (by decide +kernel) rfl, ⟨_, rfl, rfl⟩, by decide +kernel⟩
theorem vX8_247 : av_cv RX8 247 mX8_layVertices 8 1 := ⟨av_in (by decide +kernel) rfl, av_in (by decide +kernel) rfl, av_in (by decide +kernel) rfl, ⟨_, rfl, rfl⟩, by decide +kernel⟩
theorem vX8_235 : av_cv RX8 235 mX8_determinant 8 6 := ⟨av_in (by decide +kernel) rfl, av_in (by decide +kernel) rfl, av_in (by decide +kernel) rfl, ⟨_, rfl, rfl⟩, by decide +kernel⟩
theorem vX8_239 : av_cv RX8 239 mX8_holdsAll 8 5 := ⟨av_in (by decide +kernel) rfl, av_in (by decide +kernel) rfl, av_in (by decide +kernel) rfl, ⟨_, rfl, rfl⟩, by decide +kernel⟩
theorem vX8_224 : av_cv RX8 224 mX8_leaves 8 5 := ⟨av_in (by decide +kernel) rfl, av_in (by decide +kernel) rfl, av_in (by decide +kernel) rfl, ⟨_, rfl, rfl⟩, by decide +kernel⟩
theorem vX8_243 : av_cv RX8 243 mX8_put 8 4 := ⟨av_in (by decide +kernel) rfl, av_in (by decide +kernel) rfl, av_in (by decide +kernel) rfl, ⟨_, rfl, rfl⟩, by decide +kernel⟩
theorem vX8_231 : av_cv RX8 231 mX8_order 8 5 := ⟨av_in (by decide +kernel) rfl, av_in (by decide +kernel) rfl, av_in (by decide +kernel) rfl, ⟨_, rfl, rfl⟩, by decide +kernel⟩
theorem vX8_251 : av_cv RX8 251 mX8_goesOn 8 4 := ⟨av_in (by decide +kernel) rfl, av_in (by decide +kernel) rfl, av_in (by decide +kernel) rfl, ⟨_, rfl, rfl⟩, by decide +kernel⟩
theorem vL_114 : av_cv RL 114 mX8_vertices 8 0 := ⟨av_in (by decide +kernel) rfl, av_in (by decide +kernel) rfl, av_in (by decide +kernel) rfl, ⟨_, rfl, rfl⟩, by decide +kernel⟩
theorem vL_119 : av_cv RL 119 mX8_vertex 8 3 := ⟨av_in (by decide +kernel) rfl, av_in (by decide +kernel) rfl, av_in (by decide +kernel) rfl, ⟨_, rfl, rfl⟩, by decide +kernel⟩
theorem kX8_261 : Cond.constantLong RX8 261 (-900000001) ∈ av_WT := av_in (by decide +kernel) rfl
theorem kX8_263 : Cond.constantLong RX8 263 (-900000002) ∈ av_WT := av_in (by decide +kernel) rfl
theorem sX8_265 : av_cs0 RX8 265 mX8_told 3 := ⟨Or.inl (av_in (by decide +kernel) rfl), av_in (by decide +kernel) rfl, by decide +kernel⟩
theorem vL_124 : av_cv RL 124 mX8_tight 8 1 := ⟨av_in (by decide +kernel) rfl, av_in (by decide +kernel) rfl, av_in (by decide +kernel) rfl, ⟨_, rfl, rfl⟩, by decide +kernel⟩
theorem vX8_269 : av_cv RX8 269 mX8_tightAt 8 2 := ⟨av_in (by decide +kernel) rfl, av_in (by decide +kernel) rfl, av_in (by decide +kernel) rfl, ⟨_, rfl, rfl⟩, by decide +kernel⟩
theorem vL_128 : av_cv RL 128 mX8_rims 8 0 := ⟨av_in (by decide +kernel) rfl, av_in (by decide +kernel) rfl, av_in (by decide +kernel) rfl, ⟨_, rfl, rfl⟩, by decide +kernel⟩
theorem vX8_272 : av_cv RX8 272 mX8_hasTwo 8 1 := ⟨av_in (by decide +kernel) rfl, av_in (by decide +kernel) rfl, av_in (by decide +kernel) rfl, ⟨_, rfl, rfl⟩, by decide +kernel⟩
theorem vL_132 : av_cv RL 132 mX8_idle 8 1 := ⟨av_in (by decide +kernel) rfl, av_in (by decide +kernel) rfl, av_in (by decide +kernel) rfl, ⟨_, rfl, rfl⟩, by decide +kernel⟩
theorem vX8_284 : av_cv RX8 284 mX8_isIdle 8 1 := ⟨av_in (by decide +kernel) rfl, av_in (by decide +kernel) rfl, av_in (by decide +kernel) rfl, ⟨_, rfl, rfl⟩, by decide +kernel⟩
theorem vX8_278 : av_cv RX8 278 mX8_keep 8 0 := ⟨av_in (by decide +kernel) rfl, av_in (by decide +kernel) rfl, av_in (by decide +kernel) rfl, ⟨_, rfl, rfl⟩, by decide +kernel⟩
theorem vX8_281 : av_cv RX8 281 mX8_areKept 8 0 := ⟨av_in (by decide +kernel) rfl, av_in (by decide +kernel) rfl, av_in (by decide +kernel) rfl, ⟨_, rfl, rfl⟩, by decide +kernel⟩
theorem vL_136 : av_cv RL 136 mX8_shadow 8 0 := ⟨av_in (by decide +kernel) rfl, av_in (by decide +kernel) rfl, av_in (by decide +kernel) rfl, ⟨_, rfl, rfl⟩, by decide +kernel⟩
theorem vX8_290 : av_cv RX8 290 mX8_layShadow 8 1 := ⟨av_in (by decide +kernel) rfl, av_in (by decide +kernel) rfl, av_in (by decide +kernel) rfl, ⟨_, rfl, rfl⟩, by decide +kernel⟩
theorem vL_141 : av_cv RL 141 mX8_shadowAt 8 3 := ⟨av_in (by decide +kernel) rfl, av_in (by decide +kernel) rfl, av_in (by decide +kernel) rfl, ⟨_, rfl, rfl⟩, by decide +kernel⟩
theorem kX8_293 : Cond.constantLong RX8 293 (-900000003) ∈ av_WT := av_in (by decide +kernel) rfl
theorem vL_145 : av_cv RL 145 mX8_seen 8 0 := ⟨av_in (by decide +kernel) rfl, av_in (by decide +kernel) rfl, av_in (by decide +kernel) rfl, ⟨_, rfl, rfl⟩, by decide +kernel⟩
theorem vX8_295 : av_cv RX8 295 mX8_isSeen 8 0 := ⟨av_in (by decide +kernel) rfl, av_in (by decide +kernel) rfl, av_in (by decide +kernel) rfl, ⟨_, rfl, rfl⟩, by decide +kernel⟩
theorem vL_149 : av_cv RL 149 mX8_missed 8 0 := ⟨av_in (by decide +kernel) rfl, av_in (by decide +kernel) rfl, av_in (by decide +kernel) rfl, ⟨_, rfl, rfl⟩, by decide +kernel⟩
theorem vX8_298 : av_cv RX8 298 mX8_isOutside 8 3 := ⟨av_in (by decide +kernel) rfl, av_in (by decide +kernel) rfl, av_in (by decide +kernel) rfl, ⟨_, rfl, rfl⟩, by decide +kernel⟩
theorem vL_153 : av_cv RL 153 mX8_beyond 8 0 := ⟨av_in (by decide +kernel) rfl, av_in (by decide +kernel) rfl, av_in (by decide +kernel) rfl, ⟨_, rfl, rfl⟩, by decide +kernel⟩
theorem vL_157 : av_cv RL 157 mX8_fewest 8 0 := ⟨av_in (by decide +kernel) rfl, av_in (by decide +kernel) rfl, av_in (by decide +kernel) rfl, ⟨_, rfl, rfl⟩, by decide +kernel⟩
theorem vX8_312 : av_cv RX8 312 mX8_layFewest 8 0 := ⟨av_in (by decide +kernel) rfl, av_in (by decide +kernel) rfl, av_in (by decide +kernel) rfl, ⟨_, rfl, rfl⟩, by decide +kernel⟩
theorem sX8_305 : av_cs0 RX8 305 mX8_bits 1 := ⟨Or.inl (av_in (by decide +kernel) rfl), av_in (by decide +kernel) rfl, by decide +kernel⟩
theorem sX8_309 : av_cs0 RX8 309 mX8_isFirst 2 := ⟨Or.inl (av_in (by decide +kernel) rfl), av_in (by decide +kernel) rfl, by decide +kernel⟩
theorem vL_161 : av_cv RL 161 mX8_needed 8 1 := ⟨av_in (by decide +kernel) rfl, av_in (by decide +kernel) rfl, av_in (by decide +kernel) rfl, ⟨_, rfl, rfl⟩, by decide +kernel⟩
theorem vL_72 : av_cv RL 72 mX8_high 8 0 := ⟨av_in (by decide +kernel) rfl, av_in (by decide +kernel) rfl, av_in (by decide +kernel) rfl, ⟨_, rfl, rfl⟩, by decide +kernel⟩
theorem vL_166 : av_cv RL 166 mX8_blow 8 1 := ⟨av_in (by decide +kernel) rfl, av_in (by decide +kernel) rfl, av_in (by decide +kernel) rfl, ⟨_, rfl, rfl⟩, by decide +kernel⟩
theorem sX8_315 : av_cs0 RX8 315 mX8_isAbove 4 := ⟨Or.inl (av_in (by decide +kernel) rfl), av_in (by decide +kernel) rfl, by decide +kernel⟩
theorem vL_170 : av_cv RL 170 mX8_most 8 2 := ⟨av_in (by decide +kernel) rfl, av_in (by decide +kernel) rfl, av_in (by decide +kernel) rfl, ⟨_, rfl, rfl⟩, by decide +kernel⟩
theorem vL_175 : av_cv RL 175 mX8_mostOf 8 4 := ⟨av_in (by decide +kernel) rfl, av_in (by decide +kernel) rfl, av_in (by decide +kernel) rfl, ⟨_, rfl, rfl⟩, by decide +kernel⟩
theorem vX8_319 : av_cv RX8 319 mX8_mayAsk 8 3 := ⟨av_in (by decide +kernel) rfl, av_in (by decide +kernel) rfl, av_in (by decide +kernel) rfl, ⟨_, rfl, rfl⟩, by decide +kernel⟩
theorem vX8_323 : av_cv RX8 323 mX8_bestVertex 8 3 := ⟨av_in (by decide +kernel) rfl, av_in (by decide +kernel) rfl, av_in (by decide +kernel) rfl, ⟨_, rfl, rfl⟩, by decide +kernel⟩
theorem vL_179 : av_cv RL 179 mX8_at 8 3 := ⟨av_in (by decide +kernel) rfl, av_in (by decide +kernel) rfl, av_in (by decide +kernel) rfl, ⟨_, rfl, rfl⟩, by decide +kernel⟩
theorem vL_183 : av_cv RL 183 mX8_count 8 1 := ⟨av_in (by decide +kernel) rfl, av_in (by decide +kernel) rfl, av_in (by decide +kernel) rfl, ⟨_, rfl, rfl⟩, by decide +kernel⟩
/-! the cells of the two objects, by number -/
def av_N : Nat := 59
def av_LY : List (Nat × Nat) := [(10, 4), (5, 4), (0, 12), (0, 12), (7, 6), (0, 12), (0, 12), (0, 12), (0, 14), (8, 4), (0, 96), (0, 96), (3, 6), (9, 6), (0, 10), (0, 10), (0, 10), (0, 10), (6, 10), (0, 120), (0, 120), (0, 120), (0, 120), (0, 120), (0, 120), (0, 120), (0, 90), (0, 120), (7, 6), (0, 120), (0, 120), (0, 120), (0, 122), (4, 3), (0, 120), (11, 34), (0, 12), (0, 12), (1, 140), (1, 140), (1, 140), (0, 12), (0, 121), (1, 256), (0, 8), (0, 9), (0, 9), (1, 66), (0, 66), (1, 64), (0, 96), (0, 96), (0, 40), (2, 10), (1, 121), (1, 121), (1, 121), (1, 121), (1, 484)]
def av_ly (k : Nat) : Nat × Nat := av_LY.getD k (0, 0)
def av_RF : List (Nat × Nat × Nat) := [(0, 0, 1), (0, 1, 9), (0, 2, 12), (0, 3, 33), (1, 0, 2), (1, 1, 3), (1, 2, 4), (4, 0, 5), (4, 1, 6), (4, 2, 7), (4, 3, 8), (9, 0, 10), (9, 1, 11), (12, 0, 13), (12, 1, 18), (12, 2, 27), (12, 3, 28), (13, 0, 14), (13, 1, 15), (13, 2, 16), (13, 3, 17), (18, 0, 19), (18, 1, 20), (18, 2, 21), (18, 3, 22), (18, 4, 23), (18, 5, 24), (18, 6, 25), (18, 7, 26), (28, 0, 29), (28, 1, 30), (28, 2, 31), (28, 3, 32), (33, 0, 34), (35, 1, 36), (35, 2, 37), (35, 3, 38), (35, 4, 39), (35, 5, 40), (35, 6, 41), (35, 8, 42), (35, 10, 43), (35, 12, 44), (35, 14, 45), (35, 15, 46), (35, 16, 47), (35, 17, 48), (35, 18, 49), (35, 21, 50), (35, 22, 51), (35, 24, 52), (35, 25, 53), (35, 27, 54), (35, 28, 55), (35, 29, 56), (35, 30, 57), (35, 32, 58)]
def av_rfl : List (Nat × Nat × Nat) → Nat → Nat → Option Nat
  | [], _, _ => none
  | (a, b, c) :: r, k, i => bif Nat.beq a k && Nat.beq b i then some c else av_rfl r k i
def av_rf (k i : Nat) : Option Nat := av_rfl av_RF k i
def av_lf (k i : Nat) : Bool := Nat.beq k 35 && Nat.beq i 13
end
section
/-! ===== the two objects seen as a memory of numbers; a method's run over it, without the machine ===== -/
abbrev av_M : Type := Nat → Int → Int
abbrev av_E : Type := Launch × va_G × (Nat → Nat) × (Nat → ClassId)
abbrev av_Ls : Type := List (Nat × av_V)
def av_c (E : av_E) (v : av_V) : Value := match v with
  | .inl z => .int (Int32.ofInt z)
  | .inr (.inl z) => .long (Int64.ofInt z)
  | .inr (.inr k) => .ref (E.2.2.1 k)
def av_cs (E : av_E) (st : List av_V) : List Value := st.map (av_c E)
def av_cl (E : av_E) (ls : av_Ls) : List (Nat × Value) := ls.map (fun q => (q.1, av_c E q.2))
def av_fv (E : av_E) (M : av_M) (k i : Nat) : Value := match av_rf k i with
  | some r => .ref (E.2.2.1 r)
  | none => bif av_lf k i then .long (Int64.ofInt (M k i)) else .int (Int32.ofInt (M k i))
def av_cell (E : av_E) (M : av_M) (k : Nat) : va_E := match av_ly k with
  | (0, n) => .inl (E.2.2.2 0, n, .inl fun j => Int32.ofInt (M k j))
  | (1, n) => .inl (E.2.2.2 1, n, .inr (.inl fun j => Int64.ofInt (M k j)))
  | (2, n) => .inl (E.2.2.2 2, n, .inl fun j => Int32.ofInt (M k j))
  | (ci + 3, n) => .inr (ci, (List.range n).map (av_fv E M k))
def av_ws (E : av_E) (M : av_M) : va_W := (List.range av_N).map fun k => (E.2.2.1 k, av_cell E M k)
def av_A (E : av_E) : Nat → Prop := fun q => ∃ k, k < av_N ∧ q = E.2.2.1 k
def av_inj (E : av_E) : Prop := ∀ i j, i < av_N → j < av_N → E.2.2.1 i = E.2.2.1 j → i = j
def av_tys (E : av_E) : List (ClassId × FieldType) := [(E.2.2.2 0, .int), (E.2.2.2 1, .long), (E.2.2.2 2, .boolean)]
def av_cov (z : Int) : Int := [0, 0, 0, 3, 4, 5, 5, 6, 6].getD z.toNat 0
def av_foo (z : Int) : Int := [0, 0, 0, 3, 4, 5, 4, 4, 4].getD z.toNat 0
def av_Zs (E : av_E) (U : State) (H : Heap) : Prop :=
  va_Z "GreaterBodies" "COVER_BY_CORNERS" "[I" (.ref (E.2.2.1 59)) (av_A E) U H ∧ va_T .int (E.2.2.1 59) 9 (fun j => .int (Int32.ofInt (av_cov j))) (av_A E) U H ∧
  va_Z "GreaterBodies" "FOOLS_BY_CORNERS" "[I" (.ref (E.2.2.1 60)) (av_A E) U H ∧ va_T .int (E.2.2.1 60) 9 (fun j => .int (Int32.ofInt (av_foo j))) (av_A E) U H
def av_Nw (U : State) : Prop := ∀ w ∈ av_NW, va_Nw w U
def av_U (E : av_E) (M : av_M) (U : State) : Prop := va_P E.2.1 vwCl (av_ws E M) U.heap ∧ va_K E.2.1 vwCl (av_tys E) U ∧ av_inj E ∧ av_Zs E U U.heap ∧ av_Nw U
def av_Cx (E : av_E) (d : Nat) (mi : av_mi) (p : Program) (R : Room) (s : State) (m : MethodId) (args : Array Value) (meth : Method) (c : Code) : Prop :=
  av_OK mi ∧ p.tables.exec = Jvm.exec ∧ c.code = mi.2.1 ∧ c.maxLocals = mi.2.2.1 ∧ meth.sig.returnType = mi.2.2.2.1 ∧ s.vm.findClass mi.1.cls = some m.cls ∧ (∀ w ∈ av_WT, w.before args s = true) ∧ meth.locks = false ∧ d ≤ R.frames ∧ 45 * d ≤ R.locals ∧ va_K E.2.1 vwCl (av_tys E) s ∧ av_inj E ∧ av_Zs E s s.heap ∧ av_Nw s
def av_Q (E : av_E) (Q : Option av_V → av_M → Prop) : Array Value → State → Outcome → State → Prop := fun _ st oc t =>
  (∃ (r : Option av_V) (M : av_M), oc = .returned (r.map (av_c E)) ∧ Q r M ∧ va_P E.2.1 vwCl (av_ws E M) t.heap) ∧ va_F (av_A E) st t
/-- the method mi, at pc with the locals ls and the stack st over the memory M, comes to its end with Q; d calls may stand open above it -/
def av_S (E : av_E) (d : Nat) (mi : av_mi) (pc : Nat) (ls : av_Ls) (st : List av_V) (M : av_M) (Q : Option av_V → av_M → Prop) : Prop :=
  ∀ (p : Program) (e : Env) (R : Room) (s : State) (m : MethodId) (args : Array Value) (below : List Frame) (meth : Method) (c : Code) (H : Heap) (locs : List Loc) (lsA : Array Slot),
    av_Cx E d mi p R s m args meth c → va_P E.2.1 vwCl (av_ws E M) H → va_S (av_A E) s.heap H locs → lv_has lsA mi.2.2.1 (av_cl E ls) →
    W p E.1 e R s m args below meth c H locs 0 0 (MQ below (av_Q E Q) args s 0 0 (av_A E)) (F0 m pc lsA (av_cs E st))
/-- the method's contract -/
def av_Mt (E : av_E) (d : Nat) (mi : av_mi) (as : List av_V) (M : av_M) (Q : Option av_V → av_M → Prop) : Prop :=
  Met E.1 mi.1 (Cond.code mi.1 mi.2.1 mi.2.2.1 mi.2.2.2.1 :: av_WT) { frames := d, cells := 0, slots := 0, locals := 45 * d } (va_Pc (av_cs E as) (av_U E M)) (av_Q E Q) 0 0 (av_A E)
/-- the result is r, the memory M1 -/
def av_X (r0 : Option av_V) (M1 : av_M) : Option av_V → av_M → Prop := fun r M => r = r0 ∧ M = M1
def av_up (M : av_M) (k : Nat) (z v : Int) : av_M := fun k' => if k' = k then (fun j => if j = z then v else M k j) else M k'
theorem av_up_ne {M : av_M} {k k' : Nat} {z v : Int} (h : k' ≠ k) : av_up M k z v k' = M k' := by simp [av_up, h]
theorem av_up_eq {M : av_M} {k : Nat} {z v : Int} : av_up M k z v k = fun j => if j = z then v else M k j := by simp [av_up]
theorem av_up_at {M : av_M} {k : Nat} {z v : Int} : av_up M k z v k z = v := by simp [av_up]
theorem av_up_off {M : av_M} {k : Nat} {z v j : Int} (h : j ≠ z) : av_up M k z v k j = M k j := by simp [av_up, h]
/-! the locals -/
def av_w2 (v : av_V) : Bool := match v with
  | .inr (.inl _) => true
  | _ => false
def av_ld : av_Ls → Nat → Option av_V
  | [], _ => none
  | q :: r, i => bif Nat.beq q.1 i then some q.2 else av_ld r i
def av_ins (i : Nat) (v : av_V) : av_Ls → av_Ls
  | [] => [(i, v)]
  | q :: r => bif Nat.blt q.1 i then q :: av_ins i v r else (i, v) :: q :: r
def av_kp (i : Nat) (v : av_V) (q : Nat × av_V) : Bool := !(Nat.beq q.1 i) && (!(Nat.beq (q.1 + 1) i && av_w2 q.2) && !(Nat.beq q.1 (i + 1) && av_w2 v))
def av_st (i : Nat) (v : av_V) (ls : av_Ls) : av_Ls := av_ins i v (ls.filter (av_kp i v))
def av_wd : List av_V → Nat
  | [] => 0
  | v :: r => (bif av_w2 v then 2 else 1) + av_wd r
def av_as : Nat → List av_V → av_Ls
  | _, [] => []
  | i, v :: vs => (i, v) :: av_as (bif av_w2 v then i + 2 else i + 1) vs
theorem av_cat (E : av_E) (v : av_V) : (av_c E v).category = bif av_w2 v then 2 else 1 := by
  rcases v with z | z | k <;> rfl
theorem av_ld_mem {ls : av_Ls} {i : Nat} {v : av_V} (h : av_ld ls i = some v) : (i, v) ∈ ls := by
  induction ls with
  | nil => cases h
  | cons q r ih =>
    unfold av_ld at h
    cases hb : Nat.beq q.1 i with
    | true =>
      rw [hb] at h
      have e1 : q.1 = i := Nat.eq_of_beq_eq_true hb
      have e2 : q.2 = v := Option.some.inj h
      rw [← e1, ← e2]; exact List.mem_cons_self
    | false => rw [hb] at h; exact List.mem_cons_of_mem _ (ih h)
theorem av_ins_mem {i : Nat} {v : av_V} {ls : av_Ls} {q : Nat × av_V} (h : q ∈ av_ins i v ls) : q = (i, v) ∨ q ∈ ls := by
  induction ls with
  | nil => exact Or.inl (List.mem_singleton.mp h)
  | cons a r ih =>
    unfold av_ins at h
    cases hb : Nat.blt a.1 i with
    | true =>
      rw [hb] at h
      rcases List.mem_cons.mp h with h | h
      · exact Or.inr (by rw [h]; exact List.mem_cons_self)
      · rcases ih h with h | h
        · exact Or.inl h
        · exact Or.inr (List.mem_cons_of_mem _ h)
    | false =>
      rw [hb] at h
      rcases List.mem_cons.mp h with h | h
      · exact Or.inl h
      · exact Or.inr h
theorem av_has_ld {E : av_E} {lsA : Array Slot} {n : Nat} {ls : av_Ls} (hl : lv_has lsA n (av_cl E ls)) {i : Nat} {v : av_V} (h : av_ld ls i = some v) : lsA[i]? = some (.val (av_c E v)) :=
  hl.2.2 (i, av_c E v) (List.mem_map.mpr ⟨(i, v), av_ld_mem h, rfl⟩)
theorem av_has_at {E : av_E} {ls : av_Ls} {i : Nat} {v : av_V} (h : av_ld ls i = some v) : ∃ k : Nat, (av_cl E ls)[k]? = some (i, av_c E v) :=
  List.getElem?_of_mem (List.mem_map.mpr ⟨(i, v), av_ld_mem h, rfl⟩)
theorem av_has_sub {E : av_E} {lsA : Array Slot} {n : Nat} {ls ls' : av_Ls} (hl : lv_has lsA n (av_cl E ls)) (h : ∀ q ∈ ls', q ∈ ls) : lv_has lsA n (av_cl E ls') :=
  ⟨hl.1, hl.2.1, fun q hq => by
    obtain ⟨a, ha, rfl⟩ := List.mem_map.mp hq
    exact hl.2.2 _ (List.mem_map.mpr ⟨a, h a ha, rfl⟩)⟩
theorem av_has_st1 {E : av_E} {lsA : Array Slot} {n i : Nat} {ls ls' : av_Ls} {v : av_V} (he : av_st i v ls = ls') (hv : av_w2 v = false)
    (hl : lv_has lsA n ((i, av_c E v) :: (av_cl E ls).filter (fun q => !(q.1 == i) && !(q.1 + 1 == i && q.2.category == 2)))) : lv_has lsA n (av_cl E ls') := by
  refine ⟨hl.1, hl.2.1, fun q hq => ?_⟩
  obtain ⟨a, ha, rfl⟩ := List.mem_map.mp hq
  rw [← he] at ha
  rcases av_ins_mem ha with h | h
  · rw [h]; exact hl.2.2 _ List.mem_cons_self
  · obtain ⟨h1, h2⟩ := List.mem_filter.mp h
    refine hl.2.2 _ (List.mem_cons_of_mem _ (List.mem_filter.mpr ⟨List.mem_map.mpr ⟨a, h1, rfl⟩, ?_⟩))
    unfold av_kp at h2
    simp only [hv, av_cat, Bool.and_false, Bool.not_false, Bool.and_true, Bool.and_eq_true, Bool.not_eq_true', Bool.and_eq_false_iff] at h2 ⊢
    obtain ⟨h3, h4⟩ := h2
    refine ⟨?_, ?_⟩
    · exact beq_eq_false_iff_ne.mpr (Nat.ne_of_beq_eq_false h3)
    · rcases h4 with h4 | h4
      · exact Or.inl (beq_eq_false_iff_ne.mpr (Nat.ne_of_beq_eq_false h4))
      · exact Or.inr (by rw [h4]; rfl)
theorem av_has_st2 {E : av_E} {lsA : Array Slot} {n i : Nat} {ls ls' : av_Ls} {v : av_V} (he : av_st i v ls = ls') (hv : av_w2 v = true)
    (hl : lv_has lsA n ((i, av_c E v) :: (av_cl E ls).filter (fun q => !(q.1 == i) && (!(q.1 == i + 1) && !(q.1 + 1 == i && q.2.category == 2))))) : lv_has lsA n (av_cl E ls') := by
  refine ⟨hl.1, hl.2.1, fun q hq => ?_⟩
  obtain ⟨a, ha, rfl⟩ := List.mem_map.mp hq
  rw [← he] at ha
  rcases av_ins_mem ha with h | h
  · rw [h]; exact hl.2.2 _ List.mem_cons_self
  · obtain ⟨h1, h2⟩ := List.mem_filter.mp h
    refine hl.2.2 _ (List.mem_cons_of_mem _ (List.mem_filter.mpr ⟨List.mem_map.mpr ⟨a, h1, rfl⟩, ?_⟩))
    unfold av_kp at h2
    simp only [hv, av_cat, Bool.and_true, Bool.and_eq_true, Bool.not_eq_true', Bool.and_eq_false_iff] at h2 ⊢
    obtain ⟨h3, h4, h5⟩ := h2
    refine ⟨?_, ?_, ?_⟩
    · exact beq_eq_false_iff_ne.mpr (Nat.ne_of_beq_eq_false h3)
    · exact beq_eq_false_iff_ne.mpr (Nat.ne_of_beq_eq_false h5)
    · rcases h4 with h4 | h4
      · exact Or.inl (beq_eq_false_iff_ne.mpr (Nat.ne_of_beq_eq_false h4))
      · exact Or.inr (by rw [h4]; rfl)
/-! the code -/
theorem av_lk_mem {T : av_T} {pc : Nat} {q : Instr × Nat × Nat} (h : av_lk T pc = some q) : (pc, q) ∈ T := by
  induction T with
  | nil => cases h
  | cons a r ih =>
    unfold av_lk at h
    cases hb : Nat.beq a.1 pc with
    | true =>
      rw [hb] at h
      have e1 : a.1 = pc := Nat.eq_of_beq_eq_true hb
      have e2 : a.2 = q := Option.some.inj h
      rw [← e1, ← e2]; exact List.mem_cons_self
    | false => rw [hb] at h; exact List.mem_cons_of_mem _ (ih h)
theorem av_at1 {mi : av_mi} {pc nx tg : Nat} {op : Instr} (h : av_OK mi) (hl : av_lk mi.2.2.2.2 pc = some (op, nx, tg)) : decode mi.2.1 pc = .ok (op, nx - pc) ∧ pc < nx ∧ (av_len op = 0 ∨ nx = pc + av_len op) ∧ ∀ o, av_tg op = some o → (pc : Int) + o = (tg : Int) := by
  have h1 := List.all_eq_true.mp h _ (av_lk_mem hl)
  unfold av_ok1 at h1
  simp only [Bool.and_eq_true, Bool.or_eq_true, decide_eq_true_eq] at h1
  obtain ⟨⟨⟨h1, h2⟩, h3⟩, h4⟩ := h1
  refine ⟨h1, Nat.le_of_ble_eq_true h2, ?_, fun o ho => ?_⟩
  · rcases h3 with h3 | h3
    · exact Or.inl (Nat.eq_of_beq_eq_true h3)
    · exact Or.inr (Nat.eq_of_beq_eq_true h3)
  · rw [ho] at h4
    exact of_decide_eq_true h4
theorem av_at {mi : av_mi} {pc nx tg n : Nat} {op : Instr} (h : av_OK mi) (hl : av_lk mi.2.2.2.2 pc = some (op, nx, tg)) (hn : av_len op = n + 1) : decode mi.2.1 pc = .ok (op, n + 1) ∧ nx = pc + (n + 1) := by
  obtain ⟨h1, h2, h3, -⟩ := av_at1 h hl
  rcases h3 with h3 | h3
  · omega
  · rw [hn] at h3
    exact ⟨by rw [h1, h3]; congr 2; omega, h3⟩
/-! the heap -/
theorem av_ws_get {E : av_E} {M : av_M} {k : Nat} (hk : k < av_N) : (av_ws E M)[k]? = some (E.2.2.1 k, av_cell E M k) := by
  simp [av_ws, List.getElem?_map, List.getElem?_range hk]
theorem av_ws_inv {E : av_E} {M : av_M} {k : Nat} {q : Nat × va_E} (h : (av_ws E M)[k]? = some q) : k < av_N ∧ q = (E.2.2.1 k, av_cell E M k) := by
  have hk : k < av_N := by
    have := (List.getElem?_eq_some_iff.mp h).1
    simpa [av_ws] using this
  exact ⟨hk, Option.some.inj (h.symm.trans (av_ws_get hk))⟩
theorem av_D_ws {E : av_E} (h : av_inj E) (M : av_M) : va_D (av_A E) (av_ws E M) := by
  refine ⟨fun i j p q hp hq e => ?_, fun k q hq => ?_⟩
  · obtain ⟨h1, rfl⟩ := av_ws_inv hp
    obtain ⟨h2, rfl⟩ := av_ws_inv hq
    exact h i j h1 h2 e
  · obtain ⟨h1, rfl⟩ := av_ws_inv hq
    exact ⟨k, h1, rfl⟩
theorem av_cell_congr {E : av_E} {M M' : av_M} {k : Nat} (h : M' k = M k) : av_cell E M' k = av_cell E M k := by
  unfold av_cell av_fv
  simp only [h]
theorem av_ws_set {E : av_E} {M M' : av_M} {k : Nat} {x : va_E} (hx : x = av_cell E M' k) (ho : ∀ j, j ≠ k → M' j = M j) : (av_ws E M).set k (E.2.2.1 k, x) = av_ws E M' := by
  apply List.ext_getElem?
  intro i
  rw [List.getElem?_set]
  by_cases hi : k = i
  · subst hi
    simp only [if_true]
    by_cases hk : k < av_N
    · rw [if_pos (by simpa [av_ws] using hk), av_ws_get hk, hx]
    · rw [if_neg (by simpa [av_ws] using hk)]
      symm
      rw [List.getElem?_eq_none_iff]
      simpa [av_ws] using Nat.le_of_not_lt hk
  · rw [if_neg hi]
    by_cases hk : i < av_N
    · rw [av_ws_get hk, av_ws_get hk, av_cell_congr (ho i fun q => hi q.symm)]
    · have e : ∀ M : av_M, (av_ws E M)[i]? = none := fun M => by
        rw [List.getElem?_eq_none_iff]
        simpa [av_ws] using Nat.le_of_not_lt hk
      rw [e, e]
theorem av_ly_all : ∀ k, k < av_N → (av_ly k).2 ≤ 1000 := by decide +kernel
theorem av_ly_len : av_LY.length = av_N := by decide +kernel
theorem av_ly_out {k : Nat} (h : ¬ k < av_N) : av_ly k = (0, 0) := by
  unfold av_ly
  rw [List.getD_eq_getElem?_getD, List.getElem?_eq_none (by rw [av_ly_len]; omega)]
  rfl
theorem av_ly_le (k : Nat) : (av_ly k).2 ≤ 1000 := by
  by_cases h : k < av_N
  · exact av_ly_all k h
  · rw [av_ly_out h]; exact Nat.zero_le _
theorem av_ly_in {k a n : Nat} (h : av_ly k = (a, n)) (h0 : 0 < a ∨ 0 < n) : k < av_N ∧ n ≤ 1000 := by
  refine ⟨?_, by have := av_ly_le k; rw [h] at this; exact this⟩
  apply Classical.byContradiction
  intro hk
  rw [av_ly_out hk] at h
  cases h
  omega
theorem av_to32 {z : Int} (h0 : -2147483648 ≤ z) (h1 : z < 2147483648) : (Int32.ofInt z).toInt = z := Int32.toInt_ofInt_of_le (by omega) (by omega)
theorem av_to64 {z : Int} (h0 : -9223372036854775808 ≤ z) (h1 : z < 9223372036854775808) : (Int64.ofInt z).toInt = z := Int64.toInt_ofInt_of_le (by omega) (by omega)
theorem av_vin {z : Int} {n : Nat} (hz : 0 ≤ z ∧ z < n) (hn : n ≤ 1000) : vp_in (Int32.ofInt z) n ∧ ((Int32.ofInt z).toNatClampNeg : Int) = z := by
  have e := av_to32 (z := z) (by omega) (by omega)
  refine ⟨vp_in_iff.mpr (by rw [e]; exact hz), ?_⟩
  have e2 : (Int32.ofInt z).toNatClampNeg = (Int32.ofInt z).toInt.toNat := rfl
  rw [e2, e]
  omega
theorem av_lt32 {x y : Int} (hx : -2147483648 ≤ x ∧ x < 2147483648) (hy : -2147483648 ≤ y ∧ y < 2147483648) : (Int32.ofInt x < Int32.ofInt y) ↔ x < y := by
  rw [Int32.lt_iff_toInt_lt, av_to32 hx.1 hx.2, av_to32 hy.1 hy.2]
theorem av_le32 {x y : Int} (hx : -2147483648 ≤ x ∧ x < 2147483648) (hy : -2147483648 ≤ y ∧ y < 2147483648) : (Int32.ofInt x ≤ Int32.ofInt y) ↔ x ≤ y := by
  rw [Int32.le_iff_toInt_le, av_to32 hx.1 hx.2, av_to32 hy.1 hy.2]
theorem av_eq32 {x y : Int} (hx : -2147483648 ≤ x ∧ x < 2147483648) (hy : -2147483648 ≤ y ∧ y < 2147483648) : (Int32.ofInt x = Int32.ofInt y) ↔ x = y := by
  rw [← Int32.toInt_inj, av_to32 hx.1 hx.2, av_to32 hy.1 hy.2]
theorem av_lt64 {x y : Int} (hx : -9223372036854775808 ≤ x ∧ x < 9223372036854775808) (hy : -9223372036854775808 ≤ y ∧ y < 9223372036854775808) : (Int64.ofInt x < Int64.ofInt y) ↔ x < y := by
  rw [Int64.lt_iff_toInt_lt, av_to64 hx.1 hx.2, av_to64 hy.1 hy.2]
theorem av_eq64 {x y : Int} (hx : -9223372036854775808 ≤ x ∧ x < 9223372036854775808) (hy : -9223372036854775808 ≤ y ∧ y < 9223372036854775808) : (Int64.ofInt x = Int64.ofInt y) ↔ x = y := by
  rw [← Int64.toInt_inj, av_to64 hx.1 hx.2, av_to64 hy.1 hy.2]
/-! ===== rules: one instruction each ===== -/
section AX
variable {E : av_E} {d : Nat} {mi : av_mi} {pc nx tg : Nat} {ls ls' : av_Ls} {st st' rest : List av_V} {M : av_M} {Q : Option av_V → av_M → Prop}
theorem ax_go {op : Instr} {n : Nat} (hi : av_lk mi.2.2.2.2 pc = some (op, nx, tg)) (hn : av_len op = n + 1)
    (row : ∀ (p : Program) (e : Env) (R : Room) (s : State) (m : MethodId) (args : Array Value) (below : List Frame) (meth : Method) (c : Code) (H : Heap) (locs : List Loc) (lsA : Array Slot) (Qm : State → Prop),
      av_Cx E d mi p R s m args meth c → decode mi.2.1 pc = .ok (op, n + 1) → lv_has lsA mi.2.2.1 (av_cl E ls) → va_P E.2.1 vwCl (av_ws E M) H → va_S (av_A E) s.heap H locs →
      W p E.1 e R s m args below meth c H locs 0 0 Qm (F0 m (pc + (n + 1)) lsA (av_cs E st')) → W p E.1 e R s m args below meth c H locs 0 0 Qm (F0 m pc lsA (av_cs E st)))
    (k : av_S E d mi nx ls st' M Q) : av_S E d mi pc ls st M Q := by
  intro p e R s m args below meth c H locs lsA C hP hS hl
  obtain ⟨hd, rfl⟩ := av_at C.1 hi hn
  exact row p e R s m args below meth c H locs lsA _ C hd hl hP hS (k p e R s m args below meth c H locs lsA C hP hS hl)
theorem av_Wst {p : Program} {l : Launch} {e : Env} {R : Room} {s : State} {m : MethodId} {args : Array Value} {below : List Frame} {meth : Method} {c : Code} {H : Heap} {locs : List Loc} {lsA : Array Slot} {Qm : State → Prop} {pc pc' : Nat} {s1 s2 : List Value} (k : W p l e R s m args below meth c H locs 0 0 Qm (F0 m pc lsA s1)) (h : s1 = s2) (hp : pc = pc') : W p l e R s m args below meth c H locs 0 0 Qm (F0 m pc' lsA s2) := by subst h; subst hp; exact k
theorem ax_iconst {z : Int} (hi : av_lk mi.2.2.2.2 pc = some (.iconst z, nx, tg)) (k : av_S E d mi nx ls (vI z :: st) M Q) : av_S E d mi pc ls st M Q :=
  ax_go (st' := (vI z :: st)) hi rfl (fun _ _ _ _ _ _ _ _ _ _ _ _ _ C hd _ _ _ k => lv_iconst C.2.1 C.2.2.1 hd rfl k) k
theorem ax_bipush {z : Int} (hi : av_lk mi.2.2.2.2 pc = some (.bipush z, nx, tg)) (hz : (Int8.ofInt z).toInt32 = Int32.ofInt z) (k : av_S E d mi nx ls (vI z :: st) M Q) : av_S E d mi pc ls st M Q :=
  ax_go (st' := (vI z :: st)) hi rfl (fun _ _ _ _ _ _ _ _ _ _ _ _ _ C hd _ _ _ k => lv_bipush C.2.1 C.2.2.1 hd hz k) k
theorem ax_sipush {z : Int} (hi : av_lk mi.2.2.2.2 pc = some (.sipush z, nx, tg)) (hz : (Int16.ofInt z).toInt32 = Int32.ofInt z) (k : av_S E d mi nx ls (vI z :: st) M Q) : av_S E d mi pc ls st M Q :=
  ax_go (st' := (vI z :: st)) hi rfl (fun _ _ _ _ _ _ _ _ _ _ _ _ _ C hd _ _ _ k => lv_sipush C.2.1 C.2.2.1 hd hz k) k
theorem ax_lconst {z : Fin 2} {w : Int} (hi : av_lk mi.2.2.2.2 pc = some (.lconst z, nx, tg)) (hz : Int64.ofNat (z : Nat) = Int64.ofInt w) (k : av_S E d mi nx ls (vL w :: st) M Q) : av_S E d mi pc ls st M Q :=
  ax_go (st' := (vL w :: st)) hi rfl (fun _ _ _ _ _ _ _ _ _ _ _ _ _ C hd _ _ _ k => lv_lconst C.2.1 C.2.2.1 hd hz k) k
theorem ax_ldc {ix : Nat} {v : Int32} {z : Int} (hi : av_lk mi.2.2.2.2 pc = some (.ldc ix, nx, tg)) (hc : Cond.constant mi.1.cls ix v ∈ av_WT) (hz : v = Int32.ofInt z) (k : av_S E d mi nx ls (vI z :: st) M Q) : av_S E d mi pc ls st M Q :=
  ax_go (st' := (vI z :: st)) hi rfl (fun _ _ _ _ _ _ _ _ _ _ _ _ _ C hd _ _ _ k => lv_ldc C.2.1 C.2.2.1 C.2.2.2.2.2.1 (C.2.2.2.2.2.2.1 _ hc) hd (by rw [hz]; exact k)) k
theorem ax_ldcw {ix : Nat} {v : Int32} {z : Int} (hi : av_lk mi.2.2.2.2 pc = some (.ldc_w ix, nx, tg)) (hc : Cond.constant mi.1.cls ix v ∈ av_WT) (hz : v = Int32.ofInt z) (k : av_S E d mi nx ls (vI z :: st) M Q) : av_S E d mi pc ls st M Q :=
  ax_go (st' := (vI z :: st)) hi rfl (fun _ _ _ _ _ _ _ _ _ _ _ _ _ C hd _ _ _ k => lv_ldcw C.2.1 C.2.2.1 C.2.2.2.2.2.1 (C.2.2.2.2.2.2.1 _ hc) hd (by rw [hz]; exact k)) k
theorem ax_ldc2 {ix : Nat} {v : Int64} {z : Int} (hi : av_lk mi.2.2.2.2 pc = some (.ldc2_w ix, nx, tg)) (hc : Cond.constantLong mi.1.cls ix v ∈ av_WT) (hz : v = Int64.ofInt z) (k : av_S E d mi nx ls (vL z :: st) M Q) : av_S E d mi pc ls st M Q :=
  ax_go (st' := (vL z :: st)) hi rfl (fun _ _ _ _ _ _ _ _ _ _ _ _ _ C hd _ _ _ k => lv_ldc2 C.2.1 C.2.2.1 C.2.2.2.2.2.1 (C.2.2.2.2.2.2.1 _ hc) hd (by rw [hz]; exact k)) k
-- loads
theorem ax_iloadn {i : Fin 4} {z : Int} (hi : av_lk mi.2.2.2.2 pc = some (.iload_n i, nx, tg)) (hl : av_ld ls (i : Nat) = some (vI z)) (k : av_S E d mi nx ls (vI z :: st) M Q) : av_S E d mi pc ls st M Q :=
  ax_go (st' := (vI z :: st)) hi rfl (fun _ _ _ _ _ _ _ _ _ _ _ _ _ C hd hL _ _ k => lv_iload_n C.2.1 C.2.2.1 hd rfl (av_has_ld hL hl) k) k
theorem ax_iload {i : Nat} {z : Int} (hi : av_lk mi.2.2.2.2 pc = some (.iload i, nx, tg)) (hl : av_ld ls i = some (vI z)) (k : av_S E d mi nx ls (vI z :: st) M Q) : av_S E d mi pc ls st M Q :=
  ax_go (st' := (vI z :: st)) hi rfl (fun _ _ _ _ _ _ _ _ _ _ _ _ _ C hd hL _ _ k => lv_iload C.2.1 C.2.2.1 hd (av_has_ld hL hl) k) k
theorem ax_lloadn {i : Fin 4} {z : Int} (hi : av_lk mi.2.2.2.2 pc = some (.lload_n i, nx, tg)) (hl : av_ld ls (i : Nat) = some (vL z)) (k : av_S E d mi nx ls (vL z :: st) M Q) : av_S E d mi pc ls st M Q :=
  ax_go (st' := (vL z :: st)) hi rfl (fun _ _ _ _ _ _ _ _ _ _ _ _ _ C hd hL _ _ k => lv_lload_n C.2.1 C.2.2.1 hd rfl (av_has_ld hL hl) k) k
theorem ax_lload {i : Nat} {z : Int} (hi : av_lk mi.2.2.2.2 pc = some (.lload i, nx, tg)) (hl : av_ld ls i = some (vL z)) (k : av_S E d mi nx ls (vL z :: st) M Q) : av_S E d mi pc ls st M Q :=
  ax_go (st' := (vL z :: st)) hi rfl (fun _ _ _ _ _ _ _ _ _ _ _ _ _ C hd hL _ _ k => lv_lload C.2.1 C.2.2.1 hd (av_has_ld hL hl) k) k
theorem ax_aloadn {i : Fin 4} {z : Nat} (hi : av_lk mi.2.2.2.2 pc = some (.aload_n i, nx, tg)) (hl : av_ld ls (i : Nat) = some (vR z)) (k : av_S E d mi nx ls (vR z :: st) M Q) : av_S E d mi pc ls st M Q :=
  ax_go (st' := (vR z :: st)) hi rfl (fun _ _ _ _ _ _ _ _ _ _ _ _ _ C hd hL _ _ k => lv_aload_n C.2.1 C.2.2.1 hd rfl (av_has_ld hL hl) k) k
theorem ax_aload {i : Nat} {z : Nat} (hi : av_lk mi.2.2.2.2 pc = some (.aload i, nx, tg)) (hl : av_ld ls i = some (vR z)) (k : av_S E d mi nx ls (vR z :: st) M Q) : av_S E d mi pc ls st M Q :=
  ax_go (st' := (vR z :: st)) hi rfl (fun _ _ _ _ _ _ _ _ _ _ _ _ _ C hd hL _ _ k => lv_aload C.2.1 C.2.2.1 hd (av_has_ld hL hl) k) k
-- stores
theorem ax_istoren {i : Fin 4} {z : Int} (hi : av_lk mi.2.2.2.2 pc = some (.istore_n i, nx, tg)) (hm : Nat.blt i mi.2.2.1 = true) (hl : av_st i (vI z) ls = ls') (k : av_S E d mi nx ls' st M Q) : av_S E d mi pc ls (vI z :: st) M Q := by
  intro p e R s m args below meth c H locs lsA C hP hS hL
  obtain ⟨hd, rfl⟩ := av_at (n := 0) C.1 hi rfl
  exact lv_istore_n C.2.1 C.2.2.1 hd rfl hL (Nat.le_of_ble_eq_true hm) rfl fun lsB hB => k p e R s m args below meth c H locs lsB C hP hS (av_has_st1 hl rfl hB)
theorem ax_istore {i : Nat} {z : Int} (hi : av_lk mi.2.2.2.2 pc = some (.istore i, nx, tg)) (hm : Nat.blt i mi.2.2.1 = true) (hl : av_st i (vI z) ls = ls') (k : av_S E d mi nx ls' st M Q) : av_S E d mi pc ls (vI z :: st) M Q := by
  intro p e R s m args below meth c H locs lsA C hP hS hL
  obtain ⟨hd, rfl⟩ := av_at (n := 1) C.1 hi rfl
  exact lv_istore C.2.1 C.2.2.1 hd hL (Nat.le_of_ble_eq_true hm) rfl fun lsB hB => k p e R s m args below meth c H locs lsB C hP hS (av_has_st1 hl rfl hB)
theorem ax_astore {i : Nat} {z : Nat} (hi : av_lk mi.2.2.2.2 pc = some (.astore i, nx, tg)) (hm : Nat.blt i mi.2.2.1 = true) (hl : av_st i (vR z) ls = ls') (k : av_S E d mi nx ls' st M Q) : av_S E d mi pc ls (vR z :: st) M Q := by
  intro p e R s m args below meth c H locs lsA C hP hS hL
  obtain ⟨hd, rfl⟩ := av_at (n := 1) C.1 hi rfl
  exact lv_astore C.2.1 C.2.2.1 hd hL (Nat.le_of_ble_eq_true hm) rfl fun lsB hB => k p e R s m args below meth c H locs lsB C hP hS (av_has_st1 hl rfl hB)
theorem ax_lstoren {i : Fin 4} {z : Int} (hi : av_lk mi.2.2.2.2 pc = some (.lstore_n i, nx, tg)) (hm : Nat.blt (i + 1) mi.2.2.1 = true) (hl : av_st i (vL z) ls = ls') (k : av_S E d mi nx ls' st M Q) : av_S E d mi pc ls (vL z :: st) M Q := by
  intro p e R s m args below meth c H locs lsA C hP hS hL
  obtain ⟨hd, rfl⟩ := av_at (n := 0) C.1 hi rfl
  exact lv_lstore_n C.2.1 C.2.2.1 hd rfl hL (Nat.le_of_ble_eq_true hm) rfl fun lsB hB => k p e R s m args below meth c H locs lsB C hP hS (av_has_st2 hl rfl hB)
theorem ax_lstore {i : Nat} {z : Int} (hi : av_lk mi.2.2.2.2 pc = some (.lstore i, nx, tg)) (hm : Nat.blt (i + 1) mi.2.2.1 = true) (hl : av_st i (vL z) ls = ls') (k : av_S E d mi nx ls' st M Q) : av_S E d mi pc ls (vL z :: st) M Q := by
  intro p e R s m args below meth c H locs lsA C hP hS hL
  obtain ⟨hd, rfl⟩ := av_at (n := 1) C.1 hi rfl
  exact lv_lstore C.2.1 C.2.2.1 hd hL (Nat.le_of_ble_eq_true hm) rfl fun lsB hB => k p e R s m args below meth c H locs lsB C hP hS (av_has_st2 hl rfl hB)
theorem ax_iinc {i : Nat} {n z : Int} (hi : av_lk mi.2.2.2.2 pc = some (.iinc i n, nx, tg)) (hm : Nat.blt i mi.2.2.1 = true) (h0 : av_ld ls i = some (vI z)) (hl : av_st i (vI (z + n)) ls = ls') (k : av_S E d mi nx ls' st M Q) : av_S E d mi pc ls st M Q := by
  intro p e R s m args below meth c H locs lsA C hP hS hL
  obtain ⟨hd, rfl⟩ := av_at (n := 2) C.1 hi rfl
  obtain ⟨kk, hk⟩ := av_has_at (E := E) h0
  refine lv_iinc (v := Int32.ofInt (z + n)) C.2.1 C.2.2.1 hd hL hk (Int32.ofInt_add z n).symm (Nat.le_of_ble_eq_true hm) rfl fun lsB hB => k p e R s m args below meth c H locs lsB C hP hS (av_has_st1 hl rfl hB)
/-- fewer locals -/
theorem ax_drop (h : ls'.all (fun q => ls.any (fun r => Nat.beq q.1 r.1)) = true → ∀ q ∈ ls', q ∈ ls) (k : (∀ q ∈ ls', q ∈ ls) → av_S E d mi pc ls' st M Q) (h0 : ls'.all (fun q => ls.any (fun r => Nat.beq q.1 r.1)) = true) : av_S E d mi pc ls st M Q := by
  intro p e R s m args below meth c H locs lsA C hP hS hL
  exact k (h h0) p e R s m args below meth c H locs lsA C hP hS (av_has_sub hL (h h0))
/-- fewer locals, by their places -/
theorem ax_pick (ks : List Nat) (h : ks.filterMap (fun i => ls[i]?) = ls') (k : av_S E d mi pc ls' st M Q) : av_S E d mi pc ls st M Q := by
  intro p e R s m args below meth c H locs lsA C hP hS hL
  refine k p e R s m args below meth c H locs lsA C hP hS (av_has_sub hL fun q hq => ?_)
  rw [← h] at hq
  obtain ⟨i, -, hi⟩ := List.mem_filterMap.mp hq
  exact List.mem_of_getElem? hi
-- arithmetic
theorem ax_iadd {x y : Int} (hi : av_lk mi.2.2.2.2 pc = some (.iadd, nx, tg)) (k : av_S E d mi nx ls (vI (x + y) :: st) M Q) : av_S E d mi pc ls (vI y :: vI x :: st) M Q :=
  ax_go (st' := (vI (x + y) :: st)) hi rfl (fun _ _ _ _ _ _ _ _ _ _ _ _ _ C hd _ _ _ k => lv_iadd C.2.1 C.2.2.1 hd (av_Wst k (by simp [av_cs, av_c]) rfl)) k
theorem ax_isub {x y : Int} (hi : av_lk mi.2.2.2.2 pc = some (.isub, nx, tg)) (k : av_S E d mi nx ls (vI (x - y) :: st) M Q) : av_S E d mi pc ls (vI y :: vI x :: st) M Q :=
  ax_go (st' := (vI (x - y) :: st)) hi rfl (fun _ _ _ _ _ _ _ _ _ _ _ _ _ C hd _ _ _ k => lv_isub C.2.1 C.2.2.1 hd (av_Wst k (by simp [av_cs, av_c]) rfl)) k
theorem ax_imul {x y : Int} (hi : av_lk mi.2.2.2.2 pc = some (.imul, nx, tg)) (k : av_S E d mi nx ls (vI (x * y) :: st) M Q) : av_S E d mi pc ls (vI y :: vI x :: st) M Q :=
  ax_go (st' := (vI (x * y) :: st)) hi rfl (fun _ _ _ _ _ _ _ _ _ _ _ _ _ C hd _ _ _ k => lv_imul C.2.1 C.2.2.1 hd (av_Wst k (by simp [av_cs, av_c]) rfl)) k
theorem ax_ineg {x : Int} (hi : av_lk mi.2.2.2.2 pc = some (.ineg, nx, tg)) (k : av_S E d mi nx ls (vI (-x) :: st) M Q) : av_S E d mi pc ls (vI x :: st) M Q :=
  ax_go (st' := (vI (-x) :: st)) hi rfl (fun _ _ _ _ _ _ _ _ _ _ _ _ _ C hd _ _ _ k => lv_ineg C.2.1 C.2.2.1 hd (av_Wst k (by simp [av_cs, av_c]) rfl)) k
theorem ax_ladd {x y : Int} (hi : av_lk mi.2.2.2.2 pc = some (.ladd, nx, tg)) (k : av_S E d mi nx ls (vL (x + y) :: st) M Q) : av_S E d mi pc ls (vL y :: vL x :: st) M Q :=
  ax_go (st' := (vL (x + y) :: st)) hi rfl (fun _ _ _ _ _ _ _ _ _ _ _ _ _ C hd _ _ _ k => lv_ladd C.2.1 C.2.2.1 hd (av_Wst k (by simp [av_cs, av_c]) rfl)) k
theorem ax_lsub {x y : Int} (hi : av_lk mi.2.2.2.2 pc = some (.lsub, nx, tg)) (k : av_S E d mi nx ls (vL (x - y) :: st) M Q) : av_S E d mi pc ls (vL y :: vL x :: st) M Q :=
  ax_go (st' := (vL (x - y) :: st)) hi rfl (fun _ _ _ _ _ _ _ _ _ _ _ _ _ C hd _ _ _ k => lv_lsub C.2.1 C.2.2.1 hd (av_Wst k (by simp [av_cs, av_c]) rfl)) k
theorem ax_lmul {x y : Int} (hi : av_lk mi.2.2.2.2 pc = some (.lmul, nx, tg)) (k : av_S E d mi nx ls (vL (x * y) :: st) M Q) : av_S E d mi pc ls (vL y :: vL x :: st) M Q :=
  ax_go (st' := (vL (x * y) :: st)) hi rfl (fun _ _ _ _ _ _ _ _ _ _ _ _ _ C hd _ _ _ k => lv_lmul C.2.1 C.2.2.1 hd (av_Wst k (by simp [av_cs, av_c]) rfl)) k
theorem ax_lneg {x : Int} (hi : av_lk mi.2.2.2.2 pc = some (.lneg, nx, tg)) (k : av_S E d mi nx ls (vL (-x) :: st) M Q) : av_S E d mi pc ls (vL x :: st) M Q :=
  ax_go (st' := (vL (-x) :: st)) hi rfl (fun _ _ _ _ _ _ _ _ _ _ _ _ _ C hd _ _ _ k => lv_lneg C.2.1 C.2.2.1 hd (av_Wst k (by simp [av_cs, av_c]) rfl)) k
theorem av_tdiv32 {x y : Int} (hx : -2147483648 ≤ x ∧ x < 2147483648) (hy : -2147483648 ≤ y ∧ y < 2147483648) : Int32.ofInt x / Int32.ofInt y = Int32.ofInt (x.tdiv y) := by
  apply Int32.toInt_inj.mp
  rw [Int32.toInt_div, av_to32 hx.1 hx.2, av_to32 hy.1 hy.2, Int32.toInt_ofInt]
theorem av_tdiv64 {x y : Int} (hx : -9223372036854775808 ≤ x ∧ x < 9223372036854775808) (hy : -9223372036854775808 ≤ y ∧ y < 9223372036854775808) : Int64.ofInt x / Int64.ofInt y = Int64.ofInt (x.tdiv y) := by
  apply Int64.toInt_inj.mp
  rw [Int64.toInt_div, av_to64 hx.1 hx.2, av_to64 hy.1 hy.2, Int64.toInt_ofInt]
theorem av_ne32 {y : Int} (hy : -2147483648 ≤ y ∧ y < 2147483648) (h0 : y ≠ 0) : ¬ Int32.ofInt y = 0 := fun h => h0 ((av_eq32 hy (by omega)).mp (h.trans (by rfl : (0 : Int32) = Int32.ofInt 0)))
theorem av_ne64 {y : Int} (hy : -9223372036854775808 ≤ y ∧ y < 9223372036854775808) (h0 : y ≠ 0) : ¬ Int64.ofInt y = 0 := fun h => h0 ((av_eq64 hy (by omega)).mp (h.trans (by rfl : (0 : Int64) = Int64.ofInt 0)))
theorem ax_idiv {x y : Int} (hi : av_lk mi.2.2.2.2 pc = some (.idiv, nx, tg)) (hx : -2147483648 ≤ x ∧ x < 2147483648) (hy : -2147483648 ≤ y ∧ y < 2147483648) (h0 : y ≠ 0) (k : av_S E d mi nx ls (vI (x.tdiv y) :: st) M Q) : av_S E d mi pc ls (vI y :: vI x :: st) M Q :=
  ax_go (st' := (vI (x.tdiv y) :: st)) hi rfl (fun _ _ _ _ _ _ _ _ _ _ _ _ _ C hd _ _ _ k => lv_idiv C.2.1 C.2.2.1 hd (av_ne32 hy h0) (av_Wst k (by simp [av_cs, av_c, av_tdiv32 hx hy]) rfl)) k
theorem ax_ldiv {x y : Int} (hi : av_lk mi.2.2.2.2 pc = some (.ldiv, nx, tg)) (hx : -9223372036854775808 ≤ x ∧ x < 9223372036854775808) (hy : -9223372036854775808 ≤ y ∧ y < 9223372036854775808) (h0 : y ≠ 0) (k : av_S E d mi nx ls (vL (x.tdiv y) :: st) M Q) : av_S E d mi pc ls (vL y :: vL x :: st) M Q :=
  ax_go (st' := (vL (x.tdiv y) :: st)) hi rfl (fun _ _ _ _ _ _ _ _ _ _ _ _ _ C hd _ _ _ k => lv_ldiv C.2.1 C.2.2.1 hd (av_ne64 hy h0) (av_Wst k (by simp [av_cs, av_c, av_tdiv64 hx hy]) rfl)) k
theorem av_trem {x y : Int} : x.tmod y = x - x.tdiv y * y := by
  have := Int.tmod_add_mul_tdiv x y
  rw [Int.mul_comm] at this
  omega
theorem ax_irem {x y : Int} (hi : av_lk mi.2.2.2.2 pc = some (.irem, nx, tg)) (hx : -2147483648 ≤ x ∧ x < 2147483648) (hy : -2147483648 ≤ y ∧ y < 2147483648) (h0 : y ≠ 0) (k : av_S E d mi nx ls (vI (x.tmod y) :: st) M Q) : av_S E d mi pc ls (vI y :: vI x :: st) M Q :=
  ax_go (st' := (vI (x.tmod y) :: st)) hi rfl (fun _ _ _ _ _ _ _ _ _ _ _ _ _ C hd _ _ _ k => lv_irem C.2.1 C.2.2.1 hd (av_ne32 hy h0) (av_Wst k (by simp [av_cs, av_c, av_tdiv32 hx hy, av_trem]) rfl)) k
theorem ax_lrem {x y : Int} (hi : av_lk mi.2.2.2.2 pc = some (.lrem, nx, tg)) (hx : -9223372036854775808 ≤ x ∧ x < 9223372036854775808) (hy : -9223372036854775808 ≤ y ∧ y < 9223372036854775808) (h0 : y ≠ 0) (k : av_S E d mi nx ls (vL (x.tmod y) :: st) M Q) : av_S E d mi pc ls (vL y :: vL x :: st) M Q :=
  ax_go (st' := (vL (x.tmod y) :: st)) hi rfl (fun _ _ _ _ _ _ _ _ _ _ _ _ _ C hd _ _ _ k => lv_lrem C.2.1 C.2.2.1 hd (av_ne64 hy h0) (av_Wst k (by simp [av_cs, av_c, av_tdiv64 hx hy, av_trem]) rfl)) k
-- bits
def bi_and (x y : Int) : Int := (Int32.ofInt x &&& Int32.ofInt y).toInt
def bi_or (x y : Int) : Int := (Int32.ofInt x ||| Int32.ofInt y).toInt
def bi_xor (x y : Int) : Int := (Int32.ofInt x ^^^ Int32.ofInt y).toInt
def bi_shl (x y : Int) : Int := (Int32.ofInt x <<< (Int32.ofInt y &&& 31)).toInt
def bi_shr (x y : Int) : Int := (Int32.ofInt x >>> (Int32.ofInt y &&& 31)).toInt
def bi_ushr (x y : Int) : Int := ((Int32.ofInt x).toUInt32 >>> ((Int32.ofInt y).toUInt32 &&& Int32.toUInt32 31)).toInt32.toInt
def bl_and (x y : Int) : Int := (Int64.ofInt x &&& Int64.ofInt y).toInt
def bl_or (x y : Int) : Int := (Int64.ofInt x ||| Int64.ofInt y).toInt
def bl_xor (x y : Int) : Int := (Int64.ofInt x ^^^ Int64.ofInt y).toInt
def bl_shl (x y : Int) : Int := (Int64.ofInt x <<< ((Int32.ofInt y).toInt64 &&& 63)).toInt
def bl_shr (x y : Int) : Int := (Int64.ofInt x >>> ((Int32.ofInt y).toInt64 &&& 63)).toInt
theorem ax_iand {x y : Int} (hi : av_lk mi.2.2.2.2 pc = some (.iand, nx, tg)) (k : av_S E d mi nx ls (vI (bi_and x y) :: st) M Q) : av_S E d mi pc ls (vI y :: vI x :: st) M Q :=
  ax_go (st' := (vI (bi_and x y) :: st)) hi rfl (fun _ _ _ _ _ _ _ _ _ _ _ _ _ C hd _ _ _ k => lv_iand C.2.1 C.2.2.1 hd (av_Wst k (by simp [av_cs, av_c, bi_and]) rfl)) k
theorem ax_ior {x y : Int} (hi : av_lk mi.2.2.2.2 pc = some (.ior, nx, tg)) (k : av_S E d mi nx ls (vI (bi_or x y) :: st) M Q) : av_S E d mi pc ls (vI y :: vI x :: st) M Q :=
  ax_go (st' := (vI (bi_or x y) :: st)) hi rfl (fun _ _ _ _ _ _ _ _ _ _ _ _ _ C hd _ _ _ k => lv_ior C.2.1 C.2.2.1 hd (av_Wst k (by simp [av_cs, av_c, bi_or]) rfl)) k
theorem ax_ixor {x y : Int} (hi : av_lk mi.2.2.2.2 pc = some (.ixor, nx, tg)) (k : av_S E d mi nx ls (vI (bi_xor x y) :: st) M Q) : av_S E d mi pc ls (vI y :: vI x :: st) M Q :=
  ax_go (st' := (vI (bi_xor x y) :: st)) hi rfl (fun _ _ _ _ _ _ _ _ _ _ _ _ _ C hd _ _ _ k => lv_ixor C.2.1 C.2.2.1 hd (av_Wst k (by simp [av_cs, av_c, bi_xor]) rfl)) k
theorem ax_ishl {x y : Int} (hi : av_lk mi.2.2.2.2 pc = some (.ishl, nx, tg)) (k : av_S E d mi nx ls (vI (bi_shl x y) :: st) M Q) : av_S E d mi pc ls (vI y :: vI x :: st) M Q :=
  ax_go (st' := (vI (bi_shl x y) :: st)) hi rfl (fun _ _ _ _ _ _ _ _ _ _ _ _ _ C hd _ _ _ k => lv_ishl C.2.1 C.2.2.1 hd (av_Wst k (by simp [av_cs, av_c, bi_shl]) rfl)) k
theorem ax_ishr {x y : Int} (hi : av_lk mi.2.2.2.2 pc = some (.ishr, nx, tg)) (k : av_S E d mi nx ls (vI (bi_shr x y) :: st) M Q) : av_S E d mi pc ls (vI y :: vI x :: st) M Q :=
  ax_go (st' := (vI (bi_shr x y) :: st)) hi rfl (fun _ _ _ _ _ _ _ _ _ _ _ _ _ C hd _ _ _ k => lv_ishr C.2.1 C.2.2.1 hd (av_Wst k (by simp [av_cs, av_c, bi_shr]) rfl)) k
theorem ax_iushr {x y : Int} (hi : av_lk mi.2.2.2.2 pc = some (.iushr, nx, tg)) (k : av_S E d mi nx ls (vI (bi_ushr x y) :: st) M Q) : av_S E d mi pc ls (vI y :: vI x :: st) M Q :=
  ax_go (st' := (vI (bi_ushr x y) :: st)) hi rfl (fun _ _ _ _ _ _ _ _ _ _ _ _ _ C hd _ _ _ k => lv_iushr C.2.1 C.2.2.1 hd rfl (av_Wst k (by simp [av_cs, av_c, bi_ushr]) rfl)) k
theorem ax_land {x y : Int} (hi : av_lk mi.2.2.2.2 pc = some (.land, nx, tg)) (k : av_S E d mi nx ls (vL (bl_and x y) :: st) M Q) : av_S E d mi pc ls (vL y :: vL x :: st) M Q :=
  ax_go (st' := (vL (bl_and x y) :: st)) hi rfl (fun _ _ _ _ _ _ _ _ _ _ _ _ _ C hd _ _ _ k => lv_land C.2.1 C.2.2.1 hd (av_Wst k (by simp [av_cs, av_c, bl_and]) rfl)) k
theorem ax_lor {x y : Int} (hi : av_lk mi.2.2.2.2 pc = some (.lor, nx, tg)) (k : av_S E d mi nx ls (vL (bl_or x y) :: st) M Q) : av_S E d mi pc ls (vL y :: vL x :: st) M Q :=
  ax_go (st' := (vL (bl_or x y) :: st)) hi rfl (fun _ _ _ _ _ _ _ _ _ _ _ _ _ C hd _ _ _ k => lv_lor C.2.1 C.2.2.1 hd (av_Wst k (by simp [av_cs, av_c, bl_or]) rfl)) k
theorem ax_lxor {x y : Int} (hi : av_lk mi.2.2.2.2 pc = some (.lxor, nx, tg)) (k : av_S E d mi nx ls (vL (bl_xor x y) :: st) M Q) : av_S E d mi pc ls (vL y :: vL x :: st) M Q :=
  ax_go (st' := (vL (bl_xor x y) :: st)) hi rfl (fun _ _ _ _ _ _ _ _ _ _ _ _ _ C hd _ _ _ k => lv_lxor C.2.1 C.2.2.1 hd (av_Wst k (by simp [av_cs, av_c, bl_xor]) rfl)) k
theorem ax_lshl {x y : Int} (hi : av_lk mi.2.2.2.2 pc = some (.lshl, nx, tg)) (k : av_S E d mi nx ls (vL (bl_shl x y) :: st) M Q) : av_S E d mi pc ls (vI y :: vL x :: st) M Q :=
  ax_go (st' := (vL (bl_shl x y) :: st)) hi rfl (fun _ _ _ _ _ _ _ _ _ _ _ _ _ C hd _ _ _ k => lv_lshl C.2.1 C.2.2.1 hd rfl (av_Wst k (by simp [av_cs, av_c, bl_shl]) rfl)) k
theorem ax_lshr {x y : Int} (hi : av_lk mi.2.2.2.2 pc = some (.lshr, nx, tg)) (k : av_S E d mi nx ls (vL (bl_shr x y) :: st) M Q) : av_S E d mi pc ls (vI y :: vL x :: st) M Q :=
  ax_go (st' := (vL (bl_shr x y) :: st)) hi rfl (fun _ _ _ _ _ _ _ _ _ _ _ _ _ C hd _ _ _ k => lv_lshr C.2.1 C.2.2.1 hd rfl (av_Wst k (by simp [av_cs, av_c, bl_shr]) rfl)) k
theorem ax_i2l {x : Int} (hi : av_lk mi.2.2.2.2 pc = some (.i2l, nx, tg)) (hx : -2147483648 ≤ x ∧ x < 2147483648) (k : av_S E d mi nx ls (vL x :: st) M Q) : av_S E d mi pc ls (vI x :: st) M Q :=
  ax_go (st' := (vL x :: st)) hi rfl (fun _ _ _ _ _ _ _ _ _ _ _ _ _ C hd _ _ _ k => lv_i2l C.2.1 C.2.2.1 hd (by apply Int64.toInt_inj.mp; rw [Int32.toInt_toInt64, av_to32 hx.1 hx.2, av_to64 (by omega) (by omega)]) k) k
theorem ax_l2i {x : Int} (hi : av_lk mi.2.2.2.2 pc = some (.l2i, nx, tg)) (k : av_S E d mi nx ls (vI x :: st) M Q) : av_S E d mi pc ls (vL x :: st) M Q :=
  ax_go (st' := (vI x :: st)) hi rfl (fun _ _ _ _ _ _ _ _ _ _ _ _ _ C hd _ _ _ k => lv_l2i C.2.1 C.2.2.1 hd Int64.toInt32_ofInt k) k
-- the stack
theorem ax_dup {v : av_V} (hi : av_lk mi.2.2.2.2 pc = some (.dup, nx, tg)) (hv : av_w2 v = false) (k : av_S E d mi nx ls (v :: v :: st) M Q) : av_S E d mi pc ls (v :: st) M Q :=
  ax_go (st' := (v :: v :: st)) hi rfl (fun _ _ _ _ _ _ _ _ _ _ _ _ _ C hd _ _ _ k => lv_dup C.2.1 C.2.2.1 hd (by rw [av_cat, hv]; rfl) k) k
theorem ax_dup2 {v w : av_V} (hi : av_lk mi.2.2.2.2 pc = some (.dup2, nx, tg)) (hv : av_w2 v = false) (hw : av_w2 w = false) (k : av_S E d mi nx ls (v :: w :: v :: w :: st) M Q) : av_S E d mi pc ls (v :: w :: st) M Q :=
  ax_go (st' := (v :: w :: v :: w :: st)) hi rfl (fun _ _ _ _ _ _ _ _ _ _ _ _ _ C hd _ _ _ k => lv_dup2_11 C.2.1 C.2.2.1 hd (by rw [av_cat, hv]; rfl) (by rw [av_cat, hw]; rfl) k) k
theorem ax_pop {v : av_V} (hi : av_lk mi.2.2.2.2 pc = some (.pop, nx, tg)) (hv : av_w2 v = false) (k : av_S E d mi nx ls st M Q) : av_S E d mi pc ls (v :: st) M Q :=
  ax_go (st' := st) hi rfl (fun _ _ _ _ _ _ _ _ _ _ _ _ _ C hd _ _ _ k => lv_pop C.2.1 C.2.2.1 hd (by rw [av_cat, hv]; rfl) k) k
-- branches
theorem ax_goto {o : Int} (hi : av_lk mi.2.2.2.2 pc = some (.goto o, nx, tg)) (k : av_S E d mi tg ls st M Q) : av_S E d mi pc ls st M Q := by
  intro p e R s m args below meth c H locs lsA C hP hS hL
  obtain ⟨hd, -⟩ := av_at (n := 2) C.1 hi rfl
  exact lv_goto C.2.1 C.2.2.1 hd ((av_at1 C.1 hi).2.2.2 _ rfl) (k p e R s m args below meth c H locs lsA C hP hS hL)
theorem ax_br {op : Instr} {o : Int} {P : Prop} (hi : av_lk mi.2.2.2.2 pc = some (op, nx, tg)) (hn : av_len op = 2 + 1) (ho : av_tg op = some o)
    (row : ∀ (p : Program) (e : Env) (R : Room) (s : State) (m : MethodId) (args : Array Value) (below : List Frame) (meth : Method) (c : Code) (H : Heap) (locs : List Loc) (lsA : Array Slot) (Qm : State → Prop),
      p.tables.exec = Jvm.exec → c.code = mi.2.1 → decode mi.2.1 pc = .ok (op, 2 + 1) → (pc : Int) + o = (tg : Int) →
      (P → W p E.1 e R s m args below meth c H locs 0 0 Qm (F0 m tg lsA (av_cs E st'))) → (¬ P → W p E.1 e R s m args below meth c H locs 0 0 Qm (F0 m (pc + 3) lsA (av_cs E st'))) → W p E.1 e R s m args below meth c H locs 0 0 Qm (F0 m pc lsA (av_cs E st)))
    (kt : P → av_S E d mi tg ls st' M Q) (kf : ¬ P → av_S E d mi nx ls st' M Q) : av_S E d mi pc ls st M Q := by
  intro p e R s m args below meth c H locs lsA C hP hS hL
  obtain ⟨hd, rfl⟩ := av_at (n := 2) C.1 hi hn
  exact row p e R s m args below meth c H locs lsA _ C.2.1 C.2.2.1 hd ((av_at1 C.1 hi).2.2.2 _ ho) (fun h => kt h p e R s m args below meth c H locs lsA C hP hS hL) (fun h => kf h p e R s m args below meth c H locs lsA C hP hS hL)
theorem ax_icmp_eq {x y : Int} {o : Int} (hi : av_lk mi.2.2.2.2 pc = some (.if_icmp .eq o, nx, tg)) (hx : -2147483648 ≤ x ∧ x < 2147483648) (hy : -2147483648 ≤ y ∧ y < 2147483648) (kt : x = y → av_S E d mi tg ls st M Q) (kf : ¬ (x = y) → av_S E d mi nx ls st M Q) : av_S E d mi pc ls (vI y :: vI x :: st) M Q :=
  ax_br hi rfl rfl (fun _ _ _ _ _ _ _ _ _ _ _ _ _ hx0 hb hd ht a b => lv_icmp_eq hx0 hb hd ht (fun h => a ((av_eq32 hx hy).mp h)) (fun h => b (fun q => h ((av_eq32 hx hy).mpr q)))) kt kf
theorem ax_icmp_ne {x y : Int} {o : Int} (hi : av_lk mi.2.2.2.2 pc = some (.if_icmp .ne o, nx, tg)) (hx : -2147483648 ≤ x ∧ x < 2147483648) (hy : -2147483648 ≤ y ∧ y < 2147483648) (kt : ¬ x = y → av_S E d mi tg ls st M Q) (kf : ¬ (¬ x = y) → av_S E d mi nx ls st M Q) : av_S E d mi pc ls (vI y :: vI x :: st) M Q :=
  ax_br hi rfl rfl (fun _ _ _ _ _ _ _ _ _ _ _ _ _ hx0 hb hd ht a b => lv_icmp_ne hx0 hb hd ht (fun h => a ((not_congr (av_eq32 hx hy)).mp h)) (fun h => b (fun q => q ((av_eq32 hx hy).mp h)))) kt kf
theorem ax_icmp_lt {x y : Int} {o : Int} (hi : av_lk mi.2.2.2.2 pc = some (.if_icmp .lt o, nx, tg)) (hx : -2147483648 ≤ x ∧ x < 2147483648) (hy : -2147483648 ≤ y ∧ y < 2147483648) (kt : x < y → av_S E d mi tg ls st M Q) (kf : ¬ (x < y) → av_S E d mi nx ls st M Q) : av_S E d mi pc ls (vI y :: vI x :: st) M Q :=
  ax_br hi rfl rfl (fun _ _ _ _ _ _ _ _ _ _ _ _ _ hx0 hb hd ht a b => lv_icmp_lt hx0 hb hd ht (fun h => a ((av_lt32 hx hy).mp h)) (fun h => b (fun q => h ((av_lt32 hx hy).mpr q)))) kt kf
theorem ax_icmp_ge {x y : Int} {o : Int} (hi : av_lk mi.2.2.2.2 pc = some (.if_icmp .ge o, nx, tg)) (hx : -2147483648 ≤ x ∧ x < 2147483648) (hy : -2147483648 ≤ y ∧ y < 2147483648) (kt : y ≤ x → av_S E d mi tg ls st M Q) (kf : ¬ (y ≤ x) → av_S E d mi nx ls st M Q) : av_S E d mi pc ls (vI y :: vI x :: st) M Q :=
  ax_br hi rfl rfl (fun _ _ _ _ _ _ _ _ _ _ _ _ _ hx0 hb hd ht a b => lv_icmp_ge hx0 hb hd ht (fun h => a ((av_le32 hy hx).mp h)) (fun h => b (fun q => h ((av_le32 hy hx).mpr q)))) kt kf
theorem ax_icmp_gt {x y : Int} {o : Int} (hi : av_lk mi.2.2.2.2 pc = some (.if_icmp .gt o, nx, tg)) (hx : -2147483648 ≤ x ∧ x < 2147483648) (hy : -2147483648 ≤ y ∧ y < 2147483648) (kt : y < x → av_S E d mi tg ls st M Q) (kf : ¬ (y < x) → av_S E d mi nx ls st M Q) : av_S E d mi pc ls (vI y :: vI x :: st) M Q :=
  ax_br hi rfl rfl (fun _ _ _ _ _ _ _ _ _ _ _ _ _ hx0 hb hd ht a b => lv_icmp_gt hx0 hb hd ht (fun h => a ((av_lt32 hy hx).mp h)) (fun h => b (fun q => h ((av_lt32 hy hx).mpr q)))) kt kf
theorem ax_icmp_le {x y : Int} {o : Int} (hi : av_lk mi.2.2.2.2 pc = some (.if_icmp .le o, nx, tg)) (hx : -2147483648 ≤ x ∧ x < 2147483648) (hy : -2147483648 ≤ y ∧ y < 2147483648) (kt : x ≤ y → av_S E d mi tg ls st M Q) (kf : ¬ (x ≤ y) → av_S E d mi nx ls st M Q) : av_S E d mi pc ls (vI y :: vI x :: st) M Q :=
  ax_br hi rfl rfl (fun _ _ _ _ _ _ _ _ _ _ _ _ _ hx0 hb hd ht a b => lv_icmp_le hx0 hb hd ht (fun h => a ((av_le32 hx hy).mp h)) (fun h => b (fun q => h ((av_le32 hx hy).mpr q)))) kt kf
theorem ax_if_eq {x : Int} {o : Int} (hi : av_lk mi.2.2.2.2 pc = some (.ifCond .eq o, nx, tg)) (hx : -2147483648 ≤ x ∧ x < 2147483648) (kt : x = 0 → av_S E d mi tg ls st M Q) (kf : ¬ (x = 0) → av_S E d mi nx ls st M Q) : av_S E d mi pc ls (vI x :: st) M Q :=
  ax_br hi rfl rfl (fun _ _ _ _ _ _ _ _ _ _ _ _ _ hx0 hb hd ht a b => lv_if_eq hx0 hb hd ht (fun h => a ((av_eq32 hx (show -2147483648 ≤ (0 : Int) ∧ (0 : Int) < 2147483648 by omega)).mp h)) (fun h => b (fun q => h ((av_eq32 hx (show -2147483648 ≤ (0 : Int) ∧ (0 : Int) < 2147483648 by omega)).mpr q)))) kt kf
theorem ax_if_ne {x : Int} {o : Int} (hi : av_lk mi.2.2.2.2 pc = some (.ifCond .ne o, nx, tg)) (hx : -2147483648 ≤ x ∧ x < 2147483648) (kt : ¬ x = 0 → av_S E d mi tg ls st M Q) (kf : ¬ (¬ x = 0) → av_S E d mi nx ls st M Q) : av_S E d mi pc ls (vI x :: st) M Q :=
  ax_br hi rfl rfl (fun _ _ _ _ _ _ _ _ _ _ _ _ _ hx0 hb hd ht a b => lv_if_ne hx0 hb hd ht (fun h => a ((not_congr (av_eq32 hx (show -2147483648 ≤ (0 : Int) ∧ (0 : Int) < 2147483648 by omega))).mp h)) (fun h => b (fun q => q ((av_eq32 hx (show -2147483648 ≤ (0 : Int) ∧ (0 : Int) < 2147483648 by omega)).mp h)))) kt kf
theorem ax_if_lt {x : Int} {o : Int} (hi : av_lk mi.2.2.2.2 pc = some (.ifCond .lt o, nx, tg)) (hx : -2147483648 ≤ x ∧ x < 2147483648) (kt : x < 0 → av_S E d mi tg ls st M Q) (kf : ¬ (x < 0) → av_S E d mi nx ls st M Q) : av_S E d mi pc ls (vI x :: st) M Q :=
  ax_br hi rfl rfl (fun _ _ _ _ _ _ _ _ _ _ _ _ _ hx0 hb hd ht a b => lv_if_lt hx0 hb hd ht (fun h => a ((av_lt32 hx (show -2147483648 ≤ (0 : Int) ∧ (0 : Int) < 2147483648 by omega)).mp h)) (fun h => b (fun q => h ((av_lt32 hx (show -2147483648 ≤ (0 : Int) ∧ (0 : Int) < 2147483648 by omega)).mpr q)))) kt kf
theorem ax_if_ge {x : Int} {o : Int} (hi : av_lk mi.2.2.2.2 pc = some (.ifCond .ge o, nx, tg)) (hx : -2147483648 ≤ x ∧ x < 2147483648) (kt : 0 ≤ x → av_S E d mi tg ls st M Q) (kf : ¬ (0 ≤ x) → av_S E d mi nx ls st M Q) : av_S E d mi pc ls (vI x :: st) M Q :=
  ax_br hi rfl rfl (fun _ _ _ _ _ _ _ _ _ _ _ _ _ hx0 hb hd ht a b => lv_if_ge hx0 hb hd ht (fun h => a ((av_le32 (show -2147483648 ≤ (0 : Int) ∧ (0 : Int) < 2147483648 by omega) hx).mp h)) (fun h => b (fun q => h ((av_le32 (show -2147483648 ≤ (0 : Int) ∧ (0 : Int) < 2147483648 by omega) hx).mpr q)))) kt kf
theorem ax_if_gt {x : Int} {o : Int} (hi : av_lk mi.2.2.2.2 pc = some (.ifCond .gt o, nx, tg)) (hx : -2147483648 ≤ x ∧ x < 2147483648) (kt : 0 < x → av_S E d mi tg ls st M Q) (kf : ¬ (0 < x) → av_S E d mi nx ls st M Q) : av_S E d mi pc ls (vI x :: st) M Q :=
  ax_br hi rfl rfl (fun _ _ _ _ _ _ _ _ _ _ _ _ _ hx0 hb hd ht a b => lv_if_gt hx0 hb hd ht (fun h => a ((av_lt32 (show -2147483648 ≤ (0 : Int) ∧ (0 : Int) < 2147483648 by omega) hx).mp h)) (fun h => b (fun q => h ((av_lt32 (show -2147483648 ≤ (0 : Int) ∧ (0 : Int) < 2147483648 by omega) hx).mpr q)))) kt kf
theorem ax_if_le {x : Int} {o : Int} (hi : av_lk mi.2.2.2.2 pc = some (.ifCond .le o, nx, tg)) (hx : -2147483648 ≤ x ∧ x < 2147483648) (kt : x ≤ 0 → av_S E d mi tg ls st M Q) (kf : ¬ (x ≤ 0) → av_S E d mi nx ls st M Q) : av_S E d mi pc ls (vI x :: st) M Q :=
  ax_br hi rfl rfl (fun _ _ _ _ _ _ _ _ _ _ _ _ _ hx0 hb hd ht a b => lv_if_le hx0 hb hd ht (fun h => a ((av_le32 hx (show -2147483648 ≤ (0 : Int) ∧ (0 : Int) < 2147483648 by omega)).mp h)) (fun h => b (fun q => h ((av_le32 hx (show -2147483648 ≤ (0 : Int) ∧ (0 : Int) < 2147483648 by omega)).mpr q)))) kt kf
theorem av_cmp64 {x y : Int} (hx : -9223372036854775808 ≤ x ∧ x < 9223372036854775808) (hy : -9223372036854775808 ≤ y ∧ y < 9223372036854775808) : lg_cmp (Int64.ofInt x) (Int64.ofInt y) = Int32.ofInt (if y < x then 1 else if x = y then 0 else -1) := by
  unfold lg_cmp
  simp only [gt_iff_lt, av_lt64 hy hx, av_eq64 hx hy]
  split
  · rfl
  · split <;> rfl
theorem ax_lcmp {x y : Int} (hi : av_lk mi.2.2.2.2 pc = some (.lcmp, nx, tg)) (hx : -9223372036854775808 ≤ x ∧ x < 9223372036854775808) (hy : -9223372036854775808 ≤ y ∧ y < 9223372036854775808) (k : av_S E d mi nx ls (vI (if y < x then 1 else if x = y then 0 else -1) :: st) M Q) : av_S E d mi pc ls (vL y :: vL x :: st) M Q :=
  ax_go (st' := vI (if y < x then 1 else if x = y then 0 else -1) :: st) hi rfl (fun _ _ _ _ _ _ _ _ _ _ _ _ _ C hd _ _ _ k => W.lcmp C.2.1 C.2.2.1 hd (av_Wst k (by simp only [av_cs, av_c, List.map_cons, av_cmp64 hx hy]) rfl)) k
theorem ax_lif_eq {x y : Int} {o : Int} {nx1 tg1 : Nat} (hi1 : av_lk mi.2.2.2.2 pc = some (.lcmp, nx1, tg1)) (hi : av_lk mi.2.2.2.2 nx1 = some (.ifCond .eq o, nx, tg)) (hx : -9223372036854775808 ≤ x ∧ x < 9223372036854775808) (hy : -9223372036854775808 ≤ y ∧ y < 9223372036854775808) (kt : x = y → av_S E d mi tg ls st M Q) (kf : ¬ (x = y) → av_S E d mi nx ls st M Q) : av_S E d mi pc ls (vL y :: vL x :: st) M Q := by
  refine ax_lcmp hi1 hx hy (ax_if_eq hi ?_ (fun h => kt ?_) (fun h => kf ?_))
  · split
    · omega
    · split <;> omega
  · revert h; split
    · intro h; omega
    · split <;> (intro h; omega)
  · revert h; split
    · intro h; omega
    · split <;> (intro h; omega)
theorem ax_lif_ne {x y : Int} {o : Int} {nx1 tg1 : Nat} (hi1 : av_lk mi.2.2.2.2 pc = some (.lcmp, nx1, tg1)) (hi : av_lk mi.2.2.2.2 nx1 = some (.ifCond .ne o, nx, tg)) (hx : -9223372036854775808 ≤ x ∧ x < 9223372036854775808) (hy : -9223372036854775808 ≤ y ∧ y < 9223372036854775808) (kt : ¬ x = y → av_S E d mi tg ls st M Q) (kf : ¬ (¬ x = y) → av_S E d mi nx ls st M Q) : av_S E d mi pc ls (vL y :: vL x :: st) M Q := by
  refine ax_lcmp hi1 hx hy (ax_if_ne hi ?_ (fun h => kt ?_) (fun h => kf ?_))
  · split
    · omega
    · split <;> omega
  · revert h; split
    · intro h; omega
    · split <;> (intro h; omega)
  · revert h; split
    · intro h; omega
    · split <;> (intro h; omega)
theorem ax_lif_lt {x y : Int} {o : Int} {nx1 tg1 : Nat} (hi1 : av_lk mi.2.2.2.2 pc = some (.lcmp, nx1, tg1)) (hi : av_lk mi.2.2.2.2 nx1 = some (.ifCond .lt o, nx, tg)) (hx : -9223372036854775808 ≤ x ∧ x < 9223372036854775808) (hy : -9223372036854775808 ≤ y ∧ y < 9223372036854775808) (kt : x < y → av_S E d mi tg ls st M Q) (kf : ¬ (x < y) → av_S E d mi nx ls st M Q) : av_S E d mi pc ls (vL y :: vL x :: st) M Q := by
  refine ax_lcmp hi1 hx hy (ax_if_lt hi ?_ (fun h => kt ?_) (fun h => kf ?_))
  · split
    · omega
    · split <;> omega
  · revert h; split
    · intro h; omega
    · split <;> (intro h; omega)
  · revert h; split
    · intro h; omega
    · split <;> (intro h; omega)
theorem ax_lif_ge {x y : Int} {o : Int} {nx1 tg1 : Nat} (hi1 : av_lk mi.2.2.2.2 pc = some (.lcmp, nx1, tg1)) (hi : av_lk mi.2.2.2.2 nx1 = some (.ifCond .ge o, nx, tg)) (hx : -9223372036854775808 ≤ x ∧ x < 9223372036854775808) (hy : -9223372036854775808 ≤ y ∧ y < 9223372036854775808) (kt : y ≤ x → av_S E d mi tg ls st M Q) (kf : ¬ (y ≤ x) → av_S E d mi nx ls st M Q) : av_S E d mi pc ls (vL y :: vL x :: st) M Q := by
  refine ax_lcmp hi1 hx hy (ax_if_ge hi ?_ (fun h => kt ?_) (fun h => kf ?_))
  · split
    · omega
    · split <;> omega
  · revert h; split
    · intro h; omega
    · split <;> (intro h; omega)
  · revert h; split
    · intro h; omega
    · split <;> (intro h; omega)
theorem ax_lif_gt {x y : Int} {o : Int} {nx1 tg1 : Nat} (hi1 : av_lk mi.2.2.2.2 pc = some (.lcmp, nx1, tg1)) (hi : av_lk mi.2.2.2.2 nx1 = some (.ifCond .gt o, nx, tg)) (hx : -9223372036854775808 ≤ x ∧ x < 9223372036854775808) (hy : -9223372036854775808 ≤ y ∧ y < 9223372036854775808) (kt : y < x → av_S E d mi tg ls st M Q) (kf : ¬ (y < x) → av_S E d mi nx ls st M Q) : av_S E d mi pc ls (vL y :: vL x :: st) M Q := by
  refine ax_lcmp hi1 hx hy (ax_if_gt hi ?_ (fun h => kt ?_) (fun h => kf ?_))
  · split
    · omega
    · split <;> omega
  · revert h; split
    · intro h; omega
    · split <;> (intro h; omega)
  · revert h; split
    · intro h; omega
    · split <;> (intro h; omega)
theorem ax_lif_le {x y : Int} {o : Int} {nx1 tg1 : Nat} (hi1 : av_lk mi.2.2.2.2 pc = some (.lcmp, nx1, tg1)) (hi : av_lk mi.2.2.2.2 nx1 = some (.ifCond .le o, nx, tg)) (hx : -9223372036854775808 ≤ x ∧ x < 9223372036854775808) (hy : -9223372036854775808 ≤ y ∧ y < 9223372036854775808) (kt : x ≤ y → av_S E d mi tg ls st M Q) (kf : ¬ (x ≤ y) → av_S E d mi nx ls st M Q) : av_S E d mi pc ls (vL y :: vL x :: st) M Q := by
  refine ax_lcmp hi1 hx hy (ax_if_le hi ?_ (fun h => kt ?_) (fun h => kf ?_))
  · split
    · omega
    · split <;> omega
  · revert h; split
    · intro h; omega
    · split <;> (intro h; omega)
  · revert h; split
    · intro h; omega
    · split <;> (intro h; omega)
-- fields
theorem av_fld_in {k i n : Nat} (hi : i < n) (E : av_E) (M : av_M) : ((List.range n).map (av_fv E M k))[i]? = some (av_fv E M k i) := by
  simp [List.getElem?_map, List.getElem?_range hi]
theorem av_cell_ob {E : av_E} {M : av_M} {k ci n : Nat} (h : av_ly k = (ci + 3, n)) : av_cell E M k = .inr (ci, (List.range n).map (av_fv E M k)) := by
  unfold av_cell
  rw [h]
theorem av_cl_N : ∀ ci C T N, vwCl[ci]? = some (C, T, N) → ∀ k n, av_ly k = (ci + 3, n) → n = N := by
  intro ci C T N h k n hk
  have hk1 := (av_ly_in hk (Or.inl (by omega))).1
  have h1 : ∀ k, k < av_N → ∀ q, vwCl[(av_ly k).1 - 3]? = some q → 3 ≤ (av_ly k).1 → (av_ly k).2 = q.2.2 := by
    intro k hk q hq h3
    have e : ∀ k, k < av_N → 3 ≤ (av_ly k).1 → (vwCl[(av_ly k).1 - 3]?).map (fun q => q.2.2) = some (av_ly k).2 := by decide +kernel
    have := e k hk h3
    rw [hq] at this
    exact (Option.some.inj this).symm
  have := h1 k hk1 (C, T, N) (by rw [hk]; exact h) (by rw [hk]; exact Nat.le_add_left _ _)
  rw [hk] at this
  exact this
theorem ax_get {ix ci f kk n : Nat} {v : av_V} (hi : av_lk mi.2.2.2.2 pc = some (.getfield ix, nx, tg)) (hf : av_fl mi.1.cls ix ci f) (hly : av_ly kk = (ci + 3, n)) (hv : av_fv E M kk f = av_c E v) (k : av_S E d mi nx ls (v :: st) M Q) : av_S E d mi pc ls (vR kk :: st) M Q := by
  refine ax_go hi rfl (fun p e R s m args below meth c H locs lsA Qm C hd hL hP hS k => ?_) k
  obtain ⟨ho, hx, hb, hml, hr, hown, hts, hlk, hfr, hlo, hK, hinj, hZ, hN⟩ := C
  obtain ⟨Cn, T, N, hc, hfN, hin, hlink⟩ := hf
  have hn := av_cl_N ci Cn T N hc kk n hly
  subst hn
  have hkN := (av_ly_in hly (Or.inl (by omega))).1
  have he : (av_ws E M)[kk]? = some (E.2.2.1 kk, .inr (ci, (List.range n).map (av_fv E M kk))) := by rw [av_ws_get hkN, av_cell_ob hly]
  rcases hlink with h | ⟨host, h⟩
  · exact va_get (D := E.2.1) (v := av_c E v) hx hb hts hin hown hK hP kk he hc f hfN (hts _ h) (fun _ h9 => h9) (by rw [av_fld_in hfN, hv]) hd k
  · exact va_getN (D := E.2.1) (v := av_c E v) (host := host) hx hb hts hin hown hK hP kk he hc f hfN (va_Nw.use rfl (hN _ h)) (fun _ h9 => h9) (by rw [av_fld_in hfN, hv]) hd k
theorem ax_getI {ix ci f kk n : Nat} {g : Int} (hi : av_lk mi.2.2.2.2 pc = some (.getfield ix, nx, tg)) (hf : av_fl mi.1.cls ix ci f) (hly : av_ly kk = (ci + 3, n)) (h1 : av_rf kk f = none) (h2 : av_lf kk f = false) (hg : (f : Int) = g) (k : av_S E d mi nx ls (vI (M kk g) :: st) M Q) : av_S E d mi pc ls (vR kk :: st) M Q :=
  ax_get hi hf hly (by unfold av_fv; rw [h1, h2, hg]; rfl) k
theorem ax_getL {ix ci f kk n : Nat} {g : Int} (hi : av_lk mi.2.2.2.2 pc = some (.getfield ix, nx, tg)) (hf : av_fl mi.1.cls ix ci f) (hly : av_ly kk = (ci + 3, n)) (h1 : av_rf kk f = none) (h2 : av_lf kk f = true) (hg : (f : Int) = g) (k : av_S E d mi nx ls (vL (M kk g) :: st) M Q) : av_S E d mi pc ls (vR kk :: st) M Q :=
  ax_get hi hf hly (by unfold av_fv; rw [h1, h2, hg]; rfl) k
theorem ax_getR {ix ci f kk n r : Nat} (hi : av_lk mi.2.2.2.2 pc = some (.getfield ix, nx, tg)) (hf : av_fl mi.1.cls ix ci f) (hly : av_ly kk = (ci + 3, n)) (h1 : av_rf kk f = some r) (k : av_S E d mi nx ls (vR r :: st) M Q) : av_S E d mi pc ls (vR kk :: st) M Q :=
  ax_get hi hf hly (by unfold av_fv; rw [h1]; rfl) k
theorem av_up_fs {E : av_E} {M : av_M} {kk f n : Nat} {z : Int} {x : Value} (h1 : av_rf kk f = none) (hx : x = bif av_lf kk f then .long (Int64.ofInt z) else .int (Int32.ofInt z)) : ((List.range n).map (av_fv E M kk)).set f x = (List.range n).map (av_fv E (av_up M kk f z) kk) := by
  apply List.ext_getElem?
  intro i
  rw [List.getElem?_set]
  by_cases hi : f = i
  · subst hi
    simp only [if_true]
    by_cases hn : f < n
    · rw [if_pos (by simpa using hn), av_fld_in hn]
      unfold av_fv
      rw [h1, av_up_at, hx]
    · rw [if_neg (by simpa using hn)]
      symm
      rw [List.getElem?_eq_none_iff]
      simpa using hn
  · rw [if_neg hi]
    by_cases hn : i < n
    · rw [av_fld_in hn, av_fld_in hn]
      unfold av_fv
      rw [av_up_off (by omega)]
    · have e : ∀ g : Nat → Value, ((List.range n).map g)[i]? = none := fun g => by
        rw [List.getElem?_eq_none_iff]
        simpa using hn
      rw [e, e]
theorem ax_put {ix ci f kk n : Nat} {v : av_V} {z : Int} {ty : FieldType} (hi : av_lk mi.2.2.2.2 pc = some (.putfield ix, nx, tg)) (hf : av_fp mi.1.cls ix ci f ty) (hly : av_ly kk = (ci + 3, n)) (h1 : av_rf kk f = none) (hv : av_c E v = bif av_lf kk f then .long (Int64.ofInt z) else .int (Int32.ofInt z)) (hn1 : narrow ty (av_c E v) = av_c E v) (hn2 : fits ty (av_c E v) = true)
    (k : av_S E d mi nx ls st (av_up M kk f z) Q) : av_S E d mi pc ls (v :: vR kk :: st) M Q := by
  intro p e R s m args below meth c H locs lsA C hP hS hL
  have C0 := C
  obtain ⟨ho, hx, hb, hml, hr, hown, hts, hlk, hfr, hlo, hK, hinj, hZ, hN⟩ := C
  obtain ⟨hd, rfl⟩ := av_at (n := 2) ho hi rfl
  obtain ⟨Cn, T, N, ty0, hc, hfN, hin, hlink, hty, hnm, hfin, hpty⟩ := hf
  have hn := av_cl_N ci Cn T N hc kk n hly
  subst hn
  have hkN := (av_ly_in hly (Or.inl (by omega))).1
  have he : (av_ws E M)[kk]? = some (E.2.2.1 kk, .inr (ci, (List.range n).map (av_fv E M kk))) := by rw [av_ws_get hkN, av_cell_ob hly]
  refine va_put (D := E.2.1) (v := av_c E v) (ty := ty) hx hb hts hin ty0 hty hnm hown hK hP (av_D_ws hinj M) hS kk he hc f hfN (hts _ hlink) (fun _ h9 => h9) hfin hpty hn1 hn2 (by simpa using hfN) hd (fun H1 locs1 hP1 hD1 hS1 => ?_)
  refine k p e R s m args below meth c H1 locs1 lsA C0 ?_ hS1 hL
  rw [← av_ws_set (M := M) (M' := av_up M kk f z) (k := kk) (x := .inr (ci, ((List.range n).map (av_fv E M kk)).set f (av_c E v))) ?_ (fun j hj => av_up_ne hj)]
  · exact hP1
  · rw [av_cell_ob hly, av_up_fs h1 hv]
theorem ax_putI {ix ci f kk n : Nat} {z : Int} (hi : av_lk mi.2.2.2.2 pc = some (.putfield ix, nx, tg)) (hf : av_fp mi.1.cls ix ci f .int) (hly : av_ly kk = (ci + 3, n)) (h1 : av_rf kk f = none) (h2 : av_lf kk f = false) (k : av_S E d mi nx ls st (av_up M kk f z) Q) : av_S E d mi pc ls (vI z :: vR kk :: st) M Q :=
  ax_put hi hf hly h1 (by rw [h2]; rfl) rfl rfl k
theorem ax_putL {ix ci f kk n : Nat} {z : Int} (hi : av_lk mi.2.2.2.2 pc = some (.putfield ix, nx, tg)) (hf : av_fp mi.1.cls ix ci f .long) (hly : av_ly kk = (ci + 3, n)) (h1 : av_rf kk f = none) (h2 : av_lf kk f = true) (k : av_S E d mi nx ls st (av_up M kk f z) Q) : av_S E d mi pc ls (vL z :: vR kk :: st) M Q :=
  ax_put hi hf hly h1 (by rw [h2]; rfl) rfl rfl k
theorem ax_putZ {ix ci f kk n : Nat} {z : Int} (hi : av_lk mi.2.2.2.2 pc = some (.putfield ix, nx, tg)) (hf : av_fp mi.1.cls ix ci f .boolean) (hly : av_ly kk = (ci + 3, n)) (h1 : av_rf kk f = none) (h2 : av_lf kk f = false) (hz : z = 0 ∨ z = 1) (k : av_S E d mi nx ls st (av_up M kk f z) Q) : av_S E d mi pc ls (vI z :: vR kk :: st) M Q := by
  rcases hz with rfl | rfl
  · exact ax_put hi hf hly h1 (by rw [h2]; rfl) rfl rfl k
  · exact ax_put hi hf hly h1 (by rw [h2]; rfl) rfl rfl k
-- arrays
theorem av_cell_0 {E : av_E} {M : av_M} {k n : Nat} (h : av_ly k = (0, n)) : av_cell E M k = .inl (E.2.2.2 0, n, .inl fun j => Int32.ofInt (M k j)) := by
  unfold av_cell
  rw [h]
theorem av_cell_1 {E : av_E} {M : av_M} {k n : Nat} (h : av_ly k = (1, n)) : av_cell E M k = .inl (E.2.2.2 1, n, .inr (.inl fun j => Int64.ofInt (M k j))) := by
  unfold av_cell
  rw [h]
theorem av_cell_2 {E : av_E} {M : av_M} {k n : Nat} (h : av_ly k = (2, n)) : av_cell E M k = .inl (E.2.2.2 2, n, .inl fun j => Int32.ofInt (M k j)) := by
  unfold av_cell
  rw [h]
theorem ax_iald {kk n : Nat} {z : Int} (hi : av_lk mi.2.2.2.2 pc = some (.iaload, nx, tg)) (hly : av_ly kk = (0, n)) (hz : 0 ≤ z ∧ z < n) (k : av_S E d mi nx ls (vI (M kk z) :: st) M Q) : av_S E d mi pc ls (vI z :: vR kk :: st) M Q := by
  refine ax_go hi rfl (fun p e R s m args below meth c H locs lsA Qm C hd hL hP hS k => ?_) k
  obtain ⟨ho, hx, hb, hml, hr, hown, hts, hlk, hfr, hlo, hK, hinj, hZ, hN⟩ := C
  obtain ⟨hkN, hn⟩ := av_ly_in hly (Or.inr (by omega))
  obtain ⟨h1, h2⟩ := av_vin hz hn
  exact va_iald (D := E.2.1) hx hb hK hP kk 0 (by rw [av_ws_get hkN, av_cell_0 hly]) rfl h1 hd (by rw [h2]; exact k)
theorem ax_lald {kk n : Nat} {z : Int} (hi : av_lk mi.2.2.2.2 pc = some (.laload, nx, tg)) (hly : av_ly kk = (1, n)) (hz : 0 ≤ z ∧ z < n) (k : av_S E d mi nx ls (vL (M kk z) :: st) M Q) : av_S E d mi pc ls (vI z :: vR kk :: st) M Q := by
  refine ax_go hi rfl (fun p e R s m args below meth c H locs lsA Qm C hd hL hP hS k => ?_) k
  obtain ⟨ho, hx, hb, hml, hr, hown, hts, hlk, hfr, hlo, hK, hinj, hZ, hN⟩ := C
  obtain ⟨hkN, hn⟩ := av_ly_in hly (Or.inr (by omega))
  obtain ⟨h1, h2⟩ := av_vin hz hn
  exact va_lald (D := E.2.1) hx hb hK hP kk 1 (by rw [av_ws_get hkN, av_cell_1 hly]) rfl h1 hd (by rw [h2]; exact k)
theorem ax_bald {kk n : Nat} {z : Int} (hi : av_lk mi.2.2.2.2 pc = some (.baload, nx, tg)) (hly : av_ly kk = (2, n)) (hz : 0 ≤ z ∧ z < n) (k : av_S E d mi nx ls (vI (M kk z) :: st) M Q) : av_S E d mi pc ls (vI z :: vR kk :: st) M Q := by
  refine ax_go hi rfl (fun p e R s m args below meth c H locs lsA Qm C hd hL hP hS k => ?_) k
  obtain ⟨ho, hx, hb, hml, hr, hown, hts, hlk, hfr, hlo, hK, hinj, hZ, hN⟩ := C
  obtain ⟨hkN, hn⟩ := av_ly_in hly (Or.inr (by omega))
  obtain ⟨h1, h2⟩ := av_vin hz hn
  exact va_zald (D := E.2.1) hx hb hK hP kk 2 (by rw [av_ws_get hkN, av_cell_2 hly]) rfl h1 hd (by rw [h2]; exact k)
theorem av_upf {M : av_M} {kk : Nat} {z x : Int} {j : Nat} (hj : (j : Int) = z) : (fun i : Nat => Int32.ofInt (av_up M kk z x kk i)) = upd (fun i : Nat => Int32.ofInt (M kk i)) j (Int32.ofInt x) := by
  funext i
  by_cases h : i = j
  · subst h; rw [hj, av_up_at, pk_us]
  · rw [av_up_off (by omega), pk_un h]
theorem av_upfL {M : av_M} {kk : Nat} {z x : Int} {j : Nat} (hj : (j : Int) = z) : (fun i : Nat => Int64.ofInt (av_up M kk z x kk i)) = vp_updL (fun i : Nat => Int64.ofInt (M kk i)) j (Int64.ofInt x) := by
  funext i
  by_cases h : i = j
  · subst h; rw [hj, av_up_at, pk_uLs]
  · rw [av_up_off (by omega), pk_uLn h]
theorem ax_iast {kk n : Nat} {z x : Int} (hi : av_lk mi.2.2.2.2 pc = some (.iastore, nx, tg)) (hly : av_ly kk = (0, n)) (hz : 0 ≤ z ∧ z < n) (k : av_S E d mi nx ls st (av_up M kk z x) Q) : av_S E d mi pc ls (vI x :: vI z :: vR kk :: st) M Q := by
  intro p e R s m args below meth c H locs lsA C hP hS hL
  have C0 := C
  obtain ⟨ho, hx, hb, hml, hr, hown, hts, hlk, hfr, hlo, hK, hinj, hZ, hN⟩ := C
  obtain ⟨hd, rfl⟩ := av_at (n := 0) ho hi rfl
  obtain ⟨hkN, hn⟩ := av_ly_in hly (Or.inr (by omega))
  obtain ⟨h1, h2⟩ := av_vin hz hn
  refine va_iast (D := E.2.1) hx hb hK hP (av_D_ws hinj M) hS kk 0 (by rw [av_ws_get hkN, av_cell_0 hly]) rfl h1 hd (fun H1 locs1 hP1 hD1 hS1 => ?_)
  refine k p e R s m args below meth c H1 locs1 lsA C0 ?_ hS1 hL
  rw [← av_ws_set (M := M) (M' := av_up M kk z x) (k := kk) ?_ (fun j hj => av_up_ne hj)]
  · exact hP1
  · rw [av_cell_0 hly, av_upf h2]
theorem ax_last {kk n : Nat} {z x : Int} (hi : av_lk mi.2.2.2.2 pc = some (.lastore, nx, tg)) (hly : av_ly kk = (1, n)) (hz : 0 ≤ z ∧ z < n) (k : av_S E d mi nx ls st (av_up M kk z x) Q) : av_S E d mi pc ls (vL x :: vI z :: vR kk :: st) M Q := by
  intro p e R s m args below meth c H locs lsA C hP hS hL
  have C0 := C
  obtain ⟨ho, hx, hb, hml, hr, hown, hts, hlk, hfr, hlo, hK, hinj, hZ, hN⟩ := C
  obtain ⟨hd, rfl⟩ := av_at (n := 0) ho hi rfl
  obtain ⟨hkN, hn⟩ := av_ly_in hly (Or.inr (by omega))
  obtain ⟨h1, h2⟩ := av_vin hz hn
  refine va_last (D := E.2.1) hx hb hK hP (av_D_ws hinj M) hS kk 1 (by rw [av_ws_get hkN, av_cell_1 hly]) rfl h1 hd (fun H1 locs1 hP1 hD1 hS1 => ?_)
  refine k p e R s m args below meth c H1 locs1 lsA C0 ?_ hS1 hL
  rw [← av_ws_set (M := M) (M' := av_up M kk z x) (k := kk) ?_ (fun j hj => av_up_ne hj)]
  · exact hP1
  · rw [av_cell_1 hly, av_upfL h2]
theorem ax_bast {kk n : Nat} {z x : Int} (hi : av_lk mi.2.2.2.2 pc = some (.bastore, nx, tg)) (hly : av_ly kk = (2, n)) (hz : 0 ≤ z ∧ z < n) (hb1 : x = 0 ∨ x = 1) (k : av_S E d mi nx ls st (av_up M kk z x) Q) : av_S E d mi pc ls (vI x :: vI z :: vR kk :: st) M Q := by
  intro p e R s m args below meth c H locs lsA C hP hS hL
  have C0 := C
  obtain ⟨ho, hx, hb, hml, hr, hown, hts, hlk, hfr, hlo, hK, hinj, hZ, hN⟩ := C
  obtain ⟨hd, rfl⟩ := av_at (n := 0) ho hi rfl
  obtain ⟨hkN, hn⟩ := av_ly_in hly (Or.inr (by omega))
  obtain ⟨h1, h2⟩ := av_vin hz hn
  refine va_zast (D := E.2.1) hx hb hK hP (av_D_ws hinj M) hS kk 2 (by rw [av_ws_get hkN, av_cell_2 hly]) rfl h1 hd (fun H1 locs1 hP1 hD1 hS1 => ?_)
  refine k p e R s m args below meth c H1 locs1 lsA C0 ?_ hS1 hL
  rw [← av_ws_set (M := M) (M' := av_up M kk z x) (k := kk) ?_ (fun j hj => av_up_ne hj)]
  · exact hP1
  · have e : vp_nar .boolean (Int32.ofInt x) = Int32.ofInt x := by
      rcases hb1 with rfl | rfl <;> rfl
    rw [av_cell_2 hly, av_upf h2, e]
-- the two static tables
theorem ax_gets0 (hi : av_lk mi.2.2.2.2 pc = some (.getstatic 104, nx, tg)) (hc : mi.1.cls = "GreaterBodies") (k : av_S E d mi nx ls (vR 59 :: st) M Q) : av_S E d mi pc ls st M Q := by
  refine ax_go hi rfl (fun p e R s m args below meth c H locs lsA Qm C hd hL hP hS k => ?_) k
  obtain ⟨ho, hx, hb, hml, hr, hown, hts, hlk, hfr, hlo, hK, hinj, hZ, hN⟩ := C
  exact va_gets hx hb hZ.1 hS hown (by rw [hc]; exact hts _ (av_in (by decide +kernel) rfl)) (fun _ h9 => h9) hd k
theorem ax_gets1 (hi : av_lk mi.2.2.2.2 pc = some (.getstatic 108, nx, tg)) (hc : mi.1.cls = "GreaterBodies") (k : av_S E d mi nx ls (vR 60 :: st) M Q) : av_S E d mi pc ls st M Q := by
  refine ax_go hi rfl (fun p e R s m args below meth c H locs lsA Qm C hd hL hP hS k => ?_) k
  obtain ⟨ho, hx, hb, hml, hr, hown, hts, hlk, hfr, hlo, hK, hinj, hZ, hN⟩ := C
  exact va_gets hx hb hZ.2.2.1 hS hown (by rw [hc]; exact hts _ (av_in (by decide +kernel) rfl)) (fun _ h9 => h9) hd k
theorem ax_sld0 {z : Int} (hi : av_lk mi.2.2.2.2 pc = some (.iaload, nx, tg)) (hz : 0 ≤ z ∧ z < 9) (k : av_S E d mi nx ls (vI (av_cov z) :: st) M Q) : av_S E d mi pc ls (vI z :: vR 59 :: st) M Q := by
  refine ax_go hi rfl (fun p e R s m args below meth c H locs lsA Qm C hd hL hP hS k => ?_) k
  obtain ⟨ho, hx, hb, hml, hr, hown, hts, hlk, hfr, hlo, hK, hinj, hZ, hN⟩ := C
  obtain ⟨h1, h2⟩ := av_vin (n := 9) hz (by omega)
  exact va_ti (v := .int (Int32.ofInt (av_cov z))) hx hb hZ.2.1 hS h1 (by rw [h2]) hd k
theorem ax_sld1 {z : Int} (hi : av_lk mi.2.2.2.2 pc = some (.iaload, nx, tg)) (hz : 0 ≤ z ∧ z < 9) (k : av_S E d mi nx ls (vI (av_foo z) :: st) M Q) : av_S E d mi pc ls (vI z :: vR 60 :: st) M Q := by
  refine ax_go hi rfl (fun p e R s m args below meth c H locs lsA Qm C hd hL hP hS k => ?_) k
  obtain ⟨ho, hx, hb, hml, hr, hown, hts, hlk, hfr, hlo, hK, hinj, hZ, hN⟩ := C
  obtain ⟨h1, h2⟩ := av_vin (n := 9) hz (by omega)
  exact va_ti (v := .int (Int32.ofInt (av_foo z))) hx hb hZ.2.2.2 hS h1 (by rw [h2]) hd k
-- returns
theorem av_ret {E : av_E} {Q : Option av_V → av_M → Prop} {r : Option av_V} {M : av_M} {s t : State} {H : Heap} {locs : List Loc} {args : Array Value} (h : Q r M) (hP : va_P E.2.1 vwCl (av_ws E M) H) (hS : va_S (av_A E) s.heap H locs) (ht : t.heap = H) : av_Q E Q args s (.returned (r.map (av_c E))) t :=
  ⟨⟨r, M, rfl, h, by rw [ht]; exact hP⟩, hS.F ht⟩
theorem ax_iret {z : Int} (hi : av_lk mi.2.2.2.2 pc = some (.ireturn, nx, tg)) (hr : mi.2.2.2.1 = some .int) (h : Q (some (vI z)) M) : av_S E d mi pc ls [vI z] M Q := by
  intro p e R s m args below meth c H locs lsA C hP hS hL
  obtain ⟨hd, rfl⟩ := av_at (n := 0) C.1 hi rfl
  exact W.iret C.2.1 C.2.2.1 (C.2.2.2.2.1.trans hr) (fun t ht _ => av_ret h hP hS ht) hS.2.2 hd (hlocks := C.2.2.2.2.2.2.2.1)
theorem ax_zret {z : Int} (hi : av_lk mi.2.2.2.2 pc = some (.ireturn, nx, tg)) (hr : mi.2.2.2.1 = some .boolean) (hz : z = 0 ∨ z = 1) (h : Q (some (vI z)) M) : av_S E d mi pc ls [vI z] M Q := by
  intro p e R s m args below meth c H locs lsA C hP hS hL
  obtain ⟨hd, rfl⟩ := av_at (n := 0) C.1 hi rfl
  exact W.zret C.2.1 C.2.2.1 (C.2.2.2.2.1.trans hr) (by rcases hz with rfl | rfl <;> rfl) (fun t ht _ => av_ret h hP hS ht) hS.2.2 hd (hlocks := C.2.2.2.2.2.2.2.1)
theorem ax_lret {z : Int} (hi : av_lk mi.2.2.2.2 pc = some (.lreturn, nx, tg)) (hr : mi.2.2.2.1 = some .long) (h : Q (some (vL z)) M) : av_S E d mi pc ls [vL z] M Q := by
  intro p e R s m args below meth c H locs lsA C hP hS hL
  obtain ⟨hd, rfl⟩ := av_at (n := 0) C.1 hi rfl
  exact W.lret C.2.1 C.2.2.1 (C.2.2.2.2.1.trans hr) (fun t ht _ => av_ret h hP hS ht) hS.2.2 hd (hlocks := C.2.2.2.2.2.2.2.1)
theorem ax_aret {z : Nat} {n : String} (hi : av_lk mi.2.2.2.2 pc = some (.areturn, nx, tg)) (hr : mi.2.2.2.1 = some (.object n)) (h : Q (some (vR z)) M) : av_S E d mi pc ls [vR z] M Q := by
  intro p e R s m args below meth c H locs lsA C hP hS hL
  obtain ⟨hd, rfl⟩ := av_at (n := 0) C.1 hi rfl
  exact W.aret C.2.1 C.2.2.1 (C.2.2.2.2.1.trans hr) (Or.inl ⟨_, rfl⟩) (Or.inr ⟨_, rfl⟩) (fun t ht _ => av_ret (r := some (vR z)) h hP hS ht) hS.2.2 hd (hlocks := C.2.2.2.2.2.2.2.1)
theorem ax_vret (hi : av_lk mi.2.2.2.2 pc = some (.return_, nx, tg)) (hr : mi.2.2.2.1 = none) (h : Q none M) : av_S E d mi pc ls [] M Q := by
  intro p e R s m args below meth c H locs lsA C hP hS hL
  obtain ⟨hd, rfl⟩ := av_at (n := 0) C.1 hi rfl
  exact W.vret C.2.1 C.2.2.1 (C.2.2.2.2.1.trans hr) (fun t ht _ => av_ret (r := none) h hP hS ht) hS.2.2 hd (hlocks := C.2.2.2.2.2.2.2.1)
/-- another post -/
theorem ax_post {Q' : Option av_V → av_M → Prop} (k : av_S E d mi pc ls st M Q') (h : ∀ r M', Q' r M' → Q r M') : av_S E d mi pc ls st M Q := by
  intro p e R s m args below meth c H locs lsA C hP hS hL T hT X
  obtain ⟨t, h1, o, h2, h3, ⟨⟨r, M', h4, h5, h6⟩, h7⟩, h8⟩ := k p e R s m args below meth c H locs lsA C hP hS hL T hT X
  exact ⟨t, h1, o, h2, h3, ⟨⟨r, M', h4, h _ _ h5, h6⟩, h7⟩, h8⟩
-- calls
theorem av_words {args : Array Value} {s : State} (hts : ∀ w ∈ av_WT, w.before args s = true) {mi' : av_mi} (hme : av_me mi') : ∀ w ∈ (Cond.code mi'.1 mi'.2.1 mi'.2.2.1 mi'.2.2.2.1 :: av_WT), ∀ (a' : Array Value) (U : State), s.WarmedH U.vm → w.before a' U = true := by
  refine pay_in (big := av_WT) hts fun w hw => ?_
  have h : w ∈ av_WT := by
    rcases List.mem_cons.mp hw with rfl | h
    · exact hme.1
    · exact h
  exact ⟨h, good_of_word (List.mem_filter.mp h).2⟩
theorem av_Nw.warm {s U : State} (hW : s.WarmedH U.vm) (h : av_Nw s) : av_Nw U := by
  intro w hw
  have h0 := h w hw
  unfold av_NW at hw
  simp only [List.mem_cons, List.not_mem_nil, or_false] at hw
  rcases hw with rfl | rfl | rfl | rfl | rfl | rfl | rfl | rfl | rfl | rfl | rfl | rfl | rfl | rfl | rfl <;> first | exact va_Nw.warmM hW h0 | exact va_Nw.warmF hW h0
theorem av_Nw.same {s U : State} (hv : s.vm = U.vm) (h : av_Nw s) : av_Nw U := by
  intro w hw
  have h0 := h w hw
  unfold av_NW at hw
  simp only [List.mem_cons, List.not_mem_nil, or_false] at hw
  rcases hw with rfl | rfl | rfl | rfl | rfl | rfl | rfl | rfl | rfl | rfl | rfl | rfl | rfl | rfl | rfl <;> exact va_tabs rfl hv h0
theorem av_Zs.use {E : av_E} {s U : State} {H : Heap} {locs : List Loc} (h : av_Zs E s s.heap) (hal : s.vm.Alike U.vm) (hS : va_S (av_A E) s.heap H locs) (hU : U.heap = H) : av_Zs E U U.heap := by
  obtain ⟨h1, h2, h3, h4⟩ := h
  rw [hU]
  exact ⟨(h1.moved hal).kept hS.2.1, (h2.moved hal).kept hS.2.1, (h3.moved hal).kept hS.2.1, (h4.moved hal).kept hS.2.1⟩
theorem av_U.of {E : av_E} {M : av_M} {s U : State} {H : Heap} {locs : List Loc} (hP : va_P E.2.1 vwCl (av_ws E M) H) (hK : va_K E.2.1 vwCl (av_tys E) s) (hinj : av_inj E) (hZ : av_Zs E s s.heap) (hN : av_Nw s) (hS : va_S (av_A E) s.heap H locs) (hU : U.heap = H) (hW : s.WarmedH U.vm) : av_U E M U :=
  ⟨by rw [hU]; exact hP, va_K.moved hW.alike hK, hinj, hZ.use hW.alike hS hU, hN.warm hW⟩
theorem av_blind {E : av_E} {as : List av_V} {M : av_M} : FrameBlind (va_Pc (av_cs E as) (av_U E M)) := by
  intro a U g mk q
  obtain ⟨q0, q1, q2, q3, ⟨z1, z2, z3, z4⟩, q5⟩ := q
  have hal : U.vm.Alike (U.calling g mk a).vm := Vm.Alike.refl U.vm
  exact ⟨q0, q1, va_K.moved hal q2, q3, ⟨z1.moved hal, z2.moved hal, z3.moved hal, z4.moved hal⟩, av_Nw.same (s := U) (U := U.calling g mk a) rfl q5⟩
theorem av_runs {p : Program} {e : Env} {R : Room} {s : State} {m : MethodId} {args : Array Value} {below : List Frame} {meth : Method} {c : Code} {H : Heap} {locs : List Loc} {lsA : Array Slot} {as rest st0 : List av_V} {b : Bool} {Q' : Option av_V → av_M → Prop}
    (C : av_Cx E (d + 1) mi p R s m args meth c) (hP : va_P E.2.1 vwCl (av_ws E M) H) (hS : va_S (av_A E) s.heap H locs) (hL : lv_has lsA mi.2.2.1 (av_cl E ls)) (hn : nx = pc + 3)
    (hr : va_Run p E.1 e R s m args below meth c H locs 0 0 0 0 (F0 m pc lsA (av_cs E st0)) (av_cs E rest) (av_Q E Q' (av_cs E as).toArray) (av_A E))
    (k : ∀ r M', Q' r M' → av_S E (d + 1) mi nx ls (r.toList ++ rest) M' Q) : W p E.1 e R s m args below meth c H locs 0 0 (MQ below (av_Q E Q) args s 0 0 (av_A E)) (F0 m pc lsA (av_cs E st0)) := by
  intro T hT X
  subst hn
  obtain ⟨v, st₀, t, T', L, h0, X', hLo, e1, e2, ⟨⟨r, M', hv, hp, hb⟩, hz, hk⟩, st⟩ := hr T hT X
  have hv' : v = r.map (av_c E) := Outcome.returned.inj hv
  rw [h0] at hz hk
  have hS' : va_S (av_A E) s.heap T'.heap (locs ++ L) := ⟨Nat.le_trans hS.1 (by rw [e1]; exact hz), fun q h1 h2 => by rw [e1, hk q (Nat.lt_of_lt_of_le h1 hS.1) h2]; exact hS.2.1 q h1 h2, fun q hq => by
    rcases List.mem_append.mp hq with h | h
    · exact hS.2.2 q h
    · exact hLo q h⟩
  obtain ⟨t2, a1, b1⟩ := k r M' hp p e R s m args below meth c T'.heap (locs ++ L) lsA C (by rw [e1]; exact hb) hS' hL T' rfl X'
  refine ⟨t2, st t2 ?_, b1⟩
  have e3 : av_cs E (r.toList ++ rest) = v.toList ++ av_cs E rest := by
    rw [hv']
    cases r <;> rfl
  rw [e3] at a1
  exact a1
theorem av_wd_le {E : av_E} {st : List av_V} : ((av_cs E st).map fun v => v.category).sum = av_wd st := by
  induction st with
  | nil => rfl
  | cons v r ih =>
    unfold av_cs at ih ⊢
    simp only [List.map_cons, List.sum_cons, ih, av_cat]
    rfl
theorem ax_callV {mi' : av_mi} {ix ci n kk nn : Nat} {as : List av_V} {Q' : Option av_V → av_M → Prop} (hi : av_lk mi.2.2.2.2 pc = some (.invokevirtual ix, nx, tg)) (hc : av_cv mi.1.cls ix mi' ci n) (hme : av_me mi') (hmx : Nat.ble mi'.2.2.1 26 = true) (hst : st = as.reverse ++ vR kk :: rest) (hn : as.length = n) (hly : av_ly kk = (ci + 3, nn)) (hw : Nat.ble (av_wd rest) 8 = true)
    (hM : av_Mt E d mi' (vR kk :: as) M Q') (k : ∀ r M', Q' r M' → av_S E (d + 1) mi nx ls (r.toList ++ rest) M' Q) : av_S E (d + 1) mi pc ls st M Q := by
  intro p e R s m args below meth c H locs lsA C hP hS hL
  have C0 := C
  obtain ⟨ho, hx, hb, hml, hr, hown, hts, hlk, hfr, hlo, hK, hinj, hZ, hN⟩ := C
  obtain ⟨hd, rfl⟩ := av_at (n := 2) ho hi rfl
  obtain ⟨hlink, hinst, hsel, ⟨q, hq, hqc⟩, hpar⟩ := hc
  have hkN := (av_ly_in hly (Or.inl (by omega))).1
  have hmx' : mi'.2.2.1 ≤ 26 := Nat.le_of_ble_eq_true hmx
  have hrec := va_recv (D := E.2.1) (q0 := kk) hK hP hq (by rw [av_ws_get hkN, av_cell_ob hly])
  rw [hqc] at hrec
  have cw : CallW R s args mi.1.cls mi'.1.cls ix mi'.1 mi'.2.1 mi'.2.2.1 mi'.2.2.2.1 (Cond.code mi'.1 mi'.2.1 mi'.2.2.1 mi'.2.2.2.1 :: av_WT) { frames := d, cells := 0, slots := 0, locals := 45 * d } 0 0 n :=
    ⟨⟨rfl, rfl, hfr, by show 8 + (mi'.2.2.1 + 11) + 45 * d ≤ R.locals; omega, av_words hts hme, List.mem_cons_self, hts _ hme.1, hts _ hme.2.1, hme.2.2.1, fun sig h => by rw [h] at hpar; exact (Option.some.inj hpar).symm, hts _ hlink⟩, hts _ hinst, hts _ hsel⟩
  have hr := va_runV (p := p) (e := e) (below := below) (meth := meth) (locs := locs) (cells := 0) (slots := 0) (g := F0 m pc lsA (av_cs E st)) (As := av_cs E as) (rest := av_cs E rest) (nL := mi.2.2.1) (cc := mi.2.1) (Ts := av_WT) (H := H) ⟨hx, hb, hml, hown, hts⟩ hM cw
    ⟨av_blind, hrec, fun U hU hW => ⟨rfl, av_U.of hP hK hinj hZ hN hS hU hW⟩⟩ rfl (by rw [← hn]; simp [av_cs]) hL.1 (by show av_cs E st = _; rw [hst]; simp [av_cs, av_c]) (lv_room (by rw [av_wd_le]; exact Nat.le_of_ble_eq_true hw)) hd ⟨Nat.zero_le _, Nat.zero_le _⟩
  exact av_runs (as := vR kk :: as) (b := true) C0 hP hS hL rfl hr k
theorem ax_callS {mi' : av_mi} {ix n : Nat} {as : List av_V} {Q' : Option av_V → av_M → Prop} (hi : av_lk mi.2.2.2.2 pc = some (.invokestatic ix, nx, tg)) (hc : av_cs0 mi.1.cls ix mi' n) (hme : av_me mi') (hmx : Nat.ble mi'.2.2.1 26 = true) (hst : st = as.reverse ++ rest) (hn : as.length = n) (hw : Nat.ble (av_wd rest) 8 = true)
    (hM : av_Mt E d mi' as M Q') (k : ∀ r M', Q' r M' → av_S E (d + 1) mi nx ls (r.toList ++ rest) M' Q) : av_S E (d + 1) mi pc ls st M Q := by
  intro p e R s m args below meth c H locs lsA C hP hS hL
  have C0 := C
  obtain ⟨ho, hx, hb, hml, hr, hown, hts, hlk, hfr, hlo, hK, hinj, hZ, hN⟩ := C
  obtain ⟨hd, rfl⟩ := av_at (n := 2) ho hi rfl
  obtain ⟨hlink, hstt, hpar⟩ := hc
  have hmx' : mi'.2.2.1 ≤ 26 := Nat.le_of_ble_eq_true hmx
  have hsig : ∀ sig, parseMethodDescriptor mi'.1.desc = some sig → n = sig.parameters.length := fun sig h => by rw [h] at hpar; exact (Option.some.inj hpar).symm
  have hpre : PreS s H (va_Pc (av_cs E as) (av_U E M)) (av_cs E as) := ⟨av_blind, fun U hU hW => ⟨rfl, av_U.of hP hK hinj hZ hN hS hU hW⟩⟩
  have hloc : 8 + (mi'.2.2.1 + 11) + 45 * d ≤ R.locals := by omega
  have hlen : (av_cs E as).length = n := by rw [← hn]; simp [av_cs]
  have hstk : av_cs E st = (av_cs E as).reverse ++ av_cs E rest := by rw [hst]; simp [av_cs]
  rcases hlink with hlink | ⟨host, hlink⟩
  · have cw : CallB R s args mi.1.cls ix mi'.1 mi'.2.1 mi'.2.2.1 mi'.2.2.2.1 (Cond.code mi'.1 mi'.2.1 mi'.2.2.1 mi'.2.2.2.1 :: av_WT) { frames := d, cells := 0, slots := 0, locals := 45 * d } 0 0 n :=
      ⟨rfl, rfl, hfr, hloc, av_words hts hme, List.mem_cons_self, hts _ hme.1, hts _ hme.2.1, hme.2.2.1, hsig, hts _ hlink⟩
    have hr := va_runS (p := p) (e := e) (below := below) (meth := meth) (locs := locs) (cells := 0) (slots := 0) (g := F0 m pc lsA (av_cs E st)) (As := av_cs E as) (rest := av_cs E rest) (nL := mi.2.2.1) (cc := mi.2.1) (Ts := av_WT) (H := H) ⟨hx, hb, hml, hown, hts⟩ hM ⟨cw, hts _ hstt⟩
      hpre rfl hlen hL.1 hstk (lv_room (by rw [av_wd_le]; exact Nat.le_of_ble_eq_true hw)) hd ⟨Nat.zero_le _, Nat.zero_le _⟩
    exact av_runs (as := as) (b := true) C0 hP hS hL rfl hr k
  · have cw : va_CN R s args mi.1.cls ix mi'.1 host mi'.2.1 mi'.2.2.1 mi'.2.2.2.1 (Cond.code mi'.1 mi'.2.1 mi'.2.2.1 mi'.2.2.2.1 :: av_WT) { frames := d, cells := 0, slots := 0, locals := 45 * d } 0 0 n :=
      ⟨⟨rfl, rfl, hfr, hloc, av_words hts hme, List.mem_cons_self⟩, hts _ hme.1, hts _ hme.2.1, hme.2.2.1, hsig, va_Nw.use rfl (hN _ hlink)⟩
    have hr := va_runSN (p := p) (e := e) (below := below) (meth := meth) (locs := locs) (cells := 0) (slots := 0) (g := F0 m pc lsA (av_cs E st)) (As := av_cs E as) (rest := av_cs E rest) (nL := mi.2.2.1) (cc := mi.2.1) (Ts := av_WT) (H := H) ⟨hx, hb, hml, hown, hts⟩ hM ⟨cw, hts _ hstt, trivial⟩
      hpre rfl hlen hL.1 hstk (lv_room (by rw [av_wd_le]; exact Nat.le_of_ble_eq_true hw)) hd ⟨Nat.zero_le _, Nat.zero_le _⟩
    exact av_runs (as := as) (b := true) C0 hP hS hL rfl hr k
theorem ax_max {x y : Int} {ix : Nat} (hi : av_lk mi.2.2.2.2 pc = some (.invokestatic ix, nx, tg)) (hc : Cond.methodLink mi.1.cls ix Lib.Math.max.name ∈ av_WT) (hw : Nat.ble (av_wd st) 8 = true) (hx0 : -2147483648 ≤ x ∧ x < 2147483648) (hy0 : -2147483648 ≤ y ∧ y < 2147483648) (k : av_S E (d + 1) mi nx ls (vI (max x y) :: st) M Q) : av_S E (d + 1) mi pc ls (vI y :: vI x :: st) M Q := by
  refine ax_go hi rfl (fun p e R s m args below meth c H locs lsA Qm C hd hL hP hS k => ?_) k
  obtain ⟨ho, hx, hb, hml, hr, hown, hts, hlk, hfr, hlo, hK, hinj, hZ, hN⟩ := C
  have hw' : ((av_cs E st).map fun v => v.category).sum ≤ 8 := by rw [av_wd_le]; exact Nat.le_of_ble_eq_true hw
  refine va_mmax (rest := av_cs E st) hx hb (hml.trans hL.1.symm) hown (hts _ hc) (hts _ (av_in (by decide +kernel) rfl)) (hts _ (av_in (by decide +kernel) rfl)) (hts _ hJ9max) (by omega) (by omega) (Nat.zero_le _) (Nat.zero_le _) hd (av_Wst k ?_ rfl)
  simp only [av_cs, av_c, List.map_cons, av_lt32 hx0 hy0]
  congr 2
  split <;> congr 1 <;> omega
theorem ax_min {x y : Int} {ix : Nat} (hi : av_lk mi.2.2.2.2 pc = some (.invokestatic ix, nx, tg)) (hc : Cond.methodLink mi.1.cls ix Lib.Math.min.name ∈ av_WT) (hw : Nat.ble (av_wd st) 8 = true) (hx0 : -2147483648 ≤ x ∧ x < 2147483648) (hy0 : -2147483648 ≤ y ∧ y < 2147483648) (k : av_S E (d + 1) mi nx ls (vI (min x y) :: st) M Q) : av_S E (d + 1) mi pc ls (vI y :: vI x :: st) M Q := by
  refine ax_go hi rfl (fun p e R s m args below meth c H locs lsA Qm C hd hL hP hS k => ?_) k
  obtain ⟨ho, hx, hb, hml, hr, hown, hts, hlk, hfr, hlo, hK, hinj, hZ, hN⟩ := C
  have hw' : ((av_cs E st).map fun v => v.category).sum ≤ 8 := by rw [av_wd_le]; exact Nat.le_of_ble_eq_true hw
  refine va_mmin (rest := av_cs E st) hx hb (hml.trans hL.1.symm) hown (hts _ hc) (hts _ (av_in (by decide +kernel) rfl)) (hts _ (av_in (by decide +kernel) rfl)) (hts _ hJ9min) (by omega) (by omega) (Nat.zero_le _) (Nat.zero_le _) hd (av_Wst k ?_ rfl)
  simp only [av_cs, av_c, List.map_cons, av_lt32 hx0 hy0, av_lt32 hy0 hx0, av_le32 hx0 hy0, av_le32 hy0 hx0]
  congr 2
  split <;> congr 1 <;> omega
theorem ax_labs {x : Int} {ix : Nat} (hi : av_lk mi.2.2.2.2 pc = some (.invokestatic ix, nx, tg)) (hc : Cond.methodLink mi.1.cls ix Lib.MathLoose.abs_long.x ∈ av_WT) (hw : Nat.ble (av_wd st) 8 = true) (hx0 : -9223372036854775808 ≤ x ∧ x < 9223372036854775808) (k : av_S E (d + 1) mi nx ls (vL (if 0 < x then x else -x) :: st) M Q) : av_S E (d + 1) mi pc ls (vL x :: st) M Q := by
  refine ax_go hi rfl (fun p e R s m args below meth c H locs lsA Qm C hd hL hP hS k => ?_) k
  obtain ⟨ho, hx, hb, hml, hr, hown, hts, hlk, hfr, hlo, hK, hinj, hZ, hN⟩ := C
  have hw' : ((av_cs E st).map fun v => v.category).sum ≤ 8 := by rw [av_wd_le]; exact Nat.le_of_ble_eq_true hw
  refine va_mabs_long (rest := av_cs E st) hx hb (hml.trans hL.1.symm) hown (hts _ hc) (hts _ (av_in (by decide +kernel) rfl)) (hts _ (av_in (by decide +kernel) rfl)) (hts _ hJ9abs) (by omega) (by omega) (Nat.zero_le _) (Nat.zero_le _) hd (av_Wst k ?_ rfl)
  have e : (0 : Int64) < Int64.ofInt x ↔ 0 < x := av_lt64 (x := 0) (by omega) hx0
  simp only [av_cs, av_c, List.map_cons, e]
  congr 2
  split
  · rfl
  · exact Int64.ofInt_neg x
/-! the beginning of a method -/
theorem av_as_map (E : av_E) (as : List av_V) : ∀ i, lv_args i (av_cs E as) = av_cl E (av_as i as) := by
  induction as with
  | nil => intro i; rfl
  | cons v r ih =>
    intro i
    show (i, av_c E v) :: lv_args (if (av_c E v).category = 2 then i + 2 else i + 1) (av_cs E r) = (i, av_c E v) :: av_cl E (av_as (bif av_w2 v then i + 2 else i + 1) r)
    rw [ih, av_cat]
    cases av_w2 v <;> rfl
theorem av_sl_len (E : av_E) (as : List av_V) : (lg_sl (av_cs E as)).length = av_wd as := by
  induction as with
  | nil => rfl
  | cons v r ih =>
    have e : lg_sl (av_cs E (v :: r)) = (if (av_c E v).category = 2 then [.val (av_c E v), .second] else [.val (av_c E v)]) ++ lg_sl (av_cs E r) := by
      simp [lg_sl, av_cs]
    rw [e, List.length_append, ih, av_cat]
    show _ = (bif av_w2 v then 2 else 1) + av_wd r
    cases av_w2 v <;> simp
theorem av_enter {as : List av_V} (hme : av_me mi) (hok : av_OK mi) (hsz : Nat.ble (av_wd as) mi.2.2.1 = true) (h : av_as 0 as = ls) (k : av_S E d mi 0 ls [] M Q) : av_Mt E d mi as M Q := by
  unfold av_Mt
  refine Met.ofW (cc := mi.2.1) (maxL := mi.2.2.1) (ret := mi.2.2.2.1) hme.2.2.2 rfl ?_
  intro p e s m args below meth c s₁ B hml hv
  obtain ⟨rfl, hP, hK, hinj, hZ, hN⟩ := hv
  have hts := atoms_spec (ws := Cond.code mi.1 mi.2.1 mi.2.2.1 mi.2.2.2.1 :: av_WT) B.pre
  have hl := lv_entry (av_cs E as) (n := mi.2.2.1) (by rw [av_sl_len]; exact Nat.le_of_ble_eq_true hsz)
  rw [lg_entry_eq]
  rw [av_as_map, h] at hl
  exact k p e _ s m _ below meth c s.heap [] _ ⟨hok, B.exec, B.bytes, hml, B.returns, findClass_of_methodNamed B.named, fun w hw => hts w (List.mem_cons_of_mem _ hw), B.notSynchronized, Nat.le_refl _, Nat.le_refl _, hK, hinj, hZ, hN⟩ hP va_S.rf hl
theorem av_Xk {E : av_E} {d : Nat} {mi : av_mi} {nx : Nat} {ls : av_Ls} {rest : List av_V} {Q : Option av_V → av_M → Prop} {r0 : Option av_V} {M1 : av_M} (k : av_S E d mi nx ls (r0.toList ++ rest) M1 Q) : ∀ r M', av_X r0 M1 r M' → av_S E d mi nx ls (r.toList ++ rest) M' Q := by
  intro r M' h
  obtain ⟨rfl, rfl⟩ := h
  exact k
end AX
theorem av_upE {M : av_M} {k : Nat} {z v : Int} {P : av_M → Prop} (h : ∀ M' : av_M, M' k z = v → (∀ j, j ≠ z → M' k j = M k j) → (∀ k', k' ≠ k → M' k' = M k') → P M') : P (av_up M k z v) :=
  h _ av_up_at (fun _ hj => av_up_off hj) (fun _ hk => av_up_ne hk)
section AX2
variable {E : av_E} {d : Nat} {mi : av_mi} {pc nx tg : Nat} {ls ls' : av_Ls} {st st' rest : List av_V} {M : av_M} {Q : Option av_V → av_M → Prop}
theorem ax_putI' {ix ci f kk n : Nat} {z g : Int} (hi : av_lk mi.2.2.2.2 pc = some (.putfield ix, nx, tg)) (hf : av_fp mi.1.cls ix ci f .int) (hly : av_ly kk = (ci + 3, n)) (h1 : av_rf kk f = none) (h2 : av_lf kk f = false) (hg : (f : Int) = g) (k : ∀ M' : av_M, M' kk g = z → (∀ j, j ≠ g → M' kk j = M kk j) → (∀ k', k' ≠ kk → M' k' = M k') → av_S E d mi nx ls st M' Q) : av_S E d mi pc ls (vI z :: vR kk :: st) M Q :=
  ax_putI hi hf hly h1 h2 (by rw [hg]; exact av_upE k)
theorem ax_putL' {ix ci f kk n : Nat} {z g : Int} (hi : av_lk mi.2.2.2.2 pc = some (.putfield ix, nx, tg)) (hf : av_fp mi.1.cls ix ci f .long) (hly : av_ly kk = (ci + 3, n)) (h1 : av_rf kk f = none) (h2 : av_lf kk f = true) (hg : (f : Int) = g) (k : ∀ M' : av_M, M' kk g = z → (∀ j, j ≠ g → M' kk j = M kk j) → (∀ k', k' ≠ kk → M' k' = M k') → av_S E d mi nx ls st M' Q) : av_S E d mi pc ls (vL z :: vR kk :: st) M Q :=
  ax_putL hi hf hly h1 h2 (by rw [hg]; exact av_upE k)
theorem ax_putZ' {ix ci f kk n : Nat} {z g : Int} (hi : av_lk mi.2.2.2.2 pc = some (.putfield ix, nx, tg)) (hf : av_fp mi.1.cls ix ci f .boolean) (hly : av_ly kk = (ci + 3, n)) (h1 : av_rf kk f = none) (h2 : av_lf kk f = false) (hz : z = 0 ∨ z = 1) (hg : (f : Int) = g) (k : ∀ M' : av_M, M' kk g = z → (∀ j, j ≠ g → M' kk j = M kk j) → (∀ k', k' ≠ kk → M' k' = M k') → av_S E d mi nx ls st M' Q) : av_S E d mi pc ls (vI z :: vR kk :: st) M Q :=
  ax_putZ hi hf hly h1 h2 hz (by rw [hg]; exact av_upE k)
theorem ax_iast' {kk n : Nat} {z x : Int} (hi : av_lk mi.2.2.2.2 pc = some (.iastore, nx, tg)) (hly : av_ly kk = (0, n)) (hz : 0 ≤ z ∧ z < n) (k : ∀ M' : av_M, M' kk z = x → (∀ j, j ≠ z → M' kk j = M kk j) → (∀ k', k' ≠ kk → M' k' = M k') → av_S E d mi nx ls st M' Q) : av_S E d mi pc ls (vI x :: vI z :: vR kk :: st) M Q :=
  ax_iast hi hly hz (av_upE k)
theorem ax_last' {kk n : Nat} {z x : Int} (hi : av_lk mi.2.2.2.2 pc = some (.lastore, nx, tg)) (hly : av_ly kk = (1, n)) (hz : 0 ≤ z ∧ z < n) (k : ∀ M' : av_M, M' kk z = x → (∀ j, j ≠ z → M' kk j = M kk j) → (∀ k', k' ≠ kk → M' k' = M k') → av_S E d mi nx ls st M' Q) : av_S E d mi pc ls (vL x :: vI z :: vR kk :: st) M Q :=
  ax_last hi hly hz (av_upE k)
theorem ax_bast' {kk n : Nat} {z x : Int} (hi : av_lk mi.2.2.2.2 pc = some (.bastore, nx, tg)) (hly : av_ly kk = (2, n)) (hz : 0 ≤ z ∧ z < n) (hb1 : x = 0 ∨ x = 1) (k : ∀ M' : av_M, M' kk z = x → (∀ j, j ≠ z → M' kk j = M kk j) → (∀ k', k' ≠ kk → M' k' = M k') → av_S E d mi nx ls st M' Q) : av_S E d mi pc ls (vI x :: vI z :: vR kk :: st) M Q :=
  ax_bast hi hly hz hb1 (av_upE k)
theorem ax_alen {kk n : Nat} (hi : av_lk mi.2.2.2.2 pc = some (.arraylength, nx, tg)) (hly : av_ly kk = (0, n)) (hn : 0 < n) (k : av_S E d mi nx ls (vI n :: st) M Q) : av_S E d mi pc ls (vR kk :: st) M Q := by
  refine ax_go hi rfl (fun p e R s m args below meth c H locs lsA Qm C hd hL hP hS k => ?_) k
  obtain ⟨ho, hx, hb, hml, hr, hown, hts, hlk, hfr, hlo, hK, hinj, hZ, hN⟩ := C
  obtain ⟨hkN, hn⟩ := av_ly_in hly (Or.inr hn)
  exact va_alen (D := E.2.1) hx hb hK hP kk 0 (by rw [av_ws_get hkN, av_cell_0 hly]) rfl (by show Int32.ofNat n = Int32.ofInt (n : Int); rw [Int32.ofInt_eq_ofNat]) hd k
theorem ax_tabIn {df lo hi off x : Int} {offs : Array Int} {t : Nat} (hi0 : av_lk mi.2.2.2.2 pc = some (.tableswitch df lo hi offs, nx, tg)) (hx : -2147483648 ≤ x ∧ x < 2147483648) (h1 : lo ≤ x) (h2 : x ≤ hi) (ho : offs[(x - lo).toNat]? = some off) (ht : (pc : Int) + off = (t : Int)) (k : av_S E d mi t ls st M Q) : av_S E d mi pc ls (vI x :: st) M Q := by
  intro p e R s m args below meth c H locs lsA C hP hS hL
  obtain ⟨hd, -⟩ := av_at1 C.1 hi0
  have e1 := av_to32 hx.1 hx.2
  exact lv_tableIn C.2.1 C.2.2.1 hd (by rw [e1]; omega) (by rw [e1]; omega) (by rw [e1]; exact ho) ht (k p e R s m args below meth c H locs lsA C hP hS hL)
theorem ax_tabOut {df lo hi x : Int} {offs : Array Int} {t : Nat} (hi0 : av_lk mi.2.2.2.2 pc = some (.tableswitch df lo hi offs, nx, tg)) (hx : -2147483648 ≤ x ∧ x < 2147483648) (h1 : x < lo ∨ hi < x) (ht : (pc : Int) + df = (t : Int)) (k : av_S E d mi t ls st M Q) : av_S E d mi pc ls (vI x :: st) M Q := by
  intro p e R s m args below meth c H locs lsA C hP hS hL
  obtain ⟨hd, -⟩ := av_at1 C.1 hi0
  have e1 := av_to32 hx.1 hx.2
  exact lv_tableOut C.2.1 C.2.2.1 hd (by rw [e1]; omega) ht (k p e R s m args below meth c H locs lsA C hP hS hL)
end AX2
end
section
/-! ===== the plane: turns, the order by x then y, chains, hulls ===== -/
abbrev pt : Type := Rat × Rat
def xp (u v : pt) : Rat := u.1 * v.2 - u.2 * v.1
def sb (a b : pt) : pt := (b.1 - a.1, b.2 - a.2)
def cr (a b c : pt) : Rat := xp (sb a b) (sb a c)
def lx (a b : pt) : Prop := a.1 < b.1 ∨ (a.1 = b.1 ∧ a.2 < b.2)
/-- ahead of the origin by x, then y -/
def hp (u : pt) : Prop := 0 < u.1 ∨ (u.1 = 0 ∧ 0 < u.2)
def ng (u : pt) : pt := (-u.1, -u.2)
theorem r_pos {a b : Rat} (h : 0 < a) (h2 : 0 ≤ a * b) : 0 ≤ b := by
  apply Classical.byContradiction
  intro h3
  have h4 : 0 < -b := by grind
  have := Rat.mul_pos h h4
  grind
theorem r_pos' {a b : Rat} (h : 0 < a) (h2 : 0 < a * b) : 0 < b := by
  apply Classical.byContradiction
  intro h3
  have h4 : 0 ≤ -b := by grind
  have := Rat.mul_nonneg (Rat.le_of_lt h) h4
  grind
theorem r_zero {a b : Rat} (h : a ≠ 0) (h2 : a * b = 0) : b = 0 := by
  rcases Rat.mul_eq_zero.mp h2 with h3 | h3
  · exact absurd h3 h
  · exact h3
theorem r_nn {a b : Rat} (h : 0 ≤ a) (h2 : 0 ≤ b) : 0 ≤ a * b := Rat.mul_nonneg h h2
theorem r_pp {a b : Rat} (h : 0 < a) (h2 : 0 < b) : 0 < a * b := Rat.mul_pos h h2
theorem hp_11 {u v w : pt} (hu : hp u) (hv : hp v) (hw : hp w) (h1 : 0 ≤ xp u v) (h2 : 0 ≤ xp v w) : 0 ≤ xp u w := by
  unfold xp at *
  have e : v.1 * (u.1 * w.2 - u.2 * w.1) = u.1 * (v.1 * w.2 - v.2 * w.1) + w.1 * (u.1 * v.2 - u.2 * v.1) := by grind
  rcases hv with hv | ⟨hv, hv2⟩
  · refine r_pos hv ?_
    rw [e]
    have a1 : 0 ≤ u.1 := by unfold hp at hu; grind
    have a2 : 0 ≤ w.1 := by unfold hp at hw; grind
    have := r_nn a1 h2
    have := r_nn a2 h1
    grind
  · have b1 : 0 ≤ v.2 * (-w.1) := by rw [hv] at h2; grind
    have b2 := r_pos hv2 b1
    have a2 : w.1 = 0 ∧ 0 < w.2 := by unfold hp at hw; grind
    have a1 : 0 ≤ u.1 := by unfold hp at hu; grind
    have := r_nn a1 (Rat.le_of_lt a2.2)
    rw [a2.1]; grind
theorem hp_21 {u v w : pt} (hu : hp u) (hv : hp v) (hw : hp w) (h1 : 0 < xp u v) (h2 : 0 ≤ xp v w) : 0 < xp u w := by
  unfold xp at *
  have e : v.1 * (u.1 * w.2 - u.2 * w.1) = u.1 * (v.1 * w.2 - v.2 * w.1) + w.1 * (u.1 * v.2 - u.2 * v.1) := by grind
  have hu1 : 0 < u.1 := by
    rcases hu with hu | ⟨hu, hu2⟩
    · exact hu
    · exfalso
      have a1 : 0 ≤ v.1 := by unfold hp at hv; grind
      have := r_nn a1 (Rat.le_of_lt hu2)
      rw [hu] at h1; grind
  rcases hv with hv | ⟨hv, hv2⟩
  · refine r_pos' hv ?_
    rw [e]
    rcases hw with hw | ⟨hw, hw2⟩
    · have := r_nn (Rat.le_of_lt hu1) h2
      have := r_pp hw h1
      grind
    · have := r_pp hu1 (r_pp hv hw2)
      rw [hw]; grind
  · have b1 : 0 ≤ v.2 * (-w.1) := by rw [hv] at h2; grind
    have b2 := r_pos hv2 b1
    have a2 : w.1 = 0 ∧ 0 < w.2 := by unfold hp at hw; grind
    have := r_pp hu1 a2.2
    rw [a2.1]; grind
theorem hp_12 {u v w : pt} (hu : hp u) (hv : hp v) (hw : hp w) (h1 : 0 ≤ xp u v) (h2 : 0 < xp v w) : 0 < xp u w := by
  apply Classical.byContradiction
  intro h3
  have h4 : 0 ≤ xp w u := by unfold xp at *; grind
  have h5 := hp_21 hv hw hu h2 h4
  unfold xp at *; grind
/-- the two orders: ahead (σ = 1), behind (σ = -1) -/
def HS (σ : Rat) (u : pt) : Prop := hp (σ * u.1, σ * u.2)
def lq (σ : Rat) (a b : pt) : Prop := HS σ (sb a b)
def sgn1 (σ : Rat) : Prop := σ = 1 ∨ σ = -1
theorem xp_s {σ : Rat} (hσ : sgn1 σ) (u v : pt) : xp (σ * u.1, σ * u.2) (σ * v.1, σ * v.2) = xp u v := by
  unfold xp
  rcases hσ with rfl | rfl <;> grind
theorem hs_11 {σ : Rat} (hσ : sgn1 σ) {u v w : pt} (hu : HS σ u) (hv : HS σ v) (hw : HS σ w) (h1 : 0 ≤ xp u v) (h2 : 0 ≤ xp v w) : 0 ≤ xp u w := by
  have := hp_11 hu hv hw (by rw [xp_s hσ]; exact h1) (by rw [xp_s hσ]; exact h2)
  rwa [xp_s hσ] at this
theorem hs_21 {σ : Rat} (hσ : sgn1 σ) {u v w : pt} (hu : HS σ u) (hv : HS σ v) (hw : HS σ w) (h1 : 0 < xp u v) (h2 : 0 ≤ xp v w) : 0 < xp u w := by
  have := hp_21 hu hv hw (by rw [xp_s hσ]; exact h1) (by rw [xp_s hσ]; exact h2)
  rwa [xp_s hσ] at this
theorem hs_12 {σ : Rat} (hσ : sgn1 σ) {u v w : pt} (hu : HS σ u) (hv : HS σ v) (hw : HS σ w) (h1 : 0 ≤ xp u v) (h2 : 0 < xp v w) : 0 < xp u w := by
  have := hp_12 hu hv hw (by rw [xp_s hσ]; exact h1) (by rw [xp_s hσ]; exact h2)
  rwa [xp_s hσ] at this
theorem lq_1 {a b : pt} : lq 1 a b ↔ lx a b := by
  unfold lq HS hp sb lx; grind
theorem lq_m {a b : pt} : lq (-1) a b ↔ lx b a := by
  unfold lq HS hp sb lx; grind
theorem lq_ir {σ : Rat} {a : pt} : ¬ lq σ a a := by
  unfold lq HS hp sb; grind
theorem lq_tr {σ : Rat} (hσ : sgn1 σ) {a b c : pt} (h1 : lq σ a b) (h2 : lq σ b c) : lq σ a c := by
  rcases hσ with rfl | rfl
  · rw [lq_1] at *; unfold lx at *; grind
  · rw [lq_m] at *; unfold lx at *; grind
theorem lx_ir {a : pt} : ¬ lx a a := by unfold lx; grind
theorem lx_tr {a b c : pt} (h1 : lx a b) (h2 : lx b c) : lx a c := by unfold lx at *; grind
theorem lx_as {a b : pt} (h1 : lx a b) (h2 : lx b a) : False := by unfold lx at *; grind
theorem lx_tri (a b : pt) : lx a b ∨ a = b ∨ lx b a := by
  have : a = b ↔ a.1 = b.1 ∧ a.2 = b.2 := Prod.ext_iff
  rw [this]
  unfold lx; grind
theorem lq_tri {σ : Rat} (hσ : sgn1 σ) (a b : pt) : lq σ a b ∨ a = b ∨ lq σ b a := by
  rcases hσ with rfl | rfl
  · rw [lq_1, lq_1]; exact lx_tri a b
  · rw [lq_m, lq_m]; rcases lx_tri a b with h | h | h
    · exact Or.inr (Or.inr h)
    · exact Or.inr (Or.inl h)
    · exact Or.inl h
/-- on the segment from a to b, told by the order alone -/
def bt (a b p : pt) : Prop := p = a ∨ p = b ∨ (lx a p ∧ lx p b) ∨ (lx b p ∧ lx p a)
def eg (S : pt → Prop) (a b : pt) : Prop := ∀ p, S p → 0 ≤ cr a b p ∧ (cr a b p = 0 → bt a b p)
theorem bt_of {σ : Rat} (hσ : sgn1 σ) {a b p : pt} (h1 : p = a ∨ lq σ a p) (h2 : p = b ∨ lq σ p b) : bt a b p := by
  rcases h1 with h1 | h1
  · exact Or.inl h1
  · rcases h2 with h2 | h2
    · exact Or.inr (Or.inl h2)
    · rcases hσ with rfl | rfl
      · rw [lq_1] at *; exact Or.inr (Or.inr (Or.inl ⟨h1, h2⟩))
      · rw [lq_m] at *; exact Or.inr (Or.inr (Or.inr ⟨h2, h1⟩))
theorem cr_rot (a b c : pt) : cr a b c = cr b c a := by unfold cr xp sb; grind
theorem cr_sw (a b c : pt) : cr a c b = - cr a b c := by unfold cr xp sb; grind
theorem cr_aa (a b : pt) : cr a a b = 0 := by unfold cr xp sb; grind
theorem cr_ab (a b : pt) : cr a b a = 0 := by unfold cr xp sb; grind
theorem cr_bb (a b : pt) : cr a b b = 0 := by unfold cr xp sb; grind
/-- a chain: places b to r - 1 of c, ever ahead, ever to the left, with all of S on the left of each step -/
def CH (σ : Rat) (S : pt → Prop) (b r : Nat) (c : Nat → pt) : Prop :=
  b < r ∧ (∀ i, b ≤ i → i < r → S (c i)) ∧ (∀ p, S p → p = c b ∨ lq σ (c b) p) ∧
  (∀ i, b ≤ i → i + 1 < r → lq σ (c i) (c (i + 1)) ∧ eg S (c i) (c (i + 1))) ∧
  (∀ i, b ≤ i → i + 2 < r → 0 < cr (c i) (c (i + 1)) (c (i + 2)))
def CD (σ : Rat) (S : pt → Prop) (t p : pt) : Prop :=
  (∀ s, S s → s = t ∨ lq σ s t) ∨ ∃ q, eg S t q ∧ lq σ t q ∧ lq σ q p ∧ cr t q p ≤ 0
theorem CH_pop {σ : Rat} {S : pt → Prop} {b r : Nat} {c : Nat → pt} {p : pt} (h : CH σ S b r c) (hr : b + 2 ≤ r) (ht : cr (c (r - 2)) (c (r - 1)) p ≤ 0) (hp : ∀ s, S s → lq σ s p) : CH σ S b (r - 1) c ∧ CD σ S (c (r - 1 - 1)) p := by
  obtain ⟨h1, h2, h3, h4, h5⟩ := h
  refine ⟨⟨by omega, fun i hi hi2 => h2 i hi (by omega), h3, fun i hi hi2 => h4 i hi (by omega), fun i hi hi2 => h5 i hi (by omega)⟩, Or.inr ⟨c (r - 1), ?_, ?_, hp _ (h2 _ (by omega) (by omega)), ?_⟩⟩
  · have := (h4 (r - 2) (by omega) (by omega)).2
    rwa [show r - 2 + 1 = r - 1 by omega] at this
  · have := (h4 (r - 2) (by omega) (by omega)).1
    rwa [show r - 2 + 1 = r - 1 by omega] at this
  · exact ht
theorem cr_chain {σ : Rat} (hσ : sgn1 σ) {a b c p : pt} (h1 : lq σ a b) (h2 : lq σ b c) (h3 : lq σ c p) (t1 : 0 < cr a b c) (t2 : 0 < cr b c p) : 0 < cr a b p := by
  have e1 : cr a b c = xp (sb a b) (sb b c) := by unfold cr xp sb; grind
  have e2 : cr b c p = xp (sb b c) (sb c p) := by unfold cr xp sb; grind
  have e3 : cr a b p = xp (sb a b) (sb b c) + xp (sb a b) (sb c p) := by unfold cr xp sb; grind
  rw [e1] at t1
  rw [e2] at t2
  have := hs_21 hσ h1 h2 h3 t1 (Rat.le_of_lt t2)
  rw [e3]; grind
theorem CH_push {σ : Rat} (hσ : sgn1 σ) {S : pt → Prop} {b r : Nat} {c c' : Nat → pt} {p : pt} (h : CH σ S b r c) (hc : CD σ S (c (r - 1)) p) (ht : b + 1 = r ∨ 0 < cr (c (r - 2)) (c (r - 1)) p) (hp : ∀ s, S s → lq σ s p)
    (hc1 : c' r = p) (hc2 : ∀ i, i < r → c' i = c i) : CH σ (fun s => S s ∨ s = p) b (r + 1) c' ∧ ∀ s, (S s ∨ s = p) → s = c' r ∨ lq σ s (c' r) := by
  obtain ⟨h1, h2, h3, h4, h5⟩ := h
  have hb : S (c b) := h2 b (Nat.le_refl _) h1
  have htop : S (c (r - 1)) := h2 _ (by omega) (by omega)
  have hturn : ∀ k i, i + 2 + k = r → b ≤ i → 0 < cr (c i) (c (i + 1)) p := by
    intro k
    induction k with
    | zero =>
      intro i hi hbi
      rcases ht with ht | ht
      · omega
      · rwa [show r - 2 = i by omega, show r - 1 = i + 1 by omega] at ht
    | succ k ih =>
      intro i hi hbi
      have t2 := ih (i + 1) (by omega) (by omega)
      exact cr_chain hσ (h4 i hbi (by omega)).1 (h4 (i + 1) (by omega) (by omega)).1 (hp _ (h2 _ (by omega) (by omega))) (h5 i hbi (by omega)) t2
  have hnew : eg (fun s => S s ∨ s = p) (c (r - 1)) p := by
    intro s hs
    rcases hs with hs | rfl
    · have hlast : s = p ∨ lq σ s p := Or.inr (hp s hs)
      rcases lq_tri hσ s (c (r - 1)) with h | h | h
      · -- behind the top
        by_cases hbr : b + 1 = r
        · exfalso
          have e : r - 1 = b := by omega
          rw [e] at h
          rcases h3 s hs with h' | h'
          · rw [h'] at h; exact lq_ir h
          · exact lq_ir (lq_tr hσ h' h)
        · have t1 : 0 < cr (c (r - 2)) (c (r - 1)) p := by
            rcases ht with ht | ht
            · omega
            · exact ht
          have hq := h4 (r - 2) (by omega) (by omega)
          rw [show r - 2 + 1 = r - 1 by omega] at hq
          have e1 := (hq.2 s hs).1
          have f1 : cr (c (r - 2)) (c (r - 1)) p = xp (sb (c (r - 2)) (c (r - 1))) (sb (c (r - 1)) p) := by unfold cr xp sb; grind
          have f2 : cr (c (r - 2)) (c (r - 1)) s = xp (sb s (c (r - 1))) (sb (c (r - 2)) (c (r - 1))) := by unfold cr xp sb; grind
          have f3 : cr (c (r - 1)) p s = xp (sb s (c (r - 1))) (sb (c (r - 1)) p) := by unfold cr xp sb; grind
          rw [f1] at t1
          rw [f2] at e1
          have := hs_12 hσ h hq.1 (hp _ htop) e1 t1
          rw [← f3] at this
          exact ⟨Rat.le_of_lt this, fun z => by rw [z] at this; exact absurd this Rat.lt_irrefl⟩
      · rw [h]
        exact ⟨by rw [cr_ab]; exact Rat.le_refl, fun _ => Or.inl rfl⟩
      · rcases hc with hc | ⟨q, q1, q2, q3, q4⟩
        · exfalso
          rcases hc s hs with h' | h'
          · rw [h'] at h; exact lq_ir h
          · exact lq_ir (lq_tr hσ h h')
        · refine ⟨?_, fun _ => bt_of hσ (Or.inr h) hlast⟩
          have e1 := (q1 s hs).1
          have e2 : 0 ≤ xp (sb (c (r - 1)) p) (sb (c (r - 1)) q) := by
            have := cr_sw (c (r - 1)) q p
            unfold cr at this q4; grind
          exact hs_11 hσ (hp _ htop) q2 h e2 e1
    · exact ⟨by rw [cr_bb]; exact Rat.le_refl, fun _ => Or.inr (Or.inl rfl)⟩
  refine ⟨⟨by omega, ?_, ?_, ?_, ?_⟩, ?_⟩
  · intro i hi hi2
    by_cases he : i = r
    · subst he; exact Or.inr hc1
    · rw [hc2 i (by omega)]; exact Or.inl (h2 i hi (by omega))
  · intro s hs
    rw [hc2 b h1]
    rcases hs with hs | rfl
    · exact h3 s hs
    · exact Or.inr (hp _ hb)
  · intro i hi hi2
    by_cases he : i + 1 = r
    · rw [he, hc1, hc2 i (by omega), show i = r - 1 by omega]
      exact ⟨hp _ htop, hnew⟩
    · rw [hc2 i (by omega), hc2 (i + 1) (by omega)]
      have hq := h4 i hi (by omega)
      refine ⟨hq.1, fun s hs => ?_⟩
      rcases hs with hs | rfl
      · exact hq.2 s hs
      · have t := hturn (r - (i + 2)) i (by omega) hi
        exact ⟨Rat.le_of_lt t, fun z => by rw [z] at t; exact absurd t Rat.lt_irrefl⟩
  · intro i hi hi2
    by_cases he : i + 2 = r
    · rw [he, hc1, hc2 i (by omega), hc2 (i + 1) (by omega)]
      exact hturn 0 i (by omega) hi
    · rw [hc2 i (by omega), hc2 (i + 1) (by omega), hc2 (i + 2) (by omega)]
      exact h5 i hi (by omega)
  · intro s hs
    rw [hc1]
    rcases hs with hs | hs
    · exact Or.inr (hp s hs)
    · exact Or.inl hs
theorem CH_one {σ : Rat} {p : pt} {c : Nat → pt} {b : Nat} (h : c b = p) : CH σ (fun s => s = p) b (b + 1) c := by
  refine ⟨by omega, fun i hi hi2 => ?_, fun q hq => Or.inl (hq.trans h.symm), fun i hi hi2 => by omega, fun i hi hi2 => by omega⟩
  rw [show i = b by omega]; exact h
/-! hulls -/
def nxt (h i : Nat) : Nat := if i + 1 < h then i + 1 else 0
def Hull (S : pt → Prop) (h : Nat) (c : Nat → pt) : Prop :=
  0 < h ∧ (∀ i, i < h → S (c i)) ∧ (∀ p, S p → p = c 0 ∨ lx (c 0) p) ∧ (∀ i, 0 < i → i < h → c i ≠ c 0) ∧ (h = 1 → ∀ p, S p → p = c 0) ∧
  (1 < h → ∀ i, i < h → c i ≠ c (nxt h i) ∧ eg S (c i) (c (nxt h i)))
theorem bt_as {a q q' : pt} (h1 : bt a q q') (h2 : bt a q' q) (n1 : q ≠ a) (n2 : q' ≠ a) : q = q' := by
  unfold bt at *
  rcases h1 with h1 | h1 | ⟨h1, h1'⟩ | ⟨h1, h1'⟩
  · exact absurd h1 n2
  · exact h1.symm
  · rcases h2 with h2 | h2 | ⟨h2, h2'⟩ | ⟨h2, h2'⟩
    · exact absurd h2 n1
    · exact h2
    · exact (lx_as h1' h2').elim
    · exact (lx_as (lx_tr h1 h1') h2').elim
  · rcases h2 with h2 | h2 | ⟨h2, h2'⟩ | ⟨h2, h2'⟩
    · exact absurd h2 n1
    · exact h2
    · exact (lx_as (lx_tr h2 h2') h1').elim
    · exact (lx_as h1 h2).elim
theorem eg_un {S : pt → Prop} {a q q' : pt} (h : eg S a q) (h' : eg S a q') (hq : S q) (hq' : S q') (n1 : q ≠ a) (n2 : q' ≠ a) : q = q' := by
  have e1 := h q' hq'
  have e2 := h' q hq
  have e3 := cr_sw a q q'
  have z1 : cr a q q' = 0 := by grind
  have z2 : cr a q' q = 0 := by grind
  exact bt_as (e1.2 z1) (e2.2 z2) n1 n2
theorem nxt_lt {h i : Nat} (h0 : 0 < h) : nxt h i < h := by unfold nxt; split <;> omega
theorem Hull_step {S : pt → Prop} {h h' : Nat} {c c' : Nat → pt} (H : Hull S h c) (H' : Hull S h' c') (i : Nat) (hi : i < h) (hi' : i < h') (e : c i = c' i) : (1 < h ↔ 1 < h') ∧ (1 < h → c (nxt h i) = c' (nxt h' i)) := by
  obtain ⟨a1, a2, a3, a4, a5, a6⟩ := H
  obtain ⟨b1, b2, b3, b4, b5, b6⟩ := H'
  have f1 : 1 < h → 1 < h' := by
    intro h1
    apply Classical.byContradiction
    intro hn
    have e1 : h' = 1 := by omega
    have := b5 e1
    have q := (a6 h1 i hi).1
    have q1 := this _ (a2 _ hi)
    have q2 := this _ (a2 _ (nxt_lt (i := i) a1))
    exact q (q1.trans q2.symm)
  have f2 : 1 < h' → 1 < h := by
    intro h1
    apply Classical.byContradiction
    intro hn
    have e1 : h = 1 := by omega
    have := a5 e1
    have q := (b6 h1 i hi').1
    have q1 := this _ (b2 _ hi')
    have q2 := this _ (b2 _ (nxt_lt (i := i) b1))
    exact q (q1.trans q2.symm)
  refine ⟨⟨f1, f2⟩, fun h1 => ?_⟩
  have g1 := a6 h1 i hi
  have g2 := b6 (f1 h1) i hi'
  rw [← e] at g2
  exact eg_un g1.2 g2.2 (a2 _ (nxt_lt a1)) (b2 _ (nxt_lt b1)) g1.1.symm g2.1.symm
theorem Hull_un {S : pt → Prop} {h h' : Nat} {c c' : Nat → pt} (H : Hull S h c) (H' : Hull S h' c') : h = h' ∧ ∀ i, i < h → c i = c' i := by
  have e0 : c 0 = c' 0 := by
    rcases H.2.2.1 _ (H'.2.1 0 H'.1) with h1 | h1
    · exact h1.symm
    · rcases H'.2.2.1 _ (H.2.1 0 H.1) with h2 | h2
      · exact h2
      · exact (lx_as h1 h2).elim
  have key : ∀ i, i < h → i < h' ∧ c i = c' i := by
    intro i
    induction i with
    | zero => intro _; exact ⟨H'.1, e0⟩
    | succ i ih =>
      intro hi
      obtain ⟨i1, i2⟩ := ih (by omega)
      obtain ⟨s1, s2⟩ := Hull_step H H' i (by omega) i1 i2
      have s3 := s2 (by omega)
      have e1 : nxt h i = i + 1 := by unfold nxt; rw [if_pos hi]
      rw [e1] at s3
      by_cases hl : i + 1 < h'
      · have e2 : nxt h' i = i + 1 := by unfold nxt; rw [if_pos hl]
        rw [e2] at s3
        exact ⟨hl, s3⟩
      · exfalso
        have e2 : nxt h' i = 0 := by unfold nxt; rw [if_neg hl]
        rw [e2, ← e0] at s3
        exact H.2.2.2.1 (i + 1) (by omega) hi s3
  have key' : ∀ i, i < h' → i < h ∧ c' i = c i := by
    intro i
    induction i with
    | zero => intro _; exact ⟨H.1, e0.symm⟩
    | succ i ih =>
      intro hi
      obtain ⟨i1, i2⟩ := ih (by omega)
      obtain ⟨s1, s2⟩ := Hull_step H' H i (by omega) i1 i2
      have s3 := s2 (by omega)
      have e1 : nxt h' i = i + 1 := by unfold nxt; rw [if_pos hi]
      rw [e1] at s3
      by_cases hl : i + 1 < h
      · have e2 : nxt h i = i + 1 := by unfold nxt; rw [if_pos hl]
        rw [e2] at s3
        exact ⟨hl, s3⟩
      · exfalso
        have e2 : nxt h i = 0 := by unfold nxt; rw [if_neg hl]
        rw [e2, e0] at s3
        exact H'.2.2.2.1 (i + 1) (by omega) hi s3
  have h1 := key (h - 1) (by have := H.1; omega)
  have h2 := key' (h' - 1) (by have := H'.1; omega)
  exact ⟨by have := H.1; have := H'.1; omega, fun i hi => (key i hi).2⟩
/-- the lower chain and the upper chain make the hull -/
theorem Hull_of {S : pt → Prop} {k r : Nat} {c : Nat → pt} (h1 : CH 1 S 0 (k + 1) c) (h2 : CH (-1) S k (r + 1) c) (hr : c r = c 0) (hk : 0 < k) : Hull S r c := by
  obtain ⟨a1, a2, a3, a4, a5⟩ := h1
  obtain ⟨b1, b2, b3, b4, b5⟩ := h2
  have hs : sgn1 (1 : Rat) := Or.inl rfl
  have hs' : sgn1 (-1 : Rat) := Or.inr rfl
  have hne : c k ≠ c 0 := by
    have f : ∀ i, i < k → lq 1 (c 0) (c (i + 1)) := by
      intro i
      induction i with
      | zero => intro h; exact (a4 0 (by omega) (by omega)).1
      | succ i ih => intro h; exact lq_tr hs (ih (by omega)) (a4 (i + 1) (by omega) (by omega)).1
    have := f (k - 1) (by omega)
    rw [show k - 1 + 1 = k by omega] at this
    intro e
    rw [e] at this
    exact lq_ir this
  have hkr : k < r := by
    have : k ≠ r := fun e => by rw [e] at hne; exact hne hr
    omega
  refine ⟨by omega, ?_, ?_, ?_, ?_, ?_⟩
  · intro i hi
    by_cases h : i ≤ k
    · exact a2 i (by omega) (by omega)
    · exact b2 i (by omega) (by omega)
  · intro p hp
    rcases a3 p hp with h | h
    · exact Or.inl h
    · exact Or.inr (lq_1.mp h)
  · intro i h0 hi e
    by_cases h : i ≤ k
    · have f : ∀ j, j < i → lq 1 (c 0) (c (j + 1)) := by
        intro j
        induction j with
        | zero => intro h; exact (a4 0 (by omega) (by omega)).1
        | succ j ih => intro h; exact lq_tr hs (ih (by omega)) (a4 (j + 1) (by omega) (by omega)).1
      have := f (i - 1) (by omega)
      rw [show i - 1 + 1 = i by omega, e] at this
      exact lq_ir this
    · have f : ∀ j, i + j < r → lq (-1) (c i) (c (i + j + 1)) := by
        intro j
        induction j with
        | zero => intro h; exact (b4 i (by omega) (by omega)).1
        | succ j ih => intro h; exact lq_tr hs' (ih (by omega)) (b4 (i + j + 1) (by omega) (by omega)).1
      have := f (r - i - 1) (by omega)
      rw [show i + (r - i - 1) + 1 = r by omega, hr, e] at this
      exact lq_ir this
  · intro h; omega
  · intro _ i hi
    by_cases h : i < k
    · have e : nxt r i = i + 1 := by unfold nxt; rw [if_pos (by omega)]
      rw [e]
      have q := a4 i (by omega) (by omega)
      exact ⟨fun z => by rw [z] at q; exact lq_ir q.1, q.2⟩
    · have q := b4 i (by omega) (by omega)
      have e : c (nxt r i) = c (i + 1) := by
        unfold nxt
        split
        · rfl
        · rw [show i + 1 = r by omega, hr]
      rw [e]
      exact ⟨fun z => by rw [z] at q; exact lq_ir q.1, q.2⟩
theorem Hull_one {S : pt → Prop} {c : Nat → pt} (h0 : S (c 0)) (h : ∀ p, S p → p = c 0) : Hull S 1 c := by
  refine ⟨by omega, fun i hi => ?_, fun p hp => Or.inl (h p hp), fun i h1 h2 => by omega, fun _ => h, fun h1 => by omega⟩
  rw [show i = 0 by omega]; exact h0
end
section
/-! ===== the plane: polygons ===== -/
theorem pigeon : ∀ (n h : Nat) (f : Nat → Nat), (∀ i, i < h → f i < n) → (∀ i j, i < h → j < h → f i = f j → i = j) → h ≤ n := by
  intro n
  induction n with
  | zero =>
    intro h f hf _
    apply Classical.byContradiction
    intro hc
    have := hf 0 (by omega)
    omega
  | succ n ih =>
    intro h f hf hi
    by_cases h0 : h = 0
    · omega
    · have := ih (h - 1) (fun i => if f i = n then f (h - 1) else f i) (fun i hi' => by
        have a1 := hf i (by omega)
        have a2 := hf (h - 1) (by omega)
        split
        · rename_i e
          have : f (h - 1) ≠ n := fun q => by have := hi i (h - 1) (by omega) (by omega) (e.trans q.symm); omega
          omega
        · omega) (fun i j hi' hj' e => by
        split at e
        · rename_i e1
          split at e
          · rename_i e2
            exact hi i j (by omega) (by omega) (e1.trans e2.symm)
          · have := hi (h - 1) j (by omega) (by omega) e
            omega
        · split at e
          · have := hi i (h - 1) (by omega) (by omega) e
            omega
          · exact hi i j (by omega) (by omega) e)
      omega
def prv (h i : Nat) : Nat := if i = 0 then h - 1 else i - 1
theorem prv_lt {h i : Nat} (hi : i < h) : prv h i < h := by unfold prv; split <;> omega
theorem nxt_prv {h i : Nat} (hi : i < h) : nxt h (prv h i) = i := by unfold nxt prv; split <;> split <;> omega
/-- two ways in one direction -/
theorem hp_par {e g q : pt} (he : hp e) (hg : hp g) (h0 : xp e g = 0) (h : 0 < xp q e) : 0 < xp q g := by
  unfold xp at *
  have i1 : e.1 * (q.1 * g.2 - q.2 * g.1) = g.1 * (q.1 * e.2 - q.2 * e.1) + q.1 * (e.1 * g.2 - e.2 * g.1) := by grind
  have i2 : e.2 * (q.1 * g.2 - q.2 * g.1) = g.2 * (q.1 * e.2 - q.2 * e.1) + q.2 * (e.1 * g.2 - e.2 * g.1) := by grind
  rw [h0] at i1 i2
  rcases he with he | ⟨he, he2⟩
  · refine r_pos' he ?_
    rcases hg with hg | ⟨hg, hg2⟩
    · have := r_pp hg h; grind
    · have := r_pp he hg2
      rw [hg] at h0; grind
  · rw [he] at h0
    have hg1 : g.1 = 0 := r_zero (a := e.2) (by grind) (by grind)
    have hg2 : 0 < g.2 := by unfold hp at hg; grind
    refine r_pos' he2 ?_
    have := r_pp hg2 h; grind
theorem hs_par {σ : Rat} (hσ : sgn1 σ) {e g q : pt} (he : HS σ e) (hg : HS σ g) (h0 : xp e g = 0) (h : 0 < xp q e) : 0 < xp q g := by
  have := hp_par (q := (σ * q.1, σ * q.2)) he hg (by rw [xp_s hσ]; exact h0) (by rw [xp_s hσ]; exact h)
  rwa [xp_s hσ] at this
theorem lq_or {σ : Rat} (hσ : sgn1 σ) {a b p : pt} (h : lq σ a b) : bt a b p → p = a ∨ p = b ∨ (lq σ a p ∧ lq σ p b) := by
  intro h1
  rcases h1 with h1 | h1 | h1 | h1
  · exact Or.inl h1
  · exact Or.inr (Or.inl h1)
  · rcases hσ with rfl | rfl
    · rw [lq_1] at *; rw [lq_1]; exact Or.inr (Or.inr h1)
    · rw [lq_m] at h; exact (lx_as h (lx_tr h1.1 h1.2)).elim
  · rcases hσ with rfl | rfl
    · rw [lq_1] at h; exact (lx_as h (lx_tr h1.1 h1.2)).elim
    · rw [lq_m] at *; rw [lq_m]; exact Or.inr (Or.inr ⟨h1.2, h1.1⟩)
section HL
variable {S : pt → Prop} {h : Nat} {c : Nat → pt}
theorem Hull_inj (H : Hull S h c) : ∀ i j, i < h → j < h → c i = c j → i = j := by
  have key : ∀ k i j, i + k = j → 0 < k → j < h → c i = c j → False := by
    intro k i j hk h0 hj e
    have f : ∀ m, j + m < h → c (i + m) = c (j + m) := by
      intro m
      induction m with
      | zero => intro _; exact e
      | succ m ih =>
        intro hm
        have e1 := ih (by omega)
        have := (Hull_step (H := H) (H' := H) (i + m) (by omega) (by omega) rfl).2 (by omega)
        have g1 := H.2.2.2.2.2 (by omega) (i + m) (by omega)
        have g2 := H.2.2.2.2.2 (by omega) (j + m) (by omega)
        have n1 : nxt h (i + m) = i + m + 1 := by unfold nxt; rw [if_pos (by omega)]
        have n2 : nxt h (j + m) = j + m + 1 := by unfold nxt; rw [if_pos (by omega)]
        rw [n1] at g1
        rw [n2, ← e1] at g2
        exact eg_un g1.2 g2.2 (H.2.1 _ (by omega)) (H.2.1 _ (by omega)) g1.1.symm g2.1.symm
    have e1 := f (h - 1 - j) (by omega)
    rw [show j + (h - 1 - j) = h - 1 by omega] at e1
    have g1 := H.2.2.2.2.2 (by omega) (i + (h - 1 - j)) (by omega)
    have g2 := H.2.2.2.2.2 (by omega) (h - 1) (by omega)
    have n1 : nxt h (i + (h - 1 - j)) = i + (h - 1 - j) + 1 := by unfold nxt; rw [if_pos (by omega)]
    have n2 : nxt h (h - 1) = 0 := by unfold nxt; rw [if_neg (by omega)]
    rw [n1, e1] at g1
    rw [n2] at g2
    have := eg_un g1.2 g2.2 (H.2.1 _ (by omega)) (H.2.1 _ (by omega)) g1.1.symm g2.1.symm
    exact H.2.2.2.1 _ (by omega) (by omega) this
  intro i j hi hj e
  rcases Nat.lt_trichotomy i j with h1 | h1 | h1
  · exact (key (j - i) i j (by omega) (by omega) hj e).elim
  · exact h1
  · exact (key (i - j) j i (by omega) (by omega) hi e.symm).elim
/-- no corner lies on another's edge -/
theorem Hull_strict (H : Hull S h c) (h3 : 3 ≤ h) {i j : Nat} (hi : i < h) (hj : j < h) (n1 : j ≠ i) (n2 : j ≠ nxt h i) : 0 < cr (c i) (c (nxt h i)) (c j) := by
  have hi' := nxt_lt (i := i) H.1
  have ne1 : c j ≠ c i := fun e => n1 (Hull_inj H j i hj hi e)
  have ne2 : c j ≠ c (nxt h i) := fun e => n2 (Hull_inj H j _ hj hi' e)
  have E := H.2.2.2.2.2 (by omega)
  have g := (E i hi).2 (c j) (H.2.1 j hj)
  apply Classical.byContradiction
  intro hc
  have z : cr (c i) (c (nxt h i)) (c j) = 0 := by grind
  have gj := (E j hj)
  have q1 := gj.2 (c i) (H.2.1 i hi)
  have q2 := gj.2 (c (nxt h i)) (H.2.1 _ hi')
  -- the corner stands strictly between
  have main : ∀ σ : Rat, sgn1 σ → lq σ (c i) (c j) → lq σ (c j) (c (nxt h i)) → False := by
    intro σ hσ l1 l2
    have f1 : xp (sb (c i) (c j)) (sb (c j) (c (nxt h i))) = 0 := by
      have : cr (c i) (c (nxt h i)) (c j) = - xp (sb (c i) (c j)) (sb (c j) (c (nxt h i))) := by unfold cr xp sb; grind
      grind
    have f2 : cr (c j) (c (nxt h j)) (c i) = - xp (sb (c j) (c (nxt h j))) (sb (c i) (c j)) := by unfold cr xp sb; grind
    have f3 : cr (c j) (c (nxt h j)) (c (nxt h i)) = xp (sb (c j) (c (nxt h j))) (sb (c j) (c (nxt h i))) := by unfold cr xp sb; grind
    have z3 : cr (c j) (c (nxt h j)) (c (nxt h i)) = 0 := by
      apply Classical.byContradiction
      intro hz
      have p3 : 0 < xp (sb (c j) (c (nxt h j))) (sb (c j) (c (nxt h i))) := by grind
      have f1' : xp (sb (c j) (c (nxt h i))) (sb (c i) (c j)) = 0 := by unfold xp at *; grind
      have := hs_par hσ l2 l1 f1' p3
      grind
    have z2 : cr (c j) (c (nxt h j)) (c i) = 0 := by
      apply Classical.byContradiction
      intro hz
      have p3 : 0 < xp (sb (c (nxt h j)) (c j)) (sb (c i) (c j)) := by unfold xp sb at *; grind
      have := hs_par hσ l1 l2 f1 p3
      have f4 : xp (sb (c (nxt h j)) (c j)) (sb (c j) (c (nxt h i))) = - xp (sb (c j) (c (nxt h j))) (sb (c j) (c (nxt h i))) := by unfold xp sb; grind
      grind
    have b1 := q1.2 z2
    have b2 := q2.2 z3
    rcases lq_tri hσ (c j) (c (nxt h j)) with o | o | o
    · rcases lq_or hσ o b1 with w | w | w
      · exact ne1 w.symm
      · rw [w] at l1; exact lq_ir (lq_tr hσ l1 o)
      · exact lq_ir (lq_tr hσ l1 w.1)
    · exact gj.1 o
    · have b2' : bt (c (nxt h j)) (c j) (c (nxt h i)) := by
        rcases b2 with w | w | w | w
        · exact Or.inr (Or.inl w)
        · exact Or.inl w
        · exact Or.inr (Or.inr (Or.inr w))
        · exact Or.inr (Or.inr (Or.inl w))
      rcases lq_or hσ o b2' with w | w | w
      · rw [w] at l2; exact lq_ir (lq_tr hσ l2 o)
      · exact ne2 w.symm
      · exact lq_ir (lq_tr hσ l2 w.2)
  rcases g.2 z with w | w | w | w
  · exact ne1 w
  · exact ne2 w
  · exact main 1 (Or.inl rfl) (lq_1.mpr w.1) (lq_1.mpr w.2)
  · exact main (-1) (Or.inr rfl) (lq_m.mpr w.2) (lq_m.mpr w.1)
/-- within the polygon or on its rim -/
def Inn (h : Nat) (c : Nat → pt) (p : pt) : Prop := ∀ i, i < h → 0 ≤ cr (c i) (c (nxt h i)) p
theorem Hull_inn (H : Hull S h c) {p : pt} (hp : S p) : Inn h c p := by
  intro i hi
  by_cases h1 : 1 < h
  · exact ((H.2.2.2.2.2 h1 i hi).2 p hp).1
  · have : nxt h i = i := by unfold nxt; have := H.1; rw [if_neg (by omega)]; omega
    rw [this, cr_aa]; exact Rat.le_refl
theorem nxt2 {i : Nat} (h3 : 3 ≤ h) (hi : i < h) : prv h i ≠ i ∧ nxt h i ≠ i ∧ prv h i ≠ nxt h i ∧ nxt h (nxt h i) ≠ i ∧ nxt h (nxt h i) ≠ nxt h i := by
  unfold nxt prv
  refine ⟨?_, ?_, ?_, ?_, ?_⟩ <;> (repeat' split) <;> omega
theorem Inn_ext {σ : Rat} (hσ : sgn1 σ) (H : Hull S h c) (h3 : 3 ≤ h) {k : Nat} (hk : k < h) (hm : ∀ j, j < h → j ≠ k → lq σ (c k) (c j)) {p : pt} (hp : Inn h c p) : p = c k ∨ lq σ (c k) p := by
  obtain ⟨d1, d2, d3, d4, d5⟩ := nxt2 h3 hk
  have kp := prv_lt hk
  have kn := nxt_lt (i := k) H.1
  rcases lq_tri hσ (c k) p with o | o | o
  · exact Or.inr o
  · exact Or.inl o.symm
  · exfalso
    have u := hm _ kn d2
    have w := hm _ kp d1
    have t := Hull_strict H h3 hk kp d1 d3
    have e1 := hp k hk
    have e2 := hp _ kp
    rw [nxt_prv hk] at e2
    have f1 : cr (c k) (c (nxt h k)) p = xp (sb p (c k)) (sb (c k) (c (nxt h k))) := by unfold cr xp sb; grind
    have f2 : cr (c (prv h k)) (c k) p = xp (sb (c k) (c (prv h k))) (sb p (c k)) := by unfold cr xp sb; grind
    have f3 : cr (c k) (c (nxt h k)) (c (prv h k)) = - xp (sb (c k) (c (prv h k))) (sb (c k) (c (nxt h k))) := by unfold cr xp sb; grind
    rw [f1] at e1
    rw [f2] at e2
    have := hs_11 hσ w o u e2 e1
    grind
theorem Inn_min (H : Hull S h c) (h3 : 3 ≤ h) {p : pt} (hp : Inn h c p) : p = c 0 ∨ lx (c 0) p := by
  rcases Inn_ext (σ := 1) (Or.inl rfl) H h3 H.1 (fun j hj hn => by
    rcases H.2.2.1 _ (H.2.1 j hj) with e | e
    · exact absurd e (H.2.2.2.1 j (by omega) hj)
    · exact lq_1.mpr e) hp with e | e
  · exact Or.inl e
  · exact Or.inr (lq_1.mp e)
theorem fin_max {σ : Rat} (hσ : sgn1 σ) (c : Nat → pt) : ∀ h, 0 < h → ∃ k, k < h ∧ ∀ j, j < h → c j = c k ∨ lq σ (c k) (c j) := by
  intro h
  induction h with
  | zero => intro h; omega
  | succ h ih =>
    intro _
    by_cases h0 : h = 0
    · exact ⟨0, by omega, fun j hj => Or.inl (by rw [show j = 0 by omega])⟩
    · obtain ⟨k, hk, hm⟩ := ih (by omega)
      rcases lq_tri hσ (c k) (c h) with o | o | o
      · refine ⟨k, by omega, fun j hj => ?_⟩
        by_cases hj' : j = h
        · subst hj'; exact Or.inr o
        · exact hm j (by omega)
      · refine ⟨k, by omega, fun j hj => ?_⟩
        by_cases hj' : j = h
        · subst hj'; exact Or.inl o.symm
        · exact hm j (by omega)
      · refine ⟨h, by omega, fun j hj => ?_⟩
        by_cases hj' : j = h
        · subst hj'; exact Or.inl rfl
        · rcases hm j (by omega) with e | e
          · rw [e]; exact Or.inr o
          · exact Or.inr (lq_tr hσ o e)
/-- the greatest of the polygon is a corner -/
theorem Inn_max (H : Hull S h c) (h3 : 3 ≤ h) : ∃ k, k < h ∧ ∀ p, Inn h c p → p = c k ∨ lx p (c k) := by
  have hσ : sgn1 (-1 : Rat) := Or.inr rfl
  obtain ⟨k, hk, hm⟩ := fin_max hσ c h H.1
  refine ⟨k, hk, fun p hp => ?_⟩
  rcases Inn_ext hσ H h3 hk (fun j hj hn => by
    rcases hm j hj with e | e
    · exact absurd (Hull_inj H j k hj hk e) hn
    · exact e) hp with e | e
  · exact Or.inl e
  · exact Or.inr (lq_m.mp e)
theorem Inn_edge (H : Hull S h c) (h3 : 3 ≤ h) {p : pt} (hp : Inn h c p) {i : Nat} (hi : i < h) (z : cr (c i) (c (nxt h i)) p = 0) : bt (c i) (c (nxt h i)) p := by
  obtain ⟨d1, d2, d3, d4, d5⟩ := nxt2 h3 hi
  have ip := prv_lt hi
  have hn := nxt_lt (i := i) H.1
  have t1 := Hull_strict H h3 ip hn (by intro e; exact d3 e.symm) (by rw [nxt_prv hi]; exact d2)
  rw [nxt_prv hi] at t1
  have t2 := Hull_strict H h3 hn hi (by intro e; exact d2 e.symm) (by intro e; exact d4 e.symm)
  have e1 := hp _ ip
  rw [nxt_prv hi] at e1
  have e2 := hp _ hn
  have ne : c i ≠ c (nxt h i) := (H.2.2.2.2.2 (by omega) i hi).1
  have main : ∀ σ : Rat, sgn1 σ → lq σ (c i) (c (nxt h i)) → (p = c i ∨ lq σ (c i) p) ∧ (p = c (nxt h i) ∨ lq σ p (c (nxt h i))) := by
    intro σ hσ l
    refine ⟨?_, ?_⟩
    · rcases lq_tri hσ (c i) p with o | o | o
      · exact Or.inr o
      · exact Or.inl o.symm
      · exfalso
        have f0 : xp (sb (c i) (c (nxt h i))) (sb p (c i)) = 0 := by
          have : cr (c i) (c (nxt h i)) p = - xp (sb (c i) (c (nxt h i))) (sb p (c i)) := by unfold cr xp sb; grind
          grind
        have f1 : cr (c (prv h i)) (c i) (c (nxt h i)) = xp (sb (c (prv h i)) (c i)) (sb (c i) (c (nxt h i))) := by unfold cr xp sb; grind
        have f2 : cr (c (prv h i)) (c i) p = - xp (sb (c (prv h i)) (c i)) (sb p (c i)) := by unfold cr xp sb; grind
        rw [f1] at t1
        have := hs_par hσ l o f0 t1
        grind
    · rcases lq_tri hσ p (c (nxt h i)) with o | o | o
      · exact Or.inr o
      · exact Or.inl o
      · exfalso
        have f0 : xp (sb (c i) (c (nxt h i))) (sb (c (nxt h i)) p) = 0 := by
          have : cr (c i) (c (nxt h i)) p = xp (sb (c i) (c (nxt h i))) (sb (c (nxt h i)) p) := by unfold cr xp sb; grind
          grind
        have f1 : cr (c (nxt h i)) (c (nxt h (nxt h i))) (c i) = xp (sb (c (nxt h (nxt h i))) (c (nxt h i))) (sb (c i) (c (nxt h i))) := by unfold cr xp sb; grind
        have f2 : cr (c (nxt h i)) (c (nxt h (nxt h i))) p = - xp (sb (c (nxt h (nxt h i))) (c (nxt h i))) (sb (c (nxt h i)) p) := by unfold cr xp sb; grind
        rw [f1] at t2
        have := hs_par hσ l o f0 t2
        grind
  rcases lx_tri (c i) (c (nxt h i)) with o | o | o
  · have := main 1 (Or.inl rfl) (lq_1.mpr o)
    exact bt_of (σ := 1) (Or.inl rfl) this.1 this.2
  · exact absurd o ne
  · have := main (-1) (Or.inr rfl) (lq_m.mpr o)
    exact bt_of (σ := -1) (Or.inr rfl) this.1 this.2
/-- a set with the same corners in it, all within -/
theorem Hull_same (H : Hull S h c) (h3 : 3 ≤ h) {S' : pt → Prop} (hin : ∀ p, S' p → Inn h c p) (hc : ∀ i, i < h → S' (c i)) : Hull S' h c := by
  refine ⟨H.1, hc, fun p hp => Inn_min H h3 (hin p hp), H.2.2.2.1, fun e => by omega, fun _ i hi => ⟨(H.2.2.2.2.2 (by omega) i hi).1, fun p hp => ⟨hin p hp i hi, fun z => Inn_edge H h3 (hin p hp) hi z⟩⟩⟩
/-- a place within is a mean of three corners -/
theorem Inn_tri (H : Hull S h c) (h3 : 3 ≤ h) {p : pt} (hp : Inn h c p) : ∃ i, 0 < i ∧ i + 1 < h ∧ 0 ≤ cr (c i) (c (i + 1)) p ∧ 0 ≤ cr (c 0) (c i) p ∧ cr (c 0) (c (i + 1)) p ≤ 0 ∧ 0 < cr (c 0) (c i) (c (i + 1)) := by
  have s1 := hp 0 H.1
  have n0 : nxt h 0 = 1 := by unfold nxt; rw [if_pos (by omega)]
  rw [n0] at s1
  have s2 := hp (h - 1) (by omega)
  have n1 : nxt h (h - 1) = 0 := by unfold nxt; rw [if_neg (by omega)]
  rw [n1] at s2
  have s3 : cr (c 0) (c (h - 1)) p ≤ 0 := by
    have : cr (c 0) (c (h - 1)) p = - cr (c (h - 1)) (c 0) p := by unfold cr xp sb; grind
    grind
  have key : ∀ m, 1 + m < h → (∃ i, 0 < i ∧ i < 1 + m ∧ 0 ≤ cr (c 0) (c i) p ∧ cr (c 0) (c (i + 1)) p ≤ 0) ∨ 0 ≤ cr (c 0) (c (1 + m)) p := by
    intro m
    induction m with
    | zero => intro _; exact Or.inr s1
    | succ m ih =>
      intro hm
      rcases ih (by omega) with ⟨i, a, b, c1, d⟩ | g
      · exact Or.inl ⟨i, a, by omega, c1, d⟩
      · by_cases hh : 0 ≤ cr (c 0) (c (1 + (m + 1))) p
        · exact Or.inr hh
        · exact Or.inl ⟨1 + m, by omega, by omega, g, by rw [show 1 + m + 1 = 1 + (m + 1) by omega]; grind⟩
  have fin : ∃ i, 0 < i ∧ i + 1 < h ∧ 0 ≤ cr (c 0) (c i) p ∧ cr (c 0) (c (i + 1)) p ≤ 0 := by
    rcases key (h - 2) (by omega) with ⟨i, a, b, c1, d⟩ | g
    · exact ⟨i, a, by omega, c1, d⟩
    · rcases key (h - 3) (by omega) with ⟨i, a, b, c1, d⟩ | g'
      · exact ⟨i, a, by omega, c1, d⟩
      · refine ⟨h - 2, by omega, by omega, ?_, ?_⟩
        · rwa [show 1 + (h - 3) = h - 2 by omega] at g'
        · rwa [show h - 2 + 1 = h - 1 by omega]
  obtain ⟨i, a, b, c1, d⟩ := fin
  have ni : nxt h i = i + 1 := by unfold nxt; rw [if_pos b]
  have g := hp i (by omega)
  rw [ni] at g
  refine ⟨i, a, b, g, c1, d, ?_⟩
  have := Hull_strict H h3 (i := i) (j := 0) (by omega) H.1 (by omega) (by rw [ni]; omega)
  rw [ni] at this
  have e : cr (c 0) (c i) (c (i + 1)) = cr (c i) (c (i + 1)) (c 0) := by unfold cr xp sb; grind
  rw [e]; exact this
/-- what is not below 0 at all corners is so within -/
theorem Inn_aff (H : Hull S h c) (h3 : 3 ≤ h) (A B C : Rat) (hc : ∀ i, i < h → 0 ≤ A * (c i).1 + B * (c i).2 + C) {p : pt} (hp : Inn h c p) : 0 ≤ A * p.1 + B * p.2 + C := by
  obtain ⟨i, a, b, g1, g2, g3, g4⟩ := Inn_tri H h3 hp
  have e : cr (c 0) (c i) (c (i + 1)) * (A * p.1 + B * p.2 + C) = cr (c i) (c (i + 1)) p * (A * (c 0).1 + B * (c 0).2 + C) + (- cr (c 0) (c (i + 1)) p) * (A * (c i).1 + B * (c i).2 + C) + cr (c 0) (c i) p * (A * (c (i + 1)).1 + B * (c (i + 1)).2 + C) := by unfold cr xp sb; grind
  refine r_pos g4 ?_
  rw [e]
  have k1 := r_nn g1 (hc 0 H.1)
  have k2 := r_nn (show 0 ≤ - cr (c 0) (c (i + 1)) p by grind) (hc i (by omega))
  have k3 := r_nn g2 (hc (i + 1) b)
  grind
theorem cr_aff (a b p : pt) : cr a b p = (a.2 - b.2) * p.1 + (b.1 - a.1) * p.2 + (a.1 * b.2 - a.2 * b.1) := by unfold cr xp sb; grind
/-- two polygons in one another are one -/
theorem Hull_mut {S' : pt → Prop} {h' : Nat} {c' : Nat → pt} (H : Hull S h c) (h3 : 3 ≤ h) (H' : Hull S' h' c') (h3' : 3 ≤ h') (i1 : ∀ j, j < h' → Inn h c (c' j)) (i2 : ∀ i, i < h → Inn h' c' (c i)) : h = h' ∧ ∀ i, i < h → c i = c' i := by
  have hin : ∀ p, S' p → Inn h c p := by
    intro p hp i hi
    rw [cr_aff]
    refine Inn_aff H' h3' _ _ _ (fun j hj => ?_) (Hull_inn H' hp)
    rw [← cr_aff]; exact i1 j hj i hi
  have hcor : ∀ i, i < h → ∃ j, j < h' ∧ c i = c' j := by
    intro i hi
    obtain ⟨d1, d2, d3, d4, d5⟩ := nxt2 h3 hi
    have ip := prv_lt hi
    have hn := nxt_lt (i := i) H.1
    let g : pt → Rat := fun p => cr (c (prv h i)) (c i) p + cr (c i) (c (nxt h i)) p
    have g0 : ∀ p, Inn h c p → 0 ≤ g p := by
      intro p hp
      have e1 := hp _ ip
      rw [nxt_prv hi] at e1
      have e2 := hp i hi
      show 0 ≤ _ + _
      grind
    have gz : ∀ p, Inn h c p → g p = 0 → p = c i := by
      intro p hp hz
      have e1 := hp _ ip
      rw [nxt_prv hi] at e1
      have e2 := hp i hi
      have hz' : cr (c (prv h i)) (c i) p + cr (c i) (c (nxt h i)) p = 0 := hz
      have z1 : cr (c (prv h i)) (c i) p = 0 := by grind
      have z2 : cr (c i) (c (nxt h i)) p = 0 := by grind
      have t := Hull_strict H h3 hi ip d1 d3
      have f1 : cr (c i) (c (nxt h i)) (c (prv h i)) * (p.1 - (c i).1) = ((c (prv h i)).1 - (c i).1) * cr (c i) (c (nxt h i)) p + ((c (nxt h i)).1 - (c i).1) * cr (c (prv h i)) (c i) p := by unfold cr xp sb; grind
      have f2 : cr (c i) (c (nxt h i)) (c (prv h i)) * (p.2 - (c i).2) = ((c (prv h i)).2 - (c i).2) * cr (c i) (c (nxt h i)) p + ((c (nxt h i)).2 - (c i).2) * cr (c (prv h i)) (c i) p := by unfold cr xp sb; grind
      rw [z1, z2] at f1 f2
      have k1 := r_zero (a := cr (c i) (c (nxt h i)) (c (prv h i))) (by grind) (f1.trans (by grind))
      have k2 := r_zero (a := cr (c i) (c (nxt h i)) (c (prv h i))) (by grind) (f2.trans (by grind))
      exact Prod.ext (by grind) (by grind)
    obtain ⟨j, a, b, g1, g2, g3, g4⟩ := Inn_tri H' h3' (i2 i hi)
    have e : cr (c' 0) (c' j) (c' (j + 1)) * g (c i) = cr (c' j) (c' (j + 1)) (c i) * g (c' 0) + (- cr (c' 0) (c' (j + 1)) (c i)) * g (c' j) + cr (c' 0) (c' j) (c i) * g (c' (j + 1)) := by
      show _ * (_ + _) = _ * (_ + _) + _ * (_ + _) + _ * (_ + _)
      unfold cr xp sb; grind
    have e3 : cr (c' 0) (c' j) (c' (j + 1)) = cr (c' j) (c' (j + 1)) (c i) + (- cr (c' 0) (c' (j + 1)) (c i)) + cr (c' 0) (c' j) (c i) := by unfold cr xp sb; grind
    have gi : g (c i) = 0 := by
      show _ + _ = _
      rw [cr_bb, cr_ab]; grind
    rw [gi] at e
    have k0 := g0 _ (i1 0 H'.1)
    have k1 := g0 _ (i1 j (by omega))
    have k2 := g0 _ (i1 (j + 1) b)
    have p0 := r_nn g1 k0
    have p1 := r_nn (show 0 ≤ - cr (c' 0) (c' (j + 1)) (c i) by grind) k1
    have p2 := r_nn g2 k2
    by_cases q0 : cr (c' j) (c' (j + 1)) (c i) = 0
    · by_cases q1 : cr (c' 0) (c' (j + 1)) (c i) = 0
      · have q2 : cr (c' 0) (c' j) (c i) ≠ 0 := by grind
        exact ⟨j + 1, b, (gz _ (i1 _ b) (r_zero q2 (by grind))).symm⟩
      · exact ⟨j, by omega, (gz _ (i1 _ (by omega)) (r_zero (a := - cr (c' 0) (c' (j + 1)) (c i)) (by grind) (by grind))).symm⟩
    · exact ⟨0, H'.1, (gz _ (i1 _ H'.1) (r_zero q0 (by grind))).symm⟩
  exact Hull_un (Hull_same H h3 hin (fun i hi => by
    obtain ⟨j, hj, e⟩ := hcor i hi
    rw [e]; exact H'.2.1 j hj)) H'
/-- places on one line are no corners of a figure that is not flat -/
theorem flat_no (H : Hull S h c) (h3 : 3 ≤ h) {a b : pt} (hab : a ≠ b) (hl : ∀ i, i < h → cr a b (c i) = 0) : False := by
  have t := Hull_strict H h3 (i := 0) (j := 2) H.1 (by omega) (by omega) (by unfold nxt; rw [if_pos (by omega)]; omega)
  have n0 : nxt h 0 = 1 := by unfold nxt; rw [if_pos (by omega)]
  rw [n0] at t
  have z0 := hl 0 H.1
  have z1 := hl 1 (by omega)
  have z2 := hl 2 (by omega)
  have f1 : (b.1 - a.1) * cr (c 0) (c 1) (c 2) = ((c 1).1 - (c 0).1) * (cr a b (c 2) - cr a b (c 0)) - ((c 2).1 - (c 0).1) * (cr a b (c 1) - cr a b (c 0)) := by unfold cr xp sb; grind
  have f2 : (b.2 - a.2) * cr (c 0) (c 1) (c 2) = ((c 1).2 - (c 0).2) * (cr a b (c 2) - cr a b (c 0)) - ((c 2).2 - (c 0).2) * (cr a b (c 1) - cr a b (c 0)) := by unfold cr xp sb; grind
  rw [z0, z1, z2] at f1 f2
  by_cases hx : b.1 - a.1 = 0
  · by_cases hy : b.2 - a.2 = 0
    · exact hab (Prod.ext (by grind) (by grind))
    · have := r_zero hy (f2.trans (by grind))
      grind
  · have := r_zero hx (f1.trans (by grind))
    grind
end HL
/-- an upper chain's inner places are no inner places of the lower chain -/
theorem chain_apart {S : pt → Prop} {q0 q1 q2 a b : pt} (l1 : lx q0 q1) (l2 : lx q1 q2) (t : 0 < cr q0 q1 q2) (e1 : eg S q0 q1) (e2 : eg S q1 q2) (ha : S a) (hb : S b) (m1 : lx q1 a) (m2 : lx b q1) (u : 0 < cr a q1 b) : False := by
  have hs : sgn1 (1 : Rat) := Or.inl rfl
  have k1 := (e1 b hb).1
  have k2 := (e2 a ha).1
  have f0 : cr q0 q1 q2 = xp (sb q0 q1) (sb q1 q2) := by unfold cr xp sb; grind
  have f1 : cr q0 q1 b = xp (sb b q1) (sb q0 q1) := by unfold cr xp sb; grind
  have f2 : cr q1 q2 a = xp (sb q1 q2) (sb q1 a) := by unfold cr xp sb; grind
  have f3 : cr a q1 b = - xp (sb b q1) (sb q1 a) := by unfold cr xp sb; grind
  rw [f0] at t
  rw [f1] at k1
  rw [f2] at k2
  have s1 := hs_12 hs (lq_1.mpr m2) (lq_1.mpr l1) (lq_1.mpr l2) k1 t
  have s2 := hs_21 hs (lq_1.mpr m2) (lq_1.mpr l2) (lq_1.mpr m1) s1 k2
  grind
end
section
/-! ===== lists in an order, each once ===== -/
def Srt {α : Type} (R : α → α → Prop) (n : Nat) (f : Nat → α) : Prop := ∀ i j, i < j → j < n → R (f i) (f j)
def Enum {α : Type} (R : α → α → Prop) (S : α → Prop) (n : Nat) (f : Nat → α) : Prop := Srt R n f ∧ ∀ p, S p ↔ ∃ i, i < n ∧ p = f i
def SO {α : Type} (R : α → α → Prop) : Prop := (∀ a, ¬ R a a) ∧ (∀ a b c, R a b → R b c → R a c) ∧ ∀ a b, R a b ∨ a = b ∨ R b a
section SOR
variable {α : Type} {R : α → α → Prop} {S : α → Prop} {n m : Nat} {f g : Nat → α}
theorem Enum_un (hR : SO R) (h1 : Enum R S n f) (h2 : Enum R S m g) : n = m ∧ ∀ i, i < n → f i = g i := by
  have key : ∀ (n m : Nat) (f g : Nat → α), Enum R S n f → Enum R S m g → ∀ k i, i ≤ k → i < n → i < m ∧ f i = g i := by
    intro n m f g h1 h2 k
    induction k with
    | zero =>
      intro i hi hn
      have e0 : i = 0 := by omega
      subst e0
      obtain ⟨k, hk, e⟩ := (h2.2 (f 0)).mp ((h1.2 _).mpr ⟨0, hn, rfl⟩)
      refine ⟨by omega, ?_⟩
      by_cases hk0 : k = 0
      · rw [e, hk0]
      · have q := h2.1 0 k (by omega) hk
        obtain ⟨l, hl, e'⟩ := (h1.2 (g 0)).mp ((h2.2 _).mpr ⟨0, by omega, rfl⟩)
        rw [← e, e'] at q
        by_cases hl0 : l = 0
        · rw [hl0] at q; exact (hR.1 _ q).elim
        · exact (hR.1 _ (hR.2.1 _ _ _ (h1.1 0 l (by omega) hl) q)).elim
    | succ k ih =>
      intro i hi hn
      by_cases hle : i ≤ k
      · exact ih i hle hn
      · obtain ⟨k', hk', e⟩ := (h2.2 (f i)).mp ((h1.2 _).mpr ⟨i, hn, rfl⟩)
        have low : ∀ j, j < i → j < m ∧ f j = g j := fun j hj => ih j (by omega) (by omega)
        have hki : ¬ k' < i := by
          intro hlt
          have := h1.1 k' i hlt hn
          rw [(low k' hlt).2, ← e] at this
          exact hR.1 _ this
        refine ⟨by omega, ?_⟩
        by_cases hk0 : k' = i
        · rw [e, hk0]
        · have q := h2.1 i k' (by omega) hk'
          obtain ⟨l, hl, e'⟩ := (h1.2 (g i)).mp ((h2.2 _).mpr ⟨i, by omega, rfl⟩)
          rw [← e, e'] at q
          rcases Nat.lt_trichotomy l i with hl0 | hl0 | hl0
          · have := h2.1 l i hl0 (by omega)
            rw [← (low l hl0).2, ← e'] at this
            exact (hR.1 _ this).elim
          · rw [hl0] at q; exact (hR.1 _ q).elim
          · exact (hR.1 _ (hR.2.1 _ _ _ (h1.1 i l hl0 hl) q)).elim
  have a := key n m f g h1 h2
  have b := key m n g f h2 h1
  refine ⟨?_, fun i hi => (a i i (Nat.le_refl _) hi).2⟩
  apply Classical.byContradiction
  intro hne
  rcases Nat.lt_or_gt_of_ne hne with h | h
  · have := (b n n (Nat.le_refl _) h).1; omega
  · have := (a m m (Nat.le_refl _) h).1; omega
theorem Enum_ins (h : Enum R S n f) {p : α} {s : Nat} (hs : s ≤ n) (h1 : ∀ i, i < s → R (f i) p) (h2 : ∀ i, s ≤ i → i < n → R p (f i))
    (g1 : ∀ i, i < s → g i = f i) (g2 : g s = p) (g3 : ∀ i, s ≤ i → i < n → g (i + 1) = f i) : Enum R (fun q => S q ∨ q = p) (n + 1) g := by
  refine ⟨fun i j hij hj => ?_, fun q => ?_⟩
  · rcases Nat.lt_trichotomy i s with hi | hi | hi
    · rw [g1 i hi]
      rcases Nat.lt_trichotomy j s with hj' | hj' | hj'
      · rw [g1 j hj']; exact h.1 i j hij (by omega)
      · rw [hj', g2]; exact h1 i hi
      · have := g3 (j - 1) (by omega) (by omega)
        rw [show j - 1 + 1 = j by omega] at this
        rw [this]; exact h.1 i (j - 1) (by omega) (by omega)
    · have := g3 (j - 1) (by omega) (by omega)
      rw [show j - 1 + 1 = j by omega] at this
      rw [this, hi, g2]; exact h2 (j - 1) (by omega) (by omega)
    · have e1 := g3 (j - 1) (by omega) (by omega)
      rw [show j - 1 + 1 = j by omega] at e1
      have e2 := g3 (i - 1) (by omega) (by omega)
      rw [show i - 1 + 1 = i by omega] at e2
      rw [e1, e2]; exact h.1 (i - 1) (j - 1) (by omega) (by omega)
  · constructor
    · rintro (hq | hq)
      · obtain ⟨i, hi, e⟩ := (h.2 q).mp hq
        by_cases his : i < s
        · exact ⟨i, by omega, by rw [g1 i his]; exact e⟩
        · exact ⟨i + 1, by omega, by rw [g3 i (by omega) hi]; exact e⟩
      · exact ⟨s, by omega, by rw [g2]; exact hq⟩
    · rintro ⟨i, hi, e⟩
      rcases Nat.lt_trichotomy i s with hi' | hi' | hi'
      · exact Or.inl ((h.2 q).mpr ⟨i, by omega, by rw [e, g1 i hi']⟩)
      · exact Or.inr (by rw [e, hi', g2])
      · have := g3 (i - 1) (by omega) (by omega)
        rw [show i - 1 + 1 = i by omega] at this
        exact Or.inl ((h.2 q).mpr ⟨i - 1, by omega, by rw [e, this]⟩)
theorem Enum_spot (hR : SO R) (h : Enum R S n f) (p : α) (hp : ¬ S p) : ∃ s, s ≤ n ∧ (∀ i, i < s → R (f i) p) ∧ ∀ i, s ≤ i → i < n → R p (f i) := by
  have key : ∀ k, k ≤ n → (∃ s, s ≤ k ∧ (∀ i, i < s → R (f i) p) ∧ ∀ i, s ≤ i → i < k → R p (f i)) := by
    intro k
    induction k with
    | zero => intro _; exact ⟨0, by omega, fun i hi => by omega, fun i _ hi => by omega⟩
    | succ k ih =>
      intro hk
      obtain ⟨s, hs, a, b⟩ := ih (by omega)
      rcases hR.2.2 (f k) p with o | o | o
      · refine ⟨k + 1, by omega, fun i hi => ?_, fun i h1 h2 => by omega⟩
        by_cases he : i = k
        · rw [he]; exact o
        · exact hR.2.1 _ _ _ (h.1 i k (by omega) (by omega)) o
      · exact absurd ((h.2 p).mpr ⟨k, by omega, o.symm⟩) hp
      · refine ⟨s, by omega, a, fun i h1 h2 => ?_⟩
        by_cases he : i = k
        · rw [he]; exact o
        · exact b i h1 (by omega)
  exact key n (Nat.le_refl _)
theorem Enum_ex (hR : SO R) (a0 : α) : ∀ l : List α, ∃ (n : Nat) (f : Nat → α), Enum R (fun p => p ∈ l) n f ∧ n ≤ l.length := by
  intro l
  induction l with
  | nil => exact ⟨0, fun _ => a0, ⟨fun i j _ hj => by omega, fun p => ⟨fun h => absurd h List.not_mem_nil, fun ⟨i, hi, _⟩ => absurd hi (Nat.not_lt_zero i)⟩⟩, Nat.le_refl _⟩
  | cons a l ih =>
    obtain ⟨n, f, h, hn⟩ := ih
    by_cases ha : a ∈ l
    · refine ⟨n, f, ⟨h.1, fun p => ?_⟩, by simp; omega⟩
      rw [← h.2 p]
      constructor
      · intro hp
        rcases List.mem_cons.mp hp with rfl | hp
        · exact ha
        · exact hp
      · intro hp; exact List.mem_cons_of_mem _ hp
    · obtain ⟨s, hs, h1, h2⟩ := Enum_spot hR h a ha
      refine ⟨n + 1, fun i => if i < s then f i else if i = s then a else f (i - 1), ?_, by simp; omega⟩
      have := Enum_ins (g := fun i => if i < s then f i else if i = s then a else f (i - 1)) h hs h1 h2 (fun i hi => by simp [hi]) (by simp) (fun i hi hi2 => by
        have a1 : ¬ i + 1 < s := by omega
        have a2 : ¬ i + 1 = s := by omega
        simp [a1, a2])
      refine ⟨this.1, fun p => ?_⟩
      rw [← this.2 p]
      constructor
      · intro hp
        rcases List.mem_cons.mp hp with rfl | hp
        · exact Or.inr rfl
        · exact Or.inl hp
      · rintro (hp | hp)
        · exact List.mem_cons_of_mem _ hp
        · rw [hp]; exact List.mem_cons_self
end SOR
theorem SO_lx : SO lx := ⟨fun _ => lx_ir, fun _ _ _ => lx_tr, lx_tri⟩
/-! hulls are -/
theorem CH_grow {σ : Rat} (hσ : sgn1 σ) {S : pt → Prop} {b : Nat} {p : pt} (hp : ∀ s, S s → lq σ s p) : ∀ (r : Nat) (c : Nat → pt), CH σ S b r c → CD σ S (c (r - 1)) p → ∃ (r' : Nat) (c' : Nat → pt), b < r' ∧ CH σ (fun s => S s ∨ s = p) b (r' + 1) c' ∧ c' r' = p ∧ ∀ i, i ≤ b → c' i = c i := by
  intro r
  induction r with
  | zero => intro c h; have := h.1; omega
  | succ r ih =>
    intro c h hc
    by_cases ht : b + 1 = r + 1 ∨ 0 < cr (c (r + 1 - 2)) (c (r + 1 - 1)) p
    · refine ⟨r + 1, fun i => if i < r + 1 then c i else p, by have := h.1; omega, (CH_push hσ (c' := fun i => if i < r + 1 then c i else p) h hc ht hp (by simp) (fun i hi => by simp [hi])).1, by simp, fun i hi => ?_⟩
      have := h.1
      simp [show i < r + 1 by omega]
    · have h0 := h.1
      have := CH_pop h (by omega) (by grind) hp
      exact ih c this.1 this.2
theorem CH_ex {σ : Rat} (hσ : sgn1 σ) (g : Nat → pt) (b : Nat) (c0 : Nat → pt) : ∀ m, (∀ i j, i < j → j ≤ m → lq σ (g i) (g j)) → ∃ (r : Nat) (c : Nat → pt), b ≤ r ∧ CH σ (fun p => ∃ i, i ≤ m ∧ p = g i) b (r + 1) c ∧ c r = g m ∧ c b = g 0 ∧ (∀ i, i < b → c i = c0 i) ∧ (0 < m → b < r) := by
  intro m
  induction m with
  | zero =>
    intro _
    have e : (fun p => ∃ i, i ≤ 0 ∧ p = g i) = fun p => p = g 0 := by
      funext p
      apply propext
      exact ⟨fun ⟨i, hi, e⟩ => by rw [e, show i = 0 by omega], fun e => ⟨0, Nat.le_refl _, e⟩⟩
    exact ⟨b, fun i => if i < b then c0 i else g 0, Nat.le_refl _, by rw [e]; exact CH_one (by simp), by simp, by simp, fun i hi => by simp [hi], fun h => by omega⟩
  | succ m ih =>
    intro hg
    obtain ⟨r, c, h0, h1, h2, h3, h4, -⟩ := ih (fun i j hij hj => hg i j hij (by omega))
    have hlast : ∀ s, (∃ i, i ≤ m ∧ s = g i) → lq σ s (g (m + 1)) := by
      rintro s ⟨i, hi, rfl⟩
      exact hg i (m + 1) (by omega) (Nat.le_refl _)
    have hcd : CD σ (fun p => ∃ i, i ≤ m ∧ p = g i) (c (r + 1 - 1)) (g (m + 1)) := by
      refine Or.inl ?_
      rintro s ⟨i, hi, rfl⟩
      rw [show r + 1 - 1 = r by omega, h2]
      by_cases he : i = m
      · rw [he]; exact Or.inl rfl
      · exact Or.inr (hg i m (by omega) (by omega))
    obtain ⟨r', c', k0, k1, k2, k3⟩ := CH_grow hσ hlast (r + 1) c h1 hcd
    have e : (fun s => (∃ i, i ≤ m ∧ s = g i) ∨ s = g (m + 1)) = fun p => ∃ i, i ≤ m + 1 ∧ p = g i := by
      funext p
      apply propext
      constructor
      · rintro (⟨i, hi, e⟩ | e)
        · exact ⟨i, by omega, e⟩
        · exact ⟨m + 1, Nat.le_refl _, e⟩
      · rintro ⟨i, hi, e⟩
        by_cases he : i = m + 1
        · exact Or.inr (by rw [e, he])
        · exact Or.inl ⟨i, by omega, e⟩
    rw [e] at k1
    exact ⟨r', c', by omega, k1, k2, by rw [k3 b (Nat.le_refl _), h3], fun i hi => by rw [k3 i (by omega), h4 i hi], fun _ => k0⟩
theorem Hull_ex {S : pt → Prop} {n : Nat} {f : Nat → pt} (hE : Enum lx S n f) (hn : 0 < n) : ∃ (h : Nat) (c : Nat → pt), Hull S h c := by
  by_cases h1 : n = 1
  · refine ⟨1, fun _ => f 0, Hull_one ((hE.2 _).mpr ⟨0, hn, rfl⟩) (fun p hp => ?_)⟩
    obtain ⟨i, hi, e⟩ := (hE.2 p).mp hp
    rw [e, show i = 0 by omega]
  · obtain ⟨k, c1, -, a1, a2, a3, -, a5⟩ := CH_ex (σ := 1) (Or.inl rfl) f 0 f (n - 1) (fun i j hij hj => lq_1.mpr (hE.1 i j hij (by omega)))
    have hk := a5 (by omega)
    obtain ⟨r, c2, -, b1, b2, b3, b4, b5⟩ := CH_ex (σ := -1) (Or.inr rfl) (fun i => f (n - 1 - i)) k c1 (n - 1) (fun i j hij hj => lq_m.mpr (hE.1 _ _ (by omega) (by omega)))
    have e1 : (fun p => ∃ i, i ≤ n - 1 ∧ p = f i) = S := by
      funext p
      apply propext
      rw [hE.2 p]
      exact ⟨fun ⟨i, hi, e⟩ => ⟨i, by omega, e⟩, fun ⟨i, hi, e⟩ => ⟨i, by omega, e⟩⟩
    have e2 : (fun p => ∃ i, i ≤ n - 1 ∧ p = f (n - 1 - i)) = S := by
      funext p
      apply propext
      rw [hE.2 p]
      exact ⟨fun ⟨i, hi, e⟩ => ⟨n - 1 - i, by omega, e⟩, fun ⟨i, hi, e⟩ => ⟨n - 1 - i, by omega, by rw [show n - 1 - (n - 1 - i) = i by omega]; exact e⟩⟩
    rw [e1] at a1
    rw [e2] at b1
    -- the lower chain in c2
    have pre : ∀ i, i ≤ k → c2 i = c1 i := by
      intro i hi
      by_cases he : i = k
      · rw [he, b3, a2]; rfl
      · exact b4 i (by omega)
    have a1' : CH 1 S 0 (k + 1) c2 := by
      obtain ⟨q1, q2, q3, q4, q5⟩ := a1
      refine ⟨q1, fun i hi hi2 => by rw [pre i (by omega)]; exact q2 i hi hi2, fun p hp => by rw [pre 0 (by omega)]; exact q3 p hp, fun i hi hi2 => by rw [pre i (by omega), pre (i + 1) (by omega)]; exact q4 i hi hi2, fun i hi hi2 => by rw [pre i (by omega), pre (i + 1) (by omega), pre (i + 2) (by omega)]; exact q5 i hi hi2⟩
    refine ⟨r, c2, Hull_of a1' b1 ?_ hk⟩
    rw [b2, pre 0 (by omega), a3]
    show f (n - 1 - (n - 1)) = f 0
    rw [Nat.sub_self]
end
section
/-! ===== space: bodies by walls ===== -/
abbrev p3 : Type := Rat × Rat × Rat
abbrev wl : Type := Nat → p3 × Rat
def dt (u v : p3) : Rat := u.1 * v.1 + u.2.1 * v.2.1 + u.2.2 * v.2.2
def xs3 (u v : p3) : p3 := (u.2.1 * v.2.2 - u.2.2 * v.2.1, u.2.2 * v.1 - u.1 * v.2.2, u.1 * v.2.1 - u.2.1 * v.1)
def ad (u v : p3) : p3 := (u.1 + v.1, u.2.1 + v.2.1, u.2.2 + v.2.2)
def sc (t : Rat) (v : p3) : p3 := (t * v.1, t * v.2.1, t * v.2.2)
def z3 : p3 := (0, 0, 0)
def d3 (u v w : p3) : Rat := dt (xs3 u v) w
theorem p3_ext {u v : p3} (h1 : u.1 = v.1) (h2 : u.2.1 = v.2.1) (h3 : u.2.2 = v.2.2) : u = v := Prod.ext h1 (Prod.ext h2 h3)
theorem dt_ad (u v w : p3) : dt u (ad v w) = dt u v + dt u w := by unfold dt ad; grind
theorem dt_sc (u v : p3) (t : Rat) : dt u (sc t v) = t * dt u v := by unfold dt sc; grind
theorem dt_z (u : p3) : dt u z3 = 0 := by unfold dt z3; grind
theorem dt_comm (u v : p3) : dt u v = dt v u := by unfold dt; grind
theorem dt_x1 (u v : p3) : dt u (xs3 u v) = 0 := by unfold dt xs3; grind
theorem dt_x2 (u v : p3) : dt v (xs3 u v) = 0 := by unfold dt xs3; grind
theorem r_sq (a : Rat) : 0 ≤ a * a := by
  by_cases h : 0 ≤ a
  · exact r_nn h h
  · have := r_nn (show 0 ≤ -a by grind) (show 0 ≤ -a by grind)
    grind
theorem r_sq0 {a : Rat} (h : a * a = 0) : a = 0 := by
  rcases Rat.mul_eq_zero.mp h with h | h <;> exact h
theorem dt_pos {u : p3} (h : u ≠ z3) : 0 < dt u u := by
  have a1 := r_sq u.1
  have a2 := r_sq u.2.1
  have a3 := r_sq u.2.2
  apply Classical.byContradiction
  intro hn
  have e : dt u u = u.1 * u.1 + u.2.1 * u.2.1 + u.2.2 * u.2.2 := rfl
  have b1 : u.1 * u.1 = 0 := by grind
  have b2 : u.2.1 * u.2.1 = 0 := by grind
  have b3 : u.2.2 * u.2.2 = 0 := by grind
  exact h (p3_ext (r_sq0 b1) (r_sq0 b2) (r_sq0 b3))
/-- one is so many times the other, if their cross is nought -/
theorem x_par {u v : p3} (hu : u ≠ z3) (h : xs3 u v = z3) : dt u u * v.1 = dt u v * u.1 ∧ dt u u * v.2.1 = dt u v * u.2.1 ∧ dt u u * v.2.2 = dt u v * u.2.2 := by
  have h1 : u.2.1 * v.2.2 - u.2.2 * v.2.1 = 0 := congrArg (fun p => p.1) h
  have h2 : u.2.2 * v.1 - u.1 * v.2.2 = 0 := congrArg (fun p => p.2.1) h
  have h3 : u.1 * v.2.1 - u.2.1 * v.1 = 0 := congrArg (fun p => p.2.2) h
  unfold dt
  refine ⟨?_, ?_, ?_⟩ <;> grind
theorem par_dt {u v n : p3} (hu : u ≠ z3) (h : xs3 u v = z3) (hn : dt u n = 0) : dt v n = 0 := by
  obtain ⟨e1, e2, e3⟩ := x_par hu h
  have p := dt_pos hu
  have : dt u u * dt v n = dt u v * dt u n := by
    have : dt u u * dt v n = (dt u u * v.1) * n.1 + (dt u u * v.2.1) * n.2.1 + (dt u u * v.2.2) * n.2.2 := by unfold dt; grind
    rw [this, e1, e2, e3]; unfold dt; grind
  rw [hn] at this
  exact r_zero (a := dt u u) (by grind) (this.trans (by grind))
/-- a way across two ways is not along them -/
theorem x_ne {u v : p3} (hu : u ≠ z3) (hv : v ≠ z3) (h : dt u v = 0) : xs3 u v ≠ z3 := by
  intro hx
  obtain ⟨e1, e2, e3⟩ := x_par hu hx
  have p := dt_pos hu
  rw [h] at e1 e2 e3
  have q : dt u u ≠ 0 := by grind
  exact hv (p3_ext (r_zero q (e1.trans (by grind))) (r_zero q (e2.trans (by grind))) (r_zero q (e3.trans (by grind))))
theorem some_ort {v : p3} (hv : v ≠ z3) : ∃ u : p3, u ≠ z3 ∧ dt u v = 0 := by
  by_cases h : v.1 = 0 ∧ v.2.1 = 0
  · refine ⟨(1, 0, 0), fun e => ?_, ?_⟩
    · have : (1 : Rat) = 0 := congrArg (fun p => p.1) e
      grind
    · unfold dt; grind
  · refine ⟨(v.2.1, -v.1, 0), fun e => ?_, ?_⟩
    · have e1 : v.2.1 = 0 := congrArg (fun p => p.1) e
      have e2 : -v.1 = 0 := congrArg (fun p => p.2.1) e
      exact h ⟨by grind, e1⟩
    · unfold dt; grind
/-- three ways that span: nothing but nought is across all -/
theorem span0 {a b c v : p3} (hd : d3 a b c ≠ 0) (h1 : dt a v = 0) (h2 : dt b v = 0) (h3 : dt c v = 0) : v = z3 := by
  unfold d3 dt xs3 at *
  refine p3_ext ?_ ?_ ?_
  · refine r_zero hd ?_
    show _ = (0 : Rat)
    have : ((a.2.1 * b.2.2 - a.2.2 * b.2.1) * c.1 + (a.2.2 * b.1 - a.1 * b.2.2) * c.2.1 + (a.1 * b.2.1 - a.2.1 * b.1) * c.2.2) * v.1 = (b.2.1 * c.2.2 - b.2.2 * c.2.1) * (a.1 * v.1 + a.2.1 * v.2.1 + a.2.2 * v.2.2) + (c.2.1 * a.2.2 - c.2.2 * a.2.1) * (b.1 * v.1 + b.2.1 * v.2.1 + b.2.2 * v.2.2) + (a.2.1 * b.2.2 - a.2.2 * b.2.1) * (c.1 * v.1 + c.2.1 * v.2.1 + c.2.2 * v.2.2) := by grind
    rw [this, h1, h2, h3]; grind
  · refine r_zero hd ?_
    have : ((a.2.1 * b.2.2 - a.2.2 * b.2.1) * c.1 + (a.2.2 * b.1 - a.1 * b.2.2) * c.2.1 + (a.1 * b.2.1 - a.2.1 * b.1) * c.2.2) * v.2.1 = (b.2.2 * c.1 - b.1 * c.2.2) * (a.1 * v.1 + a.2.1 * v.2.1 + a.2.2 * v.2.2) + (c.2.2 * a.1 - c.1 * a.2.2) * (b.1 * v.1 + b.2.1 * v.2.1 + b.2.2 * v.2.2) + (a.2.2 * b.1 - a.1 * b.2.2) * (c.1 * v.1 + c.2.1 * v.2.1 + c.2.2 * v.2.2) := by grind
    rw [this, h1, h2, h3]; grind
  · refine r_zero hd ?_
    have : ((a.2.1 * b.2.2 - a.2.2 * b.2.1) * c.1 + (a.2.2 * b.1 - a.1 * b.2.2) * c.2.1 + (a.1 * b.2.1 - a.2.1 * b.1) * c.2.2) * v.2.2 = (b.1 * c.2.1 - b.2.1 * c.1) * (a.1 * v.1 + a.2.1 * v.2.1 + a.2.2 * v.2.2) + (c.1 * a.2.1 - c.2.1 * a.1) * (b.1 * v.1 + b.2.1 * v.2.1 + b.2.2 * v.2.2) + (a.1 * b.2.1 - a.2.1 * b.1) * (c.1 * v.1 + c.2.1 * v.2.1 + c.2.2 * v.2.2) := by grind
    rw [this, h1, h2, h3]; grind
/-! the body of a set of walls -/
section BD
variable {w : wl} {σ : Nat → Prop} {N : Nat}
def PO (w : wl) (σ : Nat → Prop) (p : p3) : Prop := ∀ i, σ i → dt (w i).1 p ≤ (w i).2
def RC (w : wl) (σ : Nat → Prop) (v : p3) : Prop := ∀ i, σ i → dt (w i).1 v ≤ 0
def TI (w : wl) (i : Nat) (p : p3) : Prop := dt (w i).1 p = (w i).2
def T3 (w : wl) (σ : Nat → Prop) (p : p3) : Prop := ∃ i j k, σ i ∧ σ j ∧ σ k ∧ d3 (w i).1 (w j).1 (w k).1 ≠ 0 ∧ TI w i p ∧ TI w j p ∧ TI w k p
def VX (w : wl) (σ : Nat → Prop) (p : p3) : Prop := PO w σ p ∧ T3 w σ p
/-- a least of finitely many -/
theorem fin_min (P : Nat → Prop) (f : Nat → Rat) : ∀ N, (∃ i, i < N ∧ P i) → ∃ k, k < N ∧ P k ∧ ∀ i, i < N → P i → f k ≤ f i := by
  intro N
  induction N with
  | zero => rintro ⟨i, hi, -⟩; omega
  | succ N ih =>
    rintro ⟨i, hi, hP⟩
    by_cases hN : ∃ i, i < N ∧ P i
    · obtain ⟨k, hk, pk, hm⟩ := ih hN
      by_cases hc : P N ∧ f N ≤ f k
      · refine ⟨N, by omega, hc.1, fun j hj pj => ?_⟩
        by_cases e : j = N
        · rw [e]; exact Rat.le_refl
        · exact Rat.le_trans hc.2 (hm j (by omega) pj)
      · refine ⟨k, by omega, pk, fun j hj pj => ?_⟩
        by_cases e : j = N
        · subst e
          have : ¬ f j ≤ f k := fun q => hc ⟨pj, q⟩
          grind
        · exact hm j (by omega) pj
    · have e : i = N := by
        apply Classical.byContradiction
        intro e
        exact hN ⟨i, by omega, hP⟩
      subst e
      refine ⟨i, by omega, hP, fun j hj pj => ?_⟩
      by_cases e : j = i
      · rw [e]; exact Rat.le_refl
      · exact absurd ⟨j, by omega, pj⟩ hN
theorem div_le {a b t : Rat} (hb : 0 < b) (h : t ≤ a / b) : t * b ≤ a := by
  have := Rat.mul_le_mul_of_nonneg_right h (Rat.le_of_lt hb)
  rwa [Rat.div_mul_cancel (by grind)] at this
theorem div_eq {a b t : Rat} (hb : 0 < b) (h : t = a / b) : t * b = a := by rw [h, Rat.div_mul_cancel (by grind)]
theorem div_nn {a b : Rat} (ha : 0 ≤ a) (hb : 0 < b) : 0 ≤ a / b := by
  have : b * (a / b) = a := by rw [Rat.mul_comm, Rat.div_mul_cancel (by grind)]
  exact r_pos hb (by rw [this]; exact ha)
theorem div_p {a b : Rat} (ha : 0 < a) (hb : 0 < b) : 0 < a / b := by
  have : b * (a / b) = a := by rw [Rat.mul_comm, Rat.div_mul_cancel (by grind)]
  exact r_pos' hb (by rw [this]; exact ha)
/-- along a step until a wall stops it -/
theorem PO_go (hN : ∀ i, σ i → i < N) {p u : p3} (hp : PO w σ p) (hs : ∃ i, σ i ∧ 0 < dt (w i).1 u) : ∃ (t : Rat) (k : Nat), 0 ≤ t ∧ σ k ∧ 0 < dt (w k).1 u ∧ PO w σ (ad p (sc t u)) ∧ TI w k (ad p (sc t u)) := by
  obtain ⟨i, hi, hiu⟩ := hs
  obtain ⟨k, hk, ⟨k1, k2⟩, hm⟩ := fin_min (fun i => σ i ∧ 0 < dt (w i).1 u) (fun i => ((w i).2 - dt (w i).1 p) / dt (w i).1 u) N ⟨i, hN i hi, hi, hiu⟩
  refine ⟨((w k).2 - dt (w k).1 p) / dt (w k).1 u, k, div_nn (by have := hp k k1; grind) k2, k1, k2, fun j hj => ?_, ?_⟩
  · rw [dt_ad, dt_sc]
    by_cases hju : 0 < dt (w j).1 u
    · have := div_le hju (hm j (hN j hj) ⟨hj, hju⟩)
      grind
    · have a1 := div_nn (a := (w k).2 - dt (w k).1 p) (by have := hp k k1; grind) k2
      have a2 := r_nn a1 (show 0 ≤ - dt (w j).1 u by grind)
      have := hp j hj
      grind
  · unfold TI
    rw [dt_ad, dt_sc, Rat.div_mul_cancel (by grind)]
    grind
/-- one step of the way to a vertex -/
theorem LP_step (hN : ∀ i, σ i → i < N) (hb : ∀ v, RC w σ v → v = z3) {p u c : p3} (hp : PO w σ p) (hu : u ≠ z3) (ht : ∀ i, σ i → TI w i p → dt (w i).1 u = 0) : ∃ q, PO w σ q ∧ dt c p ≤ dt c q ∧ (∀ i, σ i → TI w i p → TI w i q) ∧ ∃ k, σ k ∧ TI w k q ∧ dt (w k).1 u ≠ 0 := by
  have main : ∀ u : p3, u ≠ z3 → (∀ i, σ i → TI w i p → dt (w i).1 u = 0) → 0 ≤ dt c u → ∃ q, PO w σ q ∧ dt c p ≤ dt c q ∧ (∀ i, σ i → TI w i p → TI w i q) ∧ ∃ k, σ k ∧ TI w k q ∧ dt (w k).1 u ≠ 0 := by
    intro u hu ht hc
    have hs : ∃ i, σ i ∧ 0 < dt (w i).1 u := by
      apply Classical.byContradiction
      intro hn
      exact hu (hb u fun i hi => by
        apply Classical.byContradiction
        intro hc
        exact hn ⟨i, hi, by grind⟩)
    obtain ⟨t, k, h0, h1, h2, h3, h4⟩ := PO_go hN hp hs
    refine ⟨_, h3, ?_, fun i hi hti => ?_, k, h1, h4, by grind⟩
    · rw [dt_ad, dt_sc]
      have := r_nn h0 hc
      grind
    · unfold TI at *
      rw [dt_ad, dt_sc, ht i hi hti, hti]; grind
  by_cases hc : 0 ≤ dt c u
  · exact main u hu ht hc
  · have e : ∀ n : p3, dt n (sc (-1) u) = - dt n u := fun n => by rw [dt_sc]; grind
    obtain ⟨q, a, b, c', k, d, f, g⟩ := main (sc (-1) u) (fun e2 => hu (p3_ext (by have : -1 * u.1 = 0 := congrArg (fun p => p.1) e2; show u.1 = 0; grind) (by have : -1 * u.2.1 = 0 := congrArg (fun p => p.2.1) e2; show u.2.1 = 0; grind) (by have : -1 * u.2.2 = 0 := congrArg (fun p => p.2.2) e2; show u.2.2 = 0; grind))) (fun i hi hti => by rw [e, ht i hi hti]; grind) (by rw [e]; grind)
    exact ⟨q, a, b, c', k, d, f, by rw [e] at g; grind⟩
/-- from any place of a body that has an end, to a vertex that is no worse and keeps what is tight -/
theorem LPv (hN : ∀ i, σ i → i < N) (hz : ∀ i, σ i → (w i).1 ≠ z3) (hb : ∀ v, RC w σ v → v = z3) (c : p3) {p : p3} (hp : PO w σ p) : ∃ q, VX w σ q ∧ dt c p ≤ dt c q ∧ ∀ i, σ i → TI w i p → TI w i q := by
  -- a place where two cross
  have L2 : ∀ p, PO w σ p → ∀ i j, σ i → σ j → TI w i p → TI w j p → xs3 (w i).1 (w j).1 ≠ z3 → ∃ q, VX w σ q ∧ dt c p ≤ dt c q ∧ ∀ i, σ i → TI w i p → TI w i q := by
    intro p hp i j hi hj ti tj hx
    by_cases h3 : T3 w σ p
    · exact ⟨p, ⟨hp, h3⟩, Rat.le_refl, fun _ _ h => h⟩
    · obtain ⟨q, q1, q2, q3, k, k1, k2, k3⟩ := LP_step hN hb (c := c) hp hx (fun k hk tk => by
        apply Classical.byContradiction
        intro hd
        exact h3 ⟨i, j, k, hi, hj, hk, by unfold d3; rw [dt_comm]; exact hd, ti, tj, tk⟩)
      exact ⟨q, ⟨q1, i, j, k, hi, hj, k1, by unfold d3; rw [dt_comm]; exact k3, q3 i hi ti, q3 j hj tj, k2⟩, q2, q3⟩
  have L1 : ∀ p, PO w σ p → ∀ i, σ i → TI w i p → ∃ q, VX w σ q ∧ dt c p ≤ dt c q ∧ ∀ i, σ i → TI w i p → TI w i q := by
    intro p hp i hi ti
    by_cases h2 : ∃ j, σ j ∧ TI w j p ∧ xs3 (w i).1 (w j).1 ≠ z3
    · obtain ⟨j, hj, tj, hx⟩ := h2
      exact L2 p hp i j hi hj ti tj hx
    · obtain ⟨u, hu, hiu⟩ := some_ort (hz i hi)
      rw [dt_comm] at hiu
      obtain ⟨q, q1, q2, q3, k, k1, k2, k3⟩ := LP_step hN hb (c := c) hp hu (fun j hj tj => by
        have : xs3 (w i).1 (w j).1 = z3 := by
          apply Classical.byContradiction
          intro hx
          exact h2 ⟨j, hj, tj, hx⟩
        exact par_dt (hz i hi) this hiu)
      obtain ⟨r, r1, r2, r3⟩ := L2 q q1 i k hi k1 (q3 i hi ti) k2 (fun hx => k3 (par_dt (hz i hi) hx hiu))
      exact ⟨r, r1, Rat.le_trans q2 r2, fun j hj tj => r3 j hj (q3 j hj tj)⟩
  by_cases h1 : ∃ i, σ i ∧ TI w i p
  · obtain ⟨i, hi, ti⟩ := h1
    exact L1 p hp i hi ti
  · have hu : ((1 : Rat), (0 : Rat), (0 : Rat)) ≠ z3 := fun e => by
      have : (1 : Rat) = 0 := congrArg (fun p => p.1) e
      grind
    obtain ⟨q, q1, q2, q3, k, k1, k2, k3⟩ := LP_step hN hb (c := c) hp hu (fun j hj tj => absurd ⟨j, hj, tj⟩ h1)
    obtain ⟨r, r1, r2, r3⟩ := L1 q q1 k k1 k2
    exact ⟨r, r1, Rat.le_trans q2 r2, fun j hj tj => r3 j hj (q3 j hj tj)⟩
/-- a little along a step that no tight wall bars -/
theorem PERT {p u : p3} (hp : PO w σ p) (hu : ∀ i, σ i → TI w i p → dt (w i).1 u ≤ 0) : ∀ N, (∀ i, σ i → i < N) → ∃ e : Rat, 0 < e ∧ PO w σ (ad p (sc e u)) := by
  have key : ∀ N, ∃ e : Rat, 0 < e ∧ ∀ i, i < N → σ i → ∀ t, 0 ≤ t → t ≤ e → dt (w i).1 (ad p (sc t u)) ≤ (w i).2 := by
    intro N
    induction N with
    | zero => exact ⟨1, by grind, fun i hi => by omega⟩
    | succ N ih =>
      obtain ⟨e, he, h⟩ := ih
      by_cases hN : σ N ∧ 0 < dt (w N).1 u
      · have hnt : dt (w N).1 p < (w N).2 := by
          have a := hp N hN.1
          have b : dt (w N).1 p ≠ (w N).2 := fun q => by
            have := hu N hN.1 q
            grind
          grind
        have hd := div_p (a := (w N).2 - dt (w N).1 p) (by grind) hN.2
        refine ⟨min e (((w N).2 - dt (w N).1 p) / dt (w N).1 u), by grind, fun i hi hσ t ht hte => ?_⟩
        by_cases e1 : i = N
        · subst e1
          rw [dt_ad, dt_sc]
          have := div_le (a := (w i).2 - dt (w i).1 p) (t := t) hN.2 (by grind)
          grind
        · exact h i (by omega) hσ t ht (by grind)
      · refine ⟨e, he, fun i hi hσ t ht hte => ?_⟩
        by_cases e1 : i = N
        · subst e1
          rw [dt_ad, dt_sc]
          have a : ¬ 0 < dt (w i).1 u := fun q => hN ⟨hσ, q⟩
          have b := r_nn ht (show 0 ≤ - dt (w i).1 u by grind)
          have := hp i hσ
          grind
        · exact h i (by omega) hσ t ht hte
  intro N hN
  obtain ⟨e, he, h⟩ := key N
  exact ⟨e, he, fun i hi => h i (hN i hi) hi e (Rat.le_of_lt he) Rat.le_refl⟩
/-- a body with three walls that span and a step without end has such a step along two of its walls -/
theorem EXT (hN : ∀ i, σ i → i < N) (hz : ∀ i, σ i → (w i).1 ≠ z3) {a b c : Nat} (ha : σ a) (hb : σ b) (hc : σ c) (hd : d3 (w a).1 (w b).1 (w c).1 ≠ 0) {v : p3} (hv : v ≠ z3) (hr : RC w σ v) : ∃ i j, σ i ∧ σ j ∧ xs3 (w i).1 (w j).1 ≠ z3 ∧ RC w σ (xs3 (w i).1 (w j).1) := by
  -- a step of the cone to a further wall
  have step : ∀ v u : p3, v ≠ z3 → RC w σ v → u ≠ z3 → dt u v = 0 → (∀ i, σ i → dt (w i).1 v = 0 → dt (w i).1 u = 0) → ∃ v', v' ≠ z3 ∧ RC w σ v' ∧ (∀ i, σ i → dt (w i).1 v = 0 → dt (w i).1 v' = 0) ∧ ∃ k, σ k ∧ dt (w k).1 v' = 0 ∧ dt (w k).1 u ≠ 0 := by
    intro v u hv hr hu huv ht
    have e : ∀ n : p3, dt n (sc (-1) u) = - dt n u := fun n => by rw [dt_sc]; grind
    have main : ∀ u : p3, u ≠ z3 → dt u v = 0 → (∀ i, σ i → dt (w i).1 v = 0 → dt (w i).1 u = 0) → (∃ i, σ i ∧ 0 < dt (w i).1 u) → ∃ v', v' ≠ z3 ∧ RC w σ v' ∧ (∀ i, σ i → dt (w i).1 v = 0 → dt (w i).1 v' = 0) ∧ ∃ k, σ k ∧ dt (w k).1 v' = 0 ∧ dt (w k).1 u ≠ 0 := by
      intro u hu huv ht hs
      have hp : PO (fun i => ((w i).1, 0)) σ v := fun i hi => hr i hi
      obtain ⟨t, k, h0, h1, h2, h3, h4⟩ := PO_go (w := fun i => ((w i).1, 0)) hN hp hs
      refine ⟨_, fun hz0 => ?_, fun i hi => h3 i hi, fun i hi h0 => by rw [dt_ad, dt_sc, h0, ht i hi h0]; grind, k, h1, h4, by
        have h2' : 0 < dt (w k).1 u := h2
        grind⟩
      have : dt v (ad v (sc t u)) = dt v v := by rw [dt_ad, dt_sc, dt_comm v u, huv]; grind
      rw [hz0, dt_z] at this
      have := dt_pos hv
      grind
    by_cases hs : ∃ i, σ i ∧ 0 < dt (w i).1 u
    · exact main u hu huv ht hs
    · have hs' : ∃ i, σ i ∧ 0 < dt (w i).1 (sc (-1) u) := by
        apply Classical.byContradiction
        intro hn
        have z : ∀ i, σ i → dt (w i).1 u = 0 := by
          intro i hi
          have a1 : ¬ 0 < dt (w i).1 u := fun q => hs ⟨i, hi, q⟩
          have a2 : ¬ 0 < dt (w i).1 (sc (-1) u) := fun q => hn ⟨i, hi, q⟩
          rw [e] at a2
          grind
        exact hu (span0 hd (z a ha) (z b hb) (z c hc))
      obtain ⟨v', b1, b2, b3, k, b4, b5, b6⟩ := main (sc (-1) u) (fun e2 => hu (p3_ext (by have : -1 * u.1 = 0 := congrArg (fun p => p.1) e2; show u.1 = 0; grind) (by have : -1 * u.2.1 = 0 := congrArg (fun p => p.2.1) e2; show u.2.1 = 0; grind) (by have : -1 * u.2.2 = 0 := congrArg (fun p => p.2.2) e2; show u.2.2 = 0; grind))) (by rw [dt_comm, e, dt_comm, huv]; grind) (fun i hi h => by rw [e, ht i hi h]; grind) hs'
      exact ⟨v', b1, b2, b3, k, b4, b5, by rw [e] at b6; grind⟩
  have L2 : ∀ v, v ≠ z3 → RC w σ v → ∀ i j, σ i → σ j → dt (w i).1 v = 0 → dt (w j).1 v = 0 → xs3 (w i).1 (w j).1 ≠ z3 → ∃ i j, σ i ∧ σ j ∧ xs3 (w i).1 (w j).1 ≠ z3 ∧ RC w σ (xs3 (w i).1 (w j).1) := by
    intro v hv hr i j hi hj ti tj hx
    -- v is so many times the cross
    have hxv : xs3 v (xs3 (w i).1 (w j).1) = z3 := by
      have f1 : xs3 v (xs3 (w i).1 (w j).1) = ad (sc (dt (w j).1 v) (w i).1) (sc (- dt (w i).1 v) (w j).1) := by
        unfold xs3 ad sc dt
        refine p3_ext ?_ ?_ ?_ <;> grind
      rw [f1, ti, tj]
      unfold ad sc z3
      refine p3_ext ?_ ?_ ?_ <;> grind
    obtain ⟨e1, e2, e3⟩ := x_par hv hxv
    have pv := dt_pos hv
    have key : ∀ n : p3, dt v v * dt n (xs3 (w i).1 (w j).1) = dt v (xs3 (w i).1 (w j).1) * dt n v := by
      intro n
      have : dt v v * dt n (xs3 (w i).1 (w j).1) = n.1 * (dt v v * (xs3 (w i).1 (w j).1).1) + n.2.1 * (dt v v * (xs3 (w i).1 (w j).1).2.1) + n.2.2 * (dt v v * (xs3 (w i).1 (w j).1).2.2) := by
        unfold dt; grind
      rw [this, e1, e2, e3]; unfold dt; grind
    by_cases hs : 0 ≤ dt v (xs3 (w i).1 (w j).1)
    · refine ⟨i, j, hi, hj, hx, fun k hk => ?_⟩
      have := key (w k).1
      have a := r_nn hs (show 0 ≤ - dt (w k).1 v by have := hr k hk; grind)
      have := r_pos pv (b := - dt (w k).1 (xs3 (w i).1 (w j).1)) (by grind)
      grind
    · have fl : ∀ n : p3, dt n (xs3 (w j).1 (w i).1) = - dt n (xs3 (w i).1 (w j).1) := fun n => by unfold dt xs3; grind
      refine ⟨j, i, hj, hi, fun hz0 => hx (p3_ext ?_ ?_ ?_), fun k hk => ?_⟩
      · have : (w j).1.2.1 * (w i).1.2.2 - (w j).1.2.2 * (w i).1.2.1 = 0 := congrArg (fun p => p.1) hz0
        show (w i).1.2.1 * (w j).1.2.2 - (w i).1.2.2 * (w j).1.2.1 = 0
        grind
      · have : (w j).1.2.2 * (w i).1.1 - (w j).1.1 * (w i).1.2.2 = 0 := congrArg (fun p => p.2.1) hz0
        show (w i).1.2.2 * (w j).1.1 - (w i).1.1 * (w j).1.2.2 = 0
        grind
      · have : (w j).1.1 * (w i).1.2.1 - (w j).1.2.1 * (w i).1.1 = 0 := congrArg (fun p => p.2.2) hz0
        show (w i).1.1 * (w j).1.2.1 - (w i).1.2.1 * (w j).1.1 = 0
        grind
      · rw [fl]
        have := key (w k).1
        have a := r_nn (show 0 ≤ - dt v (xs3 (w i).1 (w j).1) by grind) (show 0 ≤ - dt (w k).1 v by have := hr k hk; grind)
        have := r_pos pv (b := dt (w k).1 (xs3 (w i).1 (w j).1)) (by grind)
        grind
  have L1 : ∀ v, v ≠ z3 → RC w σ v → ∀ i, σ i → dt (w i).1 v = 0 → ∃ i j, σ i ∧ σ j ∧ xs3 (w i).1 (w j).1 ≠ z3 ∧ RC w σ (xs3 (w i).1 (w j).1) := by
    intro v hv hr i hi ti
    by_cases h2 : ∃ j, σ j ∧ dt (w j).1 v = 0 ∧ xs3 (w i).1 (w j).1 ≠ z3
    · obtain ⟨j, hj, tj, hx⟩ := h2
      exact L2 v hv hr i j hi hj ti tj hx
    · obtain ⟨v', b1, b2, b3, k, b4, b5, b6⟩ := step v (xs3 (w i).1 v) hv hr (x_ne (hz i hi) hv ti) (by rw [dt_comm]; exact dt_x2 _ _) (fun j hj tj => by
        have : xs3 (w i).1 (w j).1 = z3 := by
          apply Classical.byContradiction
          intro hx
          exact h2 ⟨j, hj, tj, hx⟩
        exact par_dt (hz i hi) this (dt_x1 _ _))
      exact L2 v' b1 b2 i k hi b4 (b3 i hi ti) b5 (fun hx => b6 (par_dt (hz i hi) hx (dt_x1 _ _)))
  by_cases h1 : ∃ i, σ i ∧ dt (w i).1 v = 0
  · obtain ⟨i, hi, ti⟩ := h1
    exact L1 v hv hr i hi ti
  · obtain ⟨u, hu, huv⟩ := some_ort hv
    obtain ⟨v', b1, b2, b3, k, b4, b5, b6⟩ := step v u hv hr hu huv (fun j hj tj => absurd ⟨j, hj, tj⟩ h1)
    exact L1 v' b1 b2 k b4 b5
end BD
end
section
/-! ===== space: what the class and the reference ask in other words ===== -/
section BD2
variable {w : wl} {σ : Nat → Prop} {s : Nat}
def cEnd (w : wl) (s : Nat) (σ : Nat → Prop) : Prop := ∃ i j, i < s ∧ j < s ∧ xs3 (w i).1 (w j).1 ≠ z3 ∧ RC w σ (xs3 (w i).1 (w j).1)
def mEnd (w : wl) (σ : Nat → Prop) : Prop := ∃ i j, σ i ∧ σ j ∧ xs3 (w i).1 (w j).1 ≠ z3 ∧ RC w σ (xs3 (w i).1 (w j).1)
def Snd (w : wl) (σ : Nat → Prop) : Prop := (∃ p, VX w σ p) ∧ ¬ mEnd w σ
theorem end_iff (hN : ∀ i, σ i → i < s) (hz : ∀ i, σ i → (w i).1 ≠ z3) (h : ∃ p, VX w σ p) : cEnd w s σ ↔ mEnd w σ := by
  constructor
  · rintro ⟨i, j, hi, hj, hx, hr⟩
    obtain ⟨p, hp, a, b, c, ha, hb, hc, hd, -⟩ := h
    exact EXT hN hz ha hb hc hd hx hr
  · rintro ⟨i, j, hi, hj, hx, hr⟩
    exact ⟨i, j, hN i hi, hN j hj, hx, hr⟩
theorem Snd_iff (hN : ∀ i, σ i → i < s) (hz : ∀ i, σ i → (w i).1 ≠ z3) : Snd w σ ↔ (∃ p, VX w σ p) ∧ ¬ cEnd w s σ := by
  constructor
  · rintro ⟨a, b⟩
    exact ⟨a, fun q => b ((end_iff hN hz a).mp q)⟩
  · rintro ⟨a, b⟩
    exact ⟨a, fun q => b ((end_iff hN hz a).mpr q)⟩
theorem bdd_of (hN : ∀ i, σ i → i < s) (hz : ∀ i, σ i → (w i).1 ≠ z3) {a b c : Nat} (ha : σ a) (hb : σ b) (hc : σ c) (hd : d3 (w a).1 (w b).1 (w c).1 ≠ 0) (he : ¬ mEnd w σ) : ∀ v, RC w σ v → v = z3 := by
  intro v hr
  apply Classical.byContradiction
  intro hv
  exact he (EXT hN hz ha hb hc hd hv hr)
theorem Snd_bdd (hN : ∀ i, σ i → i < s) (hz : ∀ i, σ i → (w i).1 ≠ z3) (h : Snd w σ) : ∀ v, RC w σ v → v = z3 := by
  obtain ⟨⟨p, hp, a, b, c, ha, hb, hc, hd, -⟩, he⟩ := h
  exact bdd_of hN hz ha hb hc hd he
theorem dt_neg (u v : p3) : dt u (sc (-1) v) = - dt u v := by rw [dt_sc]; grind
theorem sc_ne {v : p3} (h : v ≠ z3) : sc (-1) v ≠ z3 := fun e => h (p3_ext (by have : -1 * v.1 = 0 := congrArg (fun p => p.1) e; show v.1 = 0; grind) (by have : -1 * v.2.1 = 0 := congrArg (fun p => p.2.1) e; show v.2.1 = 0; grind) (by have : -1 * v.2.2 = 0 := congrArg (fun p => p.2.2) e; show v.2.2 = 0; grind))
theorem d3_perm (a b c : p3) : d3 a b c = d3 b c a ∧ d3 a b c = d3 c a b := by unfold d3 dt xs3; constructor <;> grind
/-- without the wall k: three that span with k leave two that cross -/
theorem idle_iff (hN : ∀ i, σ i → i < s) (hz : ∀ i, σ i → (w i).1 ≠ z3) (h : Snd w σ) {k : Nat} (hk : σ k) :
    (¬ cEnd w s (fun i => σ i ∧ i ≠ k) ∧ ∀ p, VX w (fun i => σ i ∧ i ≠ k) p → dt (w k).1 p ≤ (w k).2) ↔ (Snd w (fun i => σ i ∧ i ≠ k) ∧ ∀ p, VX w (fun i => σ i ∧ i ≠ k) p ↔ VX w σ p) := by
  have hN' : ∀ i, (σ i ∧ i ≠ k) → i < s := fun i hi => hN i hi.1
  have hz' : ∀ i, (σ i ∧ i ≠ k) → (w i).1 ≠ z3 := fun i hi => hz i hi.1
  constructor
  · rintro ⟨hce, hin⟩
    -- the others span
    have hspan : ∃ a b c, (σ a ∧ a ≠ k) ∧ (σ b ∧ b ≠ k) ∧ (σ c ∧ c ≠ k) ∧ d3 (w a).1 (w b).1 (w c).1 ≠ 0 := by
      apply Classical.byContradiction
      intro hno
      obtain ⟨⟨p, hp, a, b, c, ha, hb, hc, hd, -⟩, -⟩ := h
      have two : ∀ i j, σ i → σ j → i ≠ k → j ≠ k → xs3 (w i).1 (w j).1 ≠ z3 → False := by
        intro i j hi hj ik jk hx
        refine hce ⟨i, j, hN i hi, hN j hj, hx, fun l hl => ?_⟩
        have : d3 (w i).1 (w j).1 (w l).1 = 0 := by
          apply Classical.byContradiction
          intro q
          exact hno ⟨i, j, l, ⟨hi, ik⟩, ⟨hj, jk⟩, hl, q⟩
        unfold d3 at this
        rw [dt_comm] at this
        rw [this]; exact Rat.le_refl
      have nx : ∀ i j l : Nat, d3 (w i).1 (w j).1 (w l).1 ≠ 0 → xs3 (w i).1 (w j).1 ≠ z3 := by
        intro i j l hd hx
        apply hd
        unfold d3; rw [hx]; unfold dt z3; grind
      by_cases ak : a = k
      · by_cases bk : b = k
        · apply hd; rw [ak, bk]; unfold d3 dt xs3; grind
        · by_cases ck : c = k
          · apply hd; rw [ak, ck]; unfold d3 dt xs3; grind
          · exact two b c hb hc bk ck (nx b c a (by rw [← (d3_perm _ _ _).1]; exact hd))
      · by_cases bk : b = k
        · by_cases ck : c = k
          · apply hd; rw [bk, ck]; unfold d3 dt xs3; grind
          · exact two c a hc ha ck ak (nx c a b (by rw [← (d3_perm _ _ _).2]; exact hd))
        · by_cases ck : c = k
          · exact two a b ha hb ak bk (nx a b c hd)
          · exact hno ⟨a, b, c, ⟨ha, ak⟩, ⟨hb, bk⟩, ⟨hc, ck⟩, hd⟩
    obtain ⟨a, b, c, ha, hb, hc, hd⟩ := hspan
    have hme : ¬ mEnd w (fun i => σ i ∧ i ≠ k) := fun ⟨i, j, hi, hj, hx, hr⟩ => hce ⟨i, j, hN' i hi, hN' j hj, hx, hr⟩
    have hbd := bdd_of hN' hz' ha hb hc hd hme
    have hsub : ∀ p, PO w σ p → PO w (fun i => σ i ∧ i ≠ k) p := fun p hp i hi => hp i hi.1
    have hv1 : ∀ p, VX w (fun i => σ i ∧ i ≠ k) p → VX w σ p := by
      rintro p ⟨hp, a, b, c, ha, hb, hc, hd, t1, t2, t3⟩
      refine ⟨fun i hi => ?_, a, b, c, ha.1, hb.1, hc.1, hd, t1, t2, t3⟩
      by_cases e : i = k
      · rw [e]; exact hin p ⟨hp, a, b, c, ha, hb, hc, hd, t1, t2, t3⟩
      · exact hp i ⟨hi, e⟩
    have hv2 : ∀ p, VX w σ p → VX w (fun i => σ i ∧ i ≠ k) p := by
      intro p hp
      apply Classical.byContradiction
      intro hno
      have hno3 : ¬ T3 w (fun i => σ i ∧ i ≠ k) p := fun q => hno ⟨hsub p hp.1, q⟩
      -- two others that cross, tight at p, and k across
      have hcr : ∃ i j, (σ i ∧ i ≠ k) ∧ (σ j ∧ j ≠ k) ∧ TI w i p ∧ TI w j p ∧ TI w k p ∧ d3 (w i).1 (w j).1 (w k).1 ≠ 0 := by
        obtain ⟨-, a, b, c, ha, hb, hc, hd, t1, t2, t3⟩ := hp
        by_cases ak : a = k
        · by_cases bk : b = k
          · exfalso; apply hd; rw [ak, bk]; unfold d3 dt xs3; grind
          · by_cases ck : c = k
            · exfalso; apply hd; rw [ak, ck]; unfold d3 dt xs3; grind
            · exact ⟨b, c, ⟨hb, bk⟩, ⟨hc, ck⟩, t2, t3, ak ▸ t1, by rw [← ak, ← (d3_perm _ _ _).1]; exact hd⟩
        · by_cases bk : b = k
          · by_cases ck : c = k
            · exfalso; apply hd; rw [bk, ck]; unfold d3 dt xs3; grind
            · exact ⟨c, a, ⟨hc, ck⟩, ⟨ha, ak⟩, t3, t1, bk ▸ t2, by rw [← bk, ← (d3_perm _ _ _).2]; exact hd⟩
          · by_cases ck : c = k
            · exact ⟨a, b, ⟨ha, ak⟩, ⟨hb, bk⟩, t1, t2, ck ▸ t3, by rw [← ck]; exact hd⟩
            · exact absurd ⟨a, b, c, ⟨ha, ak⟩, ⟨hb, bk⟩, ⟨hc, ck⟩, hd, t1, t2, t3⟩ hno3
      obtain ⟨i, j, hi, hj, ti, tj, tk, hd⟩ := hcr
      have main : ∀ u : p3, (∀ l, (σ l ∧ l ≠ k) → TI w l p → dt (w l).1 u = 0) → 0 < dt (w k).1 u → False := by
        intro u hu hku
        obtain ⟨e, he, hpe⟩ := PERT (hsub p hp.1) (fun l hl tl => by rw [hu l hl tl]; exact Rat.le_refl) s hN'
        obtain ⟨q, q1, q2, -⟩ := LPv hN' hz' hbd (w k).1 hpe
        rw [dt_ad, dt_sc] at q2
        have a1 := r_pp he hku
        have a2 := hin q q1
        have a3 : dt (w k).1 p = (w k).2 := tk
        grind
      have ort : ∀ l, (σ l ∧ l ≠ k) → TI w l p → dt (w l).1 (xs3 (w i).1 (w j).1) = 0 := by
        intro l hl tl
        apply Classical.byContradiction
        intro q
        exact hno3 ⟨i, j, l, hi, hj, hl, by unfold d3; rw [dt_comm]; exact q, ti, tj, tl⟩
      unfold d3 at hd
      rw [dt_comm] at hd
      by_cases pos : 0 < dt (w k).1 (xs3 (w i).1 (w j).1)
      · exact main _ ort pos
      · exact main (sc (-1) (xs3 (w i).1 (w j).1)) (fun l hl tl => by rw [dt_neg, ort l hl tl]; grind) (by rw [dt_neg]; grind)
    refine ⟨⟨?_, hme⟩, fun p => ⟨hv1 p, hv2 p⟩⟩
    obtain ⟨⟨p, hp⟩, -⟩ := h
    exact ⟨p, hv2 p hp⟩
  · rintro ⟨hs, hv⟩
    refine ⟨fun q => hs.2 ((end_iff hN' hz' hs.1).mp q), fun p hp => ?_⟩
    exact ((hv p).mp hp).1 k hk
def md (p q : p3) : p3 := sc (1 / 2) (ad p q)
theorem dt_md (n p q : p3) : dt n (md p q) = (dt n p + dt n q) / 2 := by unfold md; rw [dt_sc, dt_ad]; grind
theorem md_PO {p q : p3} (hp : PO w σ p) (hq : PO w σ q) : PO w σ (md p q) := by
  intro i hi
  rw [dt_md]
  have := hp i hi
  have := hq i hi
  grind
theorem md_TI {p q : p3} (hp : PO w σ p) (hq : PO w σ q) {i : Nat} (hi : σ i) : TI w i (md p q) ↔ TI w i p ∧ TI w i q := by
  unfold TI
  rw [dt_md]
  have := hp i hi
  have := hq i hi
  constructor
  · intro h; constructor <;> grind
  · rintro ⟨h1, h2⟩; grind
/-- two vertices alone on what is tight at both: two of these walls cross -/
theorem rim_two (hN : ∀ i, σ i → i < s) (hz : ∀ i, σ i → (w i).1 ≠ z3) (h : Snd w σ) {p q : p3} (hp : VX w σ p) (hq : VX w σ q) (hpq : p ≠ q)
    (hal : ∀ r, VX w σ r → r ≠ p → r ≠ q → ¬ ∀ i, σ i → TI w i p → TI w i q → TI w i r) : ∃ i j, σ i ∧ σ j ∧ TI w i p ∧ TI w i q ∧ TI w j p ∧ TI w j q ∧ xs3 (w i).1 (w j).1 ≠ z3 := by
  apply Classical.byContradiction
  intro hno
  have hbd := Snd_bdd hN hz h
  have he : ad q (sc (-1) p) ≠ z3 := fun e => hpq (p3_ext
    (by have : q.1 + -1 * p.1 = 0 := congrArg (fun p => p.1) e; grind)
    (by have : q.2.1 + -1 * p.2.1 = 0 := congrArg (fun p => p.2.1) e; grind)
    (by have : q.2.2 + -1 * p.2.2 = 0 := congrArg (fun p => p.2.2) e; grind))
  have hu : ∃ u : p3, u ≠ z3 ∧ dt u (ad q (sc (-1) p)) = 0 ∧ ∀ i, σ i → TI w i p → TI w i q → dt (w i).1 u = 0 := by
    by_cases hT : ∃ i, σ i ∧ TI w i p ∧ TI w i q
    · obtain ⟨i, hi, tp, tq⟩ := hT
      have h0 : dt (w i).1 (ad q (sc (-1) p)) = 0 := by
        unfold TI at tp tq
        rw [dt_ad, dt_neg, tp, tq]; grind
      refine ⟨xs3 (w i).1 (ad q (sc (-1) p)), x_ne (hz i hi) he h0, by rw [dt_comm]; exact dt_x2 _ _, fun j hj jp jq => ?_⟩
      have hx : xs3 (w i).1 (w j).1 = z3 := by
        apply Classical.byContradiction
        intro hx
        exact hno ⟨i, j, hi, hj, tp, tq, jp, jq, hx⟩
      exact par_dt (hz i hi) hx (dt_x1 _ _)
    · obtain ⟨u, u1, u2⟩ := some_ort he
      exact ⟨u, u1, u2, fun i hi tp tq => absurd ⟨i, hi, tp, tq⟩ hT⟩
  obtain ⟨u, u1, u2, u3⟩ := hu
  have hm := md_PO hp.1 hq.1
  obtain ⟨e, he0, hpe⟩ := PERT hm (u := u) (fun i hi ti => by
    obtain ⟨a, b⟩ := (md_TI hp.1 hq.1 hi).mp ti
    rw [u3 i hi a b]; exact Rat.le_refl) s hN
  obtain ⟨r, r1, r2, r3⟩ := LPv hN hz hbd u hpe
  rw [dt_ad, dt_sc, dt_md] at r2
  rw [dt_ad, dt_neg] at u2
  have a1 := r_pp he0 (dt_pos u1)
  refine hal r r1 (fun e1 => ?_) (fun e1 => ?_) (fun i hi tp tq => ?_)
  · rw [e1] at r2; grind
  · rw [e1] at r2; grind
  · refine r3 i hi ?_
    have := (md_TI hp.1 hq.1 hi).mpr ⟨tp, tq⟩
    unfold TI at *
    rw [dt_ad, dt_sc, u3 i hi tp tq, this]; grind
/-- the wall of a shadow's edge is that of an upright wall, or lies along two that cross -/
theorem edge_two (hN : ∀ i, σ i → i < s) (hz : ∀ i, σ i → (w i).1 ≠ z3) (h : Snd w σ) {p q : p3} (hp : VX w σ p) (hq : VX w σ q) {A B C : Rat} (hAB : ¬ (A = 0 ∧ B = 0))
    (hall : ∀ r, VX w σ r → A * r.1 + B * r.2.1 ≤ C) (ep : A * p.1 + B * p.2.1 = C) (eq : A * q.1 + B * q.2.1 = C) :
    (∃ i, σ i ∧ TI w i p ∧ TI w i q ∧ (w i).1.2.2 = 0) ∨ ∃ i j, σ i ∧ σ j ∧ TI w i p ∧ TI w i q ∧ TI w j p ∧ TI w j q ∧ ¬ ((w j).1.2.2 * (w i).1.1 - (w i).1.2.2 * (w j).1.1 = 0 ∧ (w j).1.2.2 * (w i).1.2.1 - (w i).1.2.2 * (w j).1.2.1 = 0) := by
  have hbd := Snd_bdd hN hz h
  have hm := md_PO hp.1 hq.1
  have cf : ∀ r : p3, dt (A, B, 0) r = A * r.1 + B * r.2.1 := fun r => by unfold dt; grind
  -- no step along the common walls leads out
  have out : ∀ u : p3, (∀ i, σ i → TI w i p → TI w i q → dt (w i).1 u = 0) → 0 < A * u.1 + B * u.2.1 → False := by
    intro u hu hpos
    obtain ⟨e, he0, hpe⟩ := PERT hm (u := u) (fun i hi ti => by
      obtain ⟨a, b⟩ := (md_TI hp.1 hq.1 hi).mp ti
      rw [hu i hi a b]; exact Rat.le_refl) s hN
    obtain ⟨r, r1, r2, -⟩ := LPv hN hz hbd (A, B, 0) hpe
    rw [dt_ad, dt_sc, dt_md, cf, cf, cf, cf, ep, eq] at r2
    have a1 := r_pp he0 hpos
    have a2 := hall r r1
    grind
  have pAB : 0 < A * A + B * B := by
    have a1 := r_sq A
    have a2 := r_sq B
    apply Classical.byContradiction
    intro hn
    exact hAB ⟨r_sq0 (by grind), r_sq0 (by grind)⟩
  by_cases hT : ∃ i, σ i ∧ TI w i p ∧ TI w i q
  · obtain ⟨i, hi, tp, tq⟩ := hT
    by_cases hc : (w i).1.2.2 = 0
    · exact Or.inl ⟨i, hi, tp, tq, hc⟩
    · by_cases h2 : ∃ j, σ j ∧ TI w j p ∧ TI w j q ∧ xs3 (w i).1 (w j).1 ≠ z3
      · obtain ⟨j, hj, jp, jq, hx⟩ := h2
        refine Or.inr ⟨i, j, hi, hj, tp, tq, jp, jq, ?_⟩
        rintro ⟨e1, e2⟩
        refine hx (p3_ext ?_ ?_ ?_)
        · show (w i).1.2.1 * (w j).1.2.2 - (w i).1.2.2 * (w j).1.2.1 = 0
          grind
        · show (w i).1.2.2 * (w j).1.1 - (w i).1.1 * (w j).1.2.2 = 0
          grind
        · show (w i).1.1 * (w j).1.2.1 - (w i).1.2.1 * (w j).1.1 = 0
          refine r_zero hc ?_
          grind
      · exfalso
        refine out (A, B, -(((w i).1.1 * A + (w i).1.2.1 * B) / (w i).1.2.2)) (fun j hj jp jq => ?_) pAB
        have hx : xs3 (w i).1 (w j).1 = z3 := by
          apply Classical.byContradiction
          intro hx
          exact h2 ⟨j, hj, jp, jq, hx⟩
        refine par_dt (hz i hi) hx ?_
        show (w i).1.1 * A + (w i).1.2.1 * B + (w i).1.2.2 * (-(((w i).1.1 * A + (w i).1.2.1 * B) / (w i).1.2.2)) = 0
        have : (w i).1.2.2 * (((w i).1.1 * A + (w i).1.2.1 * B) / (w i).1.2.2) = (w i).1.1 * A + (w i).1.2.1 * B := by
          rw [Rat.mul_comm, Rat.div_mul_cancel hc]
        grind
  · exfalso
    exact out (A, B, 0) (fun i hi tp tq => absurd ⟨i, hi, tp, tq⟩ hT) pAB
end BD2
end
section
/-! ===== places given by three whole numbers ===== -/
def P2 (x y w : Int) : pt := ((x : Rat) / (w : Rat), (y : Rat) / (w : Rat))
theorem c_pos {w : Int} (h : 0 < w) : (0 : Rat) < (w : Rat) := by exact_mod_cast h
theorem q_mul {x w : Int} (h : 0 < w) : (x : Rat) / (w : Rat) * (w : Rat) = (x : Rat) := Rat.div_mul_cancel (by have := c_pos h; grind)
theorem q_lt {x w x' w' : Int} (h : 0 < w) (h' : 0 < w') : (x : Rat) / (w : Rat) < (x' : Rat) / (w' : Rat) ↔ x * w' < x' * w := by
  have e1 := q_mul (x := x) h
  have e2 := q_mul (x := x') h'
  have p1 := c_pos h
  have p2 := c_pos h'
  generalize (x : Rat) / (w : Rat) = X at *
  generalize (x' : Rat) / (w' : Rat) = X' at *
  have e3 : ((x' * w - x * w' : Int) : Rat) = ((w : Rat) * (w' : Rat)) * (X' - X) := by
    push_cast
    rw [← e1, ← e2]; grind
  have pw := r_pp p1 p2
  constructor
  · intro hl
    have := r_pp pw (show 0 < X' - X by grind)
    rw [← e3] at this
    have : (0 : Int) < x' * w - x * w' := by exact_mod_cast this
    omega
  · intro hl
    have : (0 : Rat) < ((x' * w - x * w' : Int) : Rat) := by exact_mod_cast (show (0 : Int) < x' * w - x * w' by omega)
    rw [e3] at this
    have := r_pos' pw this
    grind
theorem q_eq {x w x' w' : Int} (h : 0 < w) (h' : 0 < w') : (x : Rat) / (w : Rat) = (x' : Rat) / (w' : Rat) ↔ x * w' = x' * w := by
  have a := q_lt (x := x) (x' := x') h h'
  have b := q_lt (x := x') (x' := x) h' h
  constructor
  · intro e
    have a1 : ¬ x * w' < x' * w := fun q => by have := a.mpr q; grind
    have b1 : ¬ x' * w < x * w' := fun q => by have := b.mpr q; grind
    omega
  · intro e
    have a1 : ¬ (x : Rat) / (w : Rat) < (x' : Rat) / (w' : Rat) := fun q => by have := a.mp q; omega
    have b1 : ¬ (x' : Rat) / (w' : Rat) < (x : Rat) / (w : Rat) := fun q => by have := b.mp q; omega
    grind
theorem P2_lx {x y w x' y' w' : Int} (h : 0 < w) (h' : 0 < w') : lx (P2 x y w) (P2 x' y' w') ↔ (x * w' < x' * w ∨ (x * w' = x' * w ∧ y * w' < y' * w)) := by
  unfold lx P2
  rw [q_lt h h', q_eq h h', q_lt h h']
theorem P2_eq {x y w x' y' w' : Int} (h : 0 < w) (h' : 0 < w') : P2 x y w = P2 x' y' w' ↔ (x * w' = x' * w ∧ y * w' = y' * w) := by
  unfold P2
  rw [Prod.ext_iff]
  show (x : Rat) / (w : Rat) = (x' : Rat) / (w' : Rat) ∧ (y : Rat) / (w : Rat) = (y' : Rat) / (w' : Rat) ↔ _
  rw [q_eq h h', q_eq h h']
def D3 (x1 y1 w1 x2 y2 w2 x3 y3 w3 : Int) : Int := x1 * (y2 * w3 - w2 * y3) - y1 * (x2 * w3 - w2 * x3) + w1 * (x2 * y3 - y2 * x3)
theorem P2_D {x1 y1 w1 x2 y2 w2 x3 y3 w3 : Int} (h1 : 0 < w1) (h2 : 0 < w2) (h3 : 0 < w3) : ((D3 x1 y1 w1 x2 y2 w2 x3 y3 w3 : Int) : Rat) = ((w1 : Rat) * (w2 : Rat) * (w3 : Rat)) * cr (P2 x1 y1 w1) (P2 x2 y2 w2) (P2 x3 y3 w3) := by
  unfold D3 P2 cr xp sb
  have a1 := q_mul (x := x1) h1
  have a2 := q_mul (x := y1) h1
  have b1 := q_mul (x := x2) h2
  have b2 := q_mul (x := y2) h2
  have c1 := q_mul (x := x3) h3
  have c2 := q_mul (x := y3) h3
  push_cast
  generalize (x1 : Rat) / (w1 : Rat) = X1 at *
  generalize (y1 : Rat) / (w1 : Rat) = Y1 at *
  generalize (x2 : Rat) / (w2 : Rat) = X2 at *
  generalize (y2 : Rat) / (w2 : Rat) = Y2 at *
  generalize (x3 : Rat) / (w3 : Rat) = X3 at *
  generalize (y3 : Rat) / (w3 : Rat) = Y3 at *
  rw [← a1, ← a2, ← b1, ← b2, ← c1, ← c2]
  grind
theorem P2_pos {x1 y1 w1 x2 y2 w2 x3 y3 w3 : Int} (h1 : 0 < w1) (h2 : 0 < w2) (h3 : 0 < w3) : 0 < D3 x1 y1 w1 x2 y2 w2 x3 y3 w3 ↔ 0 < cr (P2 x1 y1 w1) (P2 x2 y2 w2) (P2 x3 y3 w3) := by
  have e := P2_D (x1 := x1) (y1 := y1) (x2 := x2) (y2 := y2) (x3 := x3) (y3 := y3) h1 h2 h3
  have pw := r_pp (r_pp (c_pos h1) (c_pos h2)) (c_pos h3)
  constructor
  · intro h
    refine r_pos' pw ?_
    rw [← e]; exact_mod_cast h
  · intro h
    have := r_pp pw h
    rw [← e] at this
    exact_mod_cast this
theorem D3_sw (x1 y1 w1 x2 y2 w2 x3 y3 w3 : Int) : D3 x1 y1 w1 x3 y3 w3 x2 y2 w2 = - D3 x1 y1 w1 x2 y2 w2 x3 y3 w3 := by unfold D3; grind
theorem P2_neg {x1 y1 w1 x2 y2 w2 x3 y3 w3 : Int} (h1 : 0 < w1) (h2 : 0 < w2) (h3 : 0 < w3) : D3 x1 y1 w1 x2 y2 w2 x3 y3 w3 < 0 ↔ cr (P2 x1 y1 w1) (P2 x2 y2 w2) (P2 x3 y3 w3) < 0 := by
  have a := P2_pos (x1 := x1) (y1 := y1) (x2 := x3) (y2 := y3) (x3 := x2) (y3 := y2) h1 h3 h2
  rw [D3_sw, cr_sw] at a
  constructor
  · intro h; have := a.mp (by omega); grind
  · intro h; have := a.mpr (by grind); omega
theorem P2_zero {x1 y1 w1 x2 y2 w2 x3 y3 w3 : Int} (h1 : 0 < w1) (h2 : 0 < w2) (h3 : 0 < w3) : D3 x1 y1 w1 x2 y2 w2 x3 y3 w3 = 0 ↔ cr (P2 x1 y1 w1) (P2 x2 y2 w2) (P2 x3 y3 w3) = 0 := by
  have a := P2_pos (x1 := x1) (y1 := y1) (x2 := x2) (y2 := y2) (x3 := x3) (y3 := y3) h1 h2 h3
  have b := P2_neg (x1 := x1) (y1 := y1) (x2 := x2) (y2 := y2) (x3 := x3) (y3 := y3) h1 h2 h3
  constructor
  · intro h
    have a1 : ¬ 0 < cr (P2 x1 y1 w1) (P2 x2 y2 w2) (P2 x3 y3 w3) := fun q => by have := a.mpr q; omega
    have b1 : ¬ cr (P2 x1 y1 w1) (P2 x2 y2 w2) (P2 x3 y3 w3) < 0 := fun q => by have := b.mpr q; omega
    grind
  · intro h
    have a1 : ¬ 0 < D3 x1 y1 w1 x2 y2 w2 x3 y3 w3 := fun q => by have := a.mp q; grind
    have b1 : ¬ D3 x1 y1 w1 x2 y2 w2 x3 y3 w3 < 0 := fun q => by have := b.mp q; grind
    omega
theorem P2_nn {x1 y1 w1 x2 y2 w2 x3 y3 w3 : Int} (h1 : 0 < w1) (h2 : 0 < w2) (h3 : 0 < w3) : 0 ≤ D3 x1 y1 w1 x2 y2 w2 x3 y3 w3 ↔ 0 ≤ cr (P2 x1 y1 w1) (P2 x2 y2 w2) (P2 x3 y3 w3) := by
  have b := P2_neg (x1 := x1) (y1 := y1) (x2 := x2) (y2 := y2) (x3 := x3) (y3 := y3) h1 h2 h3
  constructor
  · intro h
    have : ¬ cr (P2 x1 y1 w1) (P2 x2 y2 w2) (P2 x3 y3 w3) < 0 := fun q => by have := b.mpr q; omega
    grind
  · intro h
    have : ¬ D3 x1 y1 w1 x2 y2 w2 x3 y3 w3 < 0 := fun q => by have := b.mp q; grind
    omega
/-- how one place stands to another: -1 before, 0 at, 1 behind -/
def sd (x y w px py pw : Int) : Int := if x * pw < px * w then -1 else if px * w < x * pw then 1 else if y * pw < py * w then -1 else if py * w < y * pw then 1 else 0
theorem sd_rng (x y w px py pw : Int) : -1 ≤ sd x y w px py pw ∧ sd x y w px py pw ≤ 1 := by
  unfold sd; (repeat' split) <;> omega
theorem sd_neg {x y w px py pw : Int} (h : 0 < w) (h' : 0 < pw) : sd x y w px py pw < 0 ↔ lx (P2 x y w) (P2 px py pw) := by
  rw [P2_lx h h']; unfold sd; (repeat' split) <;> omega
theorem sd_pos {x y w px py pw : Int} (h : 0 < w) (h' : 0 < pw) : 0 < sd x y w px py pw ↔ lx (P2 px py pw) (P2 x y w) := by
  rw [P2_lx h' h]; unfold sd; (repeat' split) <;> omega
theorem sd_zero {x y w px py pw : Int} (h : 0 < w) (h' : 0 < pw) : sd x y w px py pw = 0 ↔ P2 x y w = P2 px py pw := by
  rw [P2_eq h h']; unfold sd; (repeat' split) <;> omega
end
section
/-! ===== outlines in the memory ===== -/
def BP (x y w : Int) : Prop := (-50000 ≤ x ∧ x ≤ 50000) ∧ (-50000 ≤ y ∧ y ≤ 50000) ∧ 0 < w ∧ w ≤ 5000
def BD (X Y W : Int → Int) (n : Int) : Prop := ∀ j, 0 ≤ j → j < n → BP (X j) (Y j) (W j)
def pl (X Y W : Int → Int) : Nat → pt := fun i => P2 (X i) (Y i) (W i)
def cn (X Y W R : Int → Int) : Nat → pt := fun i => P2 (X (R i)) (Y (R i)) (W (R i))
def sg (x y : Int) : Int := if x < y then -1 else if x = y then 0 else 1
theorem sg_rng (x y : Int) : -1 ≤ sg x y ∧ sg x y ≤ 1 := by unfold sg; (repeat' split) <;> omega
theorem sd_sg (x y w px py pw : Int) : sd x y w px py pw = if sg (x * pw) (px * w) = 0 then sg (y * pw) (py * w) else sg (x * pw) (px * w) := by
  unfold sd sg; (repeat' split) <;> omega
noncomputable def b01 (P : Prop) : Int := @ite Int P (Classical.propDecidable P) 1 0
theorem b01_t {P : Prop} (h : P) : b01 P = 1 := by unfold b01; exact if_pos h
theorem b01_f {P : Prop} (h : ¬ P) : b01 P = 0 := by unfold b01; exact if_neg h
theorem b01_rng (P : Prop) : b01 P = 0 ∨ b01 P = 1 := by
  by_cases h : P
  · exact Or.inr (b01_t h)
  · exact Or.inl (b01_f h)
theorem b01_iff {P Q : Prop} (h : P ↔ Q) : b01 P = b01 Q := by rw [propext h]
theorem b01_ne {P : Prop} (h : ¬ b01 P = 0) : P := Classical.byContradiction fun q => h (b01_f q)
theorem b01_eq {P : Prop} (h : b01 P = 0) : ¬ P := fun q => by rw [b01_t q] at h; omega
/-- places listed by the order, each once; the corners round them -/
def OE (X Y W : Int → Int) (n : Int) (S : pt → Prop) : Prop := 0 ≤ n ∧ BD X Y W n ∧ Enum lx S n.toNat (pl X Y W)
def OO (X Y W R : Int → Int) (n h : Int) (S : pt → Prop) : Prop := OE X Y W n S ∧ 0 ≤ h ∧ (n = 0 → h = 0) ∧ (∀ i, 0 ≤ i → i < h → 0 ≤ R i ∧ R i < n) ∧ (0 < n → Hull S h.toNat (cn X Y W R))
theorem OE_in {X Y W : Int → Int} {n : Int} {S : pt → Prop} (h : OE X Y W n S) {j : Int} (h0 : 0 ≤ j) (h1 : j < n) : S (P2 (X j) (Y j) (W j)) := by
  refine (h.2.2.2 _).mpr ⟨j.toNat, by omega, ?_⟩
  unfold pl
  rw [show ((j.toNat : Nat) : Int) = j by omega]
theorem OE_lt {X Y W : Int → Int} {n : Int} {S : pt → Prop} (h : OE X Y W n S) {i j : Int} (h0 : 0 ≤ i) (h1 : i < j) (h2 : j < n) : lx (P2 (X i) (Y i) (W i)) (P2 (X j) (Y j) (W j)) := by
  have := h.2.2.1 i.toNat j.toNat (by omega) (by omega)
  unfold pl at this
  rwa [show ((i.toNat : Nat) : Int) = i by omega, show ((j.toNat : Nat) : Int) = j by omega] at this
theorem OE_ins {X Y W X' Y' W' : Int → Int} {n : Int} {S : pt → Prop} (h : OE X Y W n S) {px py pw : Int} (hp : BP px py pw) {s : Int} (s0 : 0 ≤ s) (s1 : s ≤ n)
    (a1 : ∀ j, 0 ≤ j → j < s → lx (P2 (X j) (Y j) (W j)) (P2 px py pw)) (a2 : ∀ j, s ≤ j → j < n → lx (P2 px py pw) (P2 (X j) (Y j) (W j)))
    (b1 : ∀ j, 0 ≤ j → j < s → X' j = X j ∧ Y' j = Y j ∧ W' j = W j) (b2 : X' s = px ∧ Y' s = py ∧ W' s = pw) (b3 : ∀ j, s ≤ j → j < n → X' (j + 1) = X j ∧ Y' (j + 1) = Y j ∧ W' (j + 1) = W j) :
    OE X' Y' W' (n + 1) (fun q => S q ∨ q = P2 px py pw) := by
  obtain ⟨h1, h2, h3⟩ := h
  refine ⟨by omega, fun j hj hj2 => ?_, ?_⟩
  · rcases Int.lt_trichotomy j s with c | c | c
    · obtain ⟨e1, e2, e3⟩ := b1 j hj c
      rw [e1, e2, e3]; exact h2 j hj (by omega)
    · rw [c, b2.1, b2.2.1, b2.2.2]; exact hp
    · obtain ⟨e1, e2, e3⟩ := b3 (j - 1) (by omega) (by omega)
      rw [show j - 1 + 1 = j by omega] at e1 e2 e3
      rw [e1, e2, e3]; exact h2 (j - 1) (by omega) (by omega)
  · rw [show (n + 1).toNat = n.toNat + 1 by omega]
    refine Enum_ins (s := s.toNat) h3 (by omega) (fun i hi => ?_) (fun i hi hi2 => ?_) (fun i hi => ?_) ?_ (fun i hi hi2 => ?_)
    · exact a1 i (by omega) (by omega)
    · exact a2 i (by omega) (by omega)
    · obtain ⟨e1, e2, e3⟩ := b1 i (by omega) (by omega)
      unfold pl; rw [e1, e2, e3]
    · unfold pl; rw [show ((s.toNat : Nat) : Int) = s by omega, b2.1, b2.2.1, b2.2.2]
    · obtain ⟨e1, e2, e3⟩ := b3 i (by omega) (by omega)
      unfold pl
      rw [show (((i + 1 : Nat)) : Int) = (i : Int) + 1 by omega, e1, e2, e3]
theorem OE_had {X Y W : Int → Int} {n : Int} {S : pt → Prop} (h : OE X Y W n S) {p : pt} (hp : S p) : OE X Y W n (fun q => S q ∨ q = p) := by
  have : (fun q => S q ∨ q = p) = S := by
    funext q
    apply propext
    exact ⟨fun hq => by rcases hq with hq | rfl; exact hq; exact hp, Or.inl⟩
  rw [this]; exact h
theorem OE_congr {X Y W X' Y' W' : Int → Int} {n : Int} {S : pt → Prop} (h : OE X Y W n S) (e : ∀ j, 0 ≤ j → j < n → X' j = X j ∧ Y' j = Y j ∧ W' j = W j) : OE X' Y' W' n S := by
  obtain ⟨h1, h2, h3, h4⟩ := h
  have ep : ∀ i : Nat, i < n.toNat → pl X' Y' W' i = pl X Y W i := fun i hi => by
    obtain ⟨e1, e2, e3⟩ := e i (by omega) (by omega)
    unfold pl; rw [e1, e2, e3]
  refine ⟨h1, fun j hj hj2 => ?_, fun i j hij hj => ?_, fun p => ?_⟩
  · obtain ⟨e1, e2, e3⟩ := e j hj hj2
    rw [e1, e2, e3]; exact h2 j hj hj2
  · rw [ep i (by omega), ep j hj]; exact h3 i j hij hj
  · rw [h4 p]
    constructor
    · rintro ⟨i, hi, e⟩; exact ⟨i, hi, by rw [ep i hi]; exact e⟩
    · rintro ⟨i, hi, e⟩; exact ⟨i, hi, by rw [← ep i hi]; exact e⟩
theorem OE_nil (X Y W : Int → Int) : OE X Y W 0 (fun _ => False) :=
  ⟨Int.le_refl _, fun j h0 h1 => by omega, fun i j _ hj => by simp at hj, fun p => ⟨fun h => h.elim, fun ⟨i, hi, _⟩ => by simp at hi⟩⟩
end
section
/-! ===== sets of walls as numbers (fa_, nx_, s_l rows: begun from kit/laws) ===== -/
theorem fa_and (a b : Nat) : nI a &&& nI b = nI (a &&& b) := by
  apply Int32.toBitVec_inj.1
  show BitVec.ofNat 32 a &&& BitVec.ofNat 32 b = BitVec.ofNat 32 (a &&& b)
  apply BitVec.eq_of_getLsbD_eq
  intro i hi
  simp [hi]
theorem fa_or (a b : Nat) : nI a ||| nI b = nI (a ||| b) := by
  apply Int32.toBitVec_inj.1
  show BitVec.ofNat 32 a ||| BitVec.ofNat 32 b = BitVec.ofNat 32 (a ||| b)
  apply BitVec.eq_of_getLsbD_eq
  intro i hi
  simp [hi]
theorem nx_xor (a b : Nat) : nI a ^^^ nI b = nI (a ^^^ b) := by
  apply Int32.toBitVec_inj.1
  show BitVec.ofNat 32 a ^^^ BitVec.ofNat 32 b = BitVec.ofNat 32 (a ^^^ b)
  apply BitVec.eq_of_getLsbD_eq
  intro i hi
  simp [hi]
theorem s_l : ∀ n, n < 32 → ((nI n &&& 31).toBitVec.smod 32).toNat = n := by decide +kernel
theorem oI_n (a : Nat) : Int32.ofInt (a : Int) = nI a := Int32.ofInt_eq_ofNat
theorem bi_n_and {a b : Nat} (ha : a < 2 ^ 31) : bi_and (a : Int) (b : Int) = ((a &&& b : Nat) : Int) := by
  unfold bi_and
  rw [oI_n, oI_n, fa_and, nI_toInt]
  exact Nat.lt_of_le_of_lt Nat.and_le_left ha
theorem bi_n_or {a b : Nat} (ha : a < 2 ^ 31) (hb : b < 2 ^ 31) : bi_or (a : Int) (b : Int) = ((a ||| b : Nat) : Int) := by
  unfold bi_or
  rw [oI_n, oI_n, fa_or, nI_toInt]
  exact Nat.or_lt_two_pow ha hb
theorem bi_n_xor {a b : Nat} (ha : a < 2 ^ 31) (hb : b < 2 ^ 31) : bi_xor (a : Int) (b : Int) = ((a ^^^ b : Nat) : Int) := by
  unfold bi_xor
  rw [oI_n, oI_n, nx_xor, nI_toInt]
  exact Nat.xor_lt_two_pow ha hb
theorem bi_n_shl {a k : Nat} (hk : k < 31) (ha : a * 2 ^ k < 2 ^ 31) : bi_shl (a : Int) (k : Int) = ((a * 2 ^ k : Nat) : Int) := by
  unfold bi_shl
  rw [oI_n, oI_n, pk_shlN (nI k &&& 31) k (s_l k (by omega)) (by omega), nI_toInt ha]
theorem bi_n_shl1 {k : Nat} (hk : k < 31) : bi_shl 1 (k : Int) = ((2 ^ k : Nat) : Int) := by
  have := bi_n_shl (a := 1) hk (by rw [Nat.one_mul]; exact Nat.pow_lt_pow_right (by omega) hk)
  rw [Nat.one_mul] at this
  exact this
theorem bi_n_shr {a k : Nat} (hk : k < 31) (ha : a < 2 ^ 31) : bi_shr (a : Int) (k : Int) = ((a / 2 ^ k : Nat) : Int) := by
  unfold bi_shr
  rw [oI_n, oI_n, pk_shrN ha (nI k &&& 31) k (s_l k (by omega)), nI_toInt]
  exact Nat.lt_of_le_of_lt (Nat.div_le_self _ _) ha
theorem bi_n_bit {a k : Nat} (hk : k < 31) (ha : a < 2 ^ 31) : bi_and (bi_shr (a : Int) (k : Int)) 1 = if a.testBit k then 1 else 0 := by
  rw [bi_n_shr hk ha]
  have := bi_n_and (a := a / 2 ^ k) (b := 1) (Nat.lt_of_le_of_lt (Nat.div_le_self _ _) ha)
  rw [show ((1 : Nat) : Int) = 1 by rfl] at this
  rw [this, Nat.and_one_is_mod, Nat.testBit_eq_decide_div_mod_eq]
  by_cases h : a / 2 ^ k % 2 = 1
  · simp [h]
  · have : a / 2 ^ k % 2 = 0 := by omega
    simp [this]
theorem bi_n_andn {a b : Nat} (ha : a < 2 ^ 31) : bi_and (a : Int) (bi_xor (b : Int) (-1)) = ((a ^^^ (a &&& b) : Nat) : Int) := by
  unfold bi_and bi_xor
  rw [Int32.ofInt_toInt, oI_n, oI_n]
  have e : nI a &&& (nI b ^^^ Int32.ofInt (-1)) = nI a ^^^ (nI a &&& nI b) := by
    apply Int32.toBitVec_inj.1
    show BitVec.ofNat 32 a &&& (BitVec.ofNat 32 b ^^^ BitVec.ofInt 32 (-1)) = BitVec.ofNat 32 a ^^^ (BitVec.ofNat 32 a &&& BitVec.ofNat 32 b)
    have h1 : BitVec.ofInt 32 (-1) = BitVec.allOnes 32 := by decide
    rw [h1]
    apply BitVec.eq_of_getLsbD_eq
    intro i hi
    rw [BitVec.getLsbD_and, BitVec.getLsbD_xor, BitVec.getLsbD_xor, BitVec.getLsbD_and, BitVec.getLsbD_allOnes]
    generalize (BitVec.ofNat 32 a).getLsbD i = u
    generalize (BitVec.ofNat 32 b).getLsbD i = v
    simp only [hi, decide_true]
    cases u <;> cases v <;> rfl
  rw [e, fa_and, nx_xor, nI_toInt]
  exact Nat.xor_lt_two_pow ha (Nat.lt_of_le_of_lt Nat.and_le_left ha)
theorem tb_andn (a b j : Nat) : (a ^^^ (a &&& b)).testBit j = (a.testBit j && !b.testBit j) := by
  rw [Nat.testBit_xor, Nat.testBit_and]
  cases a.testBit j <;> cases b.testBit j <;> rfl
theorem tb_pow (k j : Nat) : (2 ^ k).testBit j = decide (k = j) := Nat.testBit_two_pow
theorem tb_zero_iff (a : Nat) : a = 0 ↔ ∀ j, a.testBit j = false := by
  constructor
  · rintro rfl j; exact Nat.zero_testBit j
  · intro h
    apply Nat.eq_of_testBit_eq
    intro j
    rw [h j, Nat.zero_testBit]
theorem bi_andn0 {a b : Nat} (ha : a < 2 ^ 31) : bi_and (a : Int) (bi_xor (b : Int) (-1)) = 0 ↔ ∀ j, a.testBit j = true → b.testBit j = true := by
  rw [bi_n_andn ha]
  have : (((a ^^^ (a &&& b) : Nat) : Int) = 0) ↔ (a ^^^ (a &&& b)) = 0 := by omega
  rw [this, tb_zero_iff]
  constructor
  · intro h j hj
    have := h j
    rw [tb_andn, hj] at this
    cases hb : b.testBit j
    · rw [hb] at this; cases this
    · rfl
  · intro h j
    rw [tb_andn]
    cases hj : a.testBit j
    · rfl
    · rw [h j hj]; rfl
theorem bi_and0 {a b : Nat} (ha : a < 2 ^ 31) : bi_and (a : Int) (b : Int) = 0 ↔ ∀ j, ¬ (a.testBit j = true ∧ b.testBit j = true) := by
  rw [bi_n_and ha]
  have : (((a &&& b : Nat) : Int) = 0) ↔ (a &&& b) = 0 := by omega
  rw [this, tb_zero_iff]
  constructor
  · intro h j ⟨h1, h2⟩
    have := h j
    rw [Nat.testBit_and, h1, h2] at this
    cases this
  · intro h j
    rw [Nat.testBit_and]
    cases h1 : a.testBit j
    · rfl
    · cases h2 : b.testBit j
      · rfl
      · exact absurd ⟨h1, h2⟩ (h j)
theorem tb_lt {a n j : Nat} (h : a < 2 ^ n) (hj : a.testBit j = true) : j < n := by
  apply Classical.byContradiction
  intro hc
  have := Nat.testBit_lt_two_pow (Nat.lt_of_lt_of_le h (Nat.pow_le_pow_right (by omega) (show n ≤ j by omega)))
  rw [this] at hj
  cases hj
theorem lt_tb {a n : Nat} (h : ∀ j, a.testBit j = true → j < n) : a < 2 ^ n := by
  apply Nat.lt_pow_two_of_testBit
  intro i hi
  cases hb : a.testBit i
  · rfl
  · have := h i hb; omega
/-- how many bits of the first n -/
def popc (a : Nat) : Nat → Nat
  | 0 => 0
  | n + 1 => popc a n + (if a.testBit n then 1 else 0)
end
section
/-! ===== Long.compare, and the outlines: their contracts ===== -/
theorem mb {x y A B : Int} (hx : -A ≤ x ∧ x ≤ A) (hy : -B ≤ y ∧ y ≤ B) : -(A * B) ≤ x * y ∧ x * y ≤ A * B := by
  have h1 : (x * y).natAbs ≤ A.natAbs * B.natAbs := by
    rw [Int.natAbs_mul]; exact Nat.mul_le_mul (by omega) (by omega)
  have h2 : (A * B).natAbs = A.natAbs * B.natAbs := Int.natAbs_mul A B
  have h3 : 0 ≤ A * B := Int.mul_nonneg (by omega) (by omega)
  omega
theorem av_rI {M : av_M} {z z' : Int} (h : z = z') : av_X (some (vI z')) M (some (vI z)) M := ⟨by rw [h], rfl⟩
theorem av_rL {M : av_M} {z z' : Int} (h : z = z') : av_X (some (vL z')) M (some (vL z)) M := ⟨by rw [h], rfl⟩
set_option maxRecDepth 100000 in
set_option maxHeartbeats 800000 in
theorem c_J_compare (E : av_E) (d : Nat) (M : av_M) (x y : Int) (hx : -9223372036854775808 ≤ x ∧ x < 9223372036854775808) (hy : -9223372036854775808 ≤ y ∧ y < 9223372036854775808) : av_Mt E d mJ13_compare_74951 [vL x, vL y] M (av_X (some (vI (sg x y))) M) := by
  refine av_enter hJ13_compare_74951 oJ13_compare_74951 rfl rfl ?_
  refine ax_lloadn rfl rfl ?_
  refine ax_lloadn rfl rfl ?_
  refine ax_lif_ge rfl rfl (by omega) (by omega) (fun h2 => ?_) (fun h2 => ?_)
  · refine ax_lloadn rfl rfl ?_
    refine ax_lloadn rfl rfl ?_
    refine ax_lif_ne rfl rfl (by omega) (by omega) (fun h12 => ?_) (fun h12 => ?_)
    · refine ax_iconst rfl ?_
      refine ax_iret rfl rfl ?_
      exact av_rI (by unfold sg; (repeat' split) <;> omega)
    · refine ax_iconst rfl ?_
      refine ax_goto rfl ?_
      refine ax_iret rfl rfl ?_
      exact av_rI (by unfold sg; (repeat' split) <;> omega)
  · refine ax_iconst rfl ?_
    refine ax_goto rfl ?_
    refine ax_iret rfl rfl ?_
    exact av_rI (by unfold sg; (repeat' split) <;> omega)
set_option maxRecDepth 100000 in
set_option maxHeartbeats 800000 in
theorem c_H_side (E : av_E) (d : Nat) (M : av_M) (i px py pw : Int) (hi : 0 ≤ i ∧ i < 12) (hb : BP (M 5 i) (M 6 i) (M 7 i)) (hp : BP px py pw) : av_Mt E (d + 1) mX4_side [vR 4, vI i, vI px, vI py, vI pw] M (av_X (some (vI (sd (M 5 i) (M 6 i) (M 7 i) px py pw))) M) := by
  obtain ⟨x0, y0, w0, w1⟩ := hb
  obtain ⟨px0, py0, pw0, pw1⟩ := hp
  have q1 := mb (A := 50000) (B := 5000) x0 (show -5000 ≤ pw ∧ pw ≤ 5000 by omega)
  have q2 := mb (A := 50000) (B := 5000) px0 (show -5000 ≤ M 7 i ∧ M 7 i ≤ 5000 by omega)
  have q3 := mb (A := 50000) (B := 5000) y0 (show -5000 ≤ pw ∧ pw ≤ 5000 by omega)
  have q4 := mb (A := 50000) (B := 5000) py0 (show -5000 ≤ M 7 i ∧ M 7 i ≤ 5000 by omega)
  have g1 := sg_rng (M 5 i * pw) (px * M 7 i)
  have g2 := sg_rng (M 6 i * pw) (py * M 7 i)
  refine av_enter hX4_side oX4_side rfl rfl ?_
  refine ax_aloadn rfl rfl ?_
  refine ax_getR rfl fX4_7 rfl rfl ?_
  refine ax_iloadn rfl rfl ?_
  refine ax_iald rfl rfl (by omega) ?_
  refine ax_i2l rfl (by omega) ?_
  refine ax_iload rfl rfl ?_
  refine ax_i2l rfl (by omega) ?_
  refine ax_lmul rfl ?_
  refine ax_iloadn rfl rfl ?_
  refine ax_i2l rfl (by omega) ?_
  refine ax_aloadn rfl rfl ?_
  refine ax_getR rfl fX4_16 rfl rfl ?_
  refine ax_iloadn rfl rfl ?_
  refine ax_iald rfl rfl (by omega) ?_
  refine ax_i2l rfl (by omega) ?_
  refine ax_lmul rfl ?_
  refine ax_callS (as := [_, _]) rfl sX4_30 hJ13_compare_74951 rfl rfl rfl rfl (c_J_compare E d M _ _ (by omega) (by omega)) (av_Xk ?_)
  refine ax_istore (ls' := [(0, _), (1, _), (2, _), (3, _), (4, _), (5, _)]) rfl rfl rfl ?_
  refine ax_iload rfl rfl ?_
  refine ax_if_eq rfl (by omega) (fun h28 => ?_) (fun h28 => ?_)
  · refine ax_aloadn rfl rfl ?_
    refine ax_getR rfl fX4_13 rfl rfl ?_
    refine ax_iloadn rfl rfl ?_
    refine ax_iald rfl rfl (by omega) ?_
    refine ax_i2l rfl (by omega) ?_
    refine ax_iload rfl rfl ?_
    refine ax_i2l rfl (by omega) ?_
    refine ax_lmul rfl ?_
    refine ax_iloadn rfl rfl ?_
    refine ax_i2l rfl (by omega) ?_
    refine ax_aloadn rfl rfl ?_
    refine ax_getR rfl fX4_16 rfl rfl ?_
    refine ax_iloadn rfl rfl ?_
    refine ax_iald rfl rfl (by omega) ?_
    refine ax_i2l rfl (by omega) ?_
    refine ax_lmul rfl ?_
    refine ax_callS (as := [_, _]) rfl sX4_30 hJ13_compare_74951 rfl rfl rfl rfl (c_J_compare E d M _ _ (by omega) (by omega)) (av_Xk ?_)
    refine ax_iret rfl rfl ?_
    exact av_rI (by rw [sd_sg]; split <;> omega)
  · refine ax_iload rfl rfl ?_
    refine ax_goto rfl ?_
    refine ax_iret rfl rfl ?_
    exact av_rI (by rw [sd_sg]; split <;> omega)
set_option maxRecDepth 100000 in
set_option maxHeartbeats 800000 in
theorem c_H_turn (E : av_E) (d : Nat) (M : av_M) (i j px py pw : Int) (hi : 0 ≤ i ∧ i < 12) (hj : 0 ≤ j ∧ j < 12) (hb : BP (M 5 i) (M 6 i) (M 7 i)) (hb2 : BP (M 5 j) (M 6 j) (M 7 j)) (hp : BP px py pw ∨ (px = 0 ∧ py = 0 ∧ pw = 1)) : av_Mt E d mX4_turn [vR 4, vI i, vI j, vI px, vI py, vI pw] M (av_X (some (vL (D3 (M 5 i) (M 6 i) (M 7 i) (M 5 j) (M 6 j) (M 7 j) px py pw))) M) := by
  obtain ⟨x0, y0, w0, w1⟩ := hb
  obtain ⟨x2, y2, w2, w3⟩ := hb2
  have hp' : (-50000 ≤ px ∧ px ≤ 50000) ∧ (-50000 ≤ py ∧ py ≤ 50000) ∧ 0 < pw ∧ pw ≤ 5000 := by
    rcases hp with hp | hp
    · exact hp
    · omega
  obtain ⟨px0, py0, pw0, pw1⟩ := hp'
  refine av_enter hX4_turn oX4_turn rfl rfl ?_
  refine ax_aloadn rfl rfl ?_
  refine ax_getR rfl fX4_13 rfl rfl ?_
  refine ax_iloadn rfl rfl ?_
  refine ax_iald rfl rfl (by omega) ?_
  refine ax_i2l rfl (by omega) ?_
  refine ax_iload rfl rfl ?_
  refine ax_i2l rfl (by omega) ?_
  refine ax_lmul rfl ?_
  refine ax_aloadn rfl rfl ?_
  refine ax_getR rfl fX4_16 rfl rfl ?_
  refine ax_iloadn rfl rfl ?_
  refine ax_iald rfl rfl (by omega) ?_
  refine ax_i2l rfl (by omega) ?_
  refine ax_iload rfl rfl ?_
  refine ax_i2l rfl (by omega) ?_
  refine ax_lmul rfl ?_
  refine ax_lsub rfl ?_
  refine ax_lstore (ls' := [(0, _), (1, _), (2, _), (3, _), (4, _), (5, _), (6, _)]) rfl rfl rfl ?_
  refine ax_aloadn rfl rfl ?_
  refine ax_getR rfl fX4_7 rfl rfl ?_
  refine ax_iloadn rfl rfl ?_
  refine ax_iald rfl rfl (by omega) ?_
  refine ax_i2l rfl (by omega) ?_
  refine ax_iload rfl rfl ?_
  refine ax_i2l rfl (by omega) ?_
  refine ax_lmul rfl ?_
  refine ax_aloadn rfl rfl ?_
  refine ax_getR rfl fX4_16 rfl rfl ?_
  refine ax_iloadn rfl rfl ?_
  refine ax_iald rfl rfl (by omega) ?_
  refine ax_i2l rfl (by omega) ?_
  refine ax_iloadn rfl rfl ?_
  refine ax_i2l rfl (by omega) ?_
  refine ax_lmul rfl ?_
  refine ax_lsub rfl ?_
  refine ax_lstore (ls' := [(0, _), (1, _), (2, _), (3, _), (4, _), (5, _), (6, _), (8, _)]) rfl rfl rfl ?_
  refine ax_aloadn rfl rfl ?_
  refine ax_getR rfl fX4_7 rfl rfl ?_
  refine ax_iloadn rfl rfl ?_
  refine ax_iald rfl rfl (by omega) ?_
  refine ax_i2l rfl (by omega) ?_
  refine ax_iload rfl rfl ?_
  refine ax_i2l rfl (by omega) ?_
  refine ax_lmul rfl ?_
  refine ax_aloadn rfl rfl ?_
  refine ax_getR rfl fX4_13 rfl rfl ?_
  refine ax_iloadn rfl rfl ?_
  refine ax_iald rfl rfl (by omega) ?_
  refine ax_i2l rfl (by omega) ?_
  refine ax_iloadn rfl rfl ?_
  refine ax_i2l rfl (by omega) ?_
  refine ax_lmul rfl ?_
  refine ax_lsub rfl ?_
  refine ax_lstore (ls' := [(0, _), (1, _), (2, _), (3, _), (4, _), (5, _), (6, _), (8, _), (10, _)]) rfl rfl rfl ?_
  refine ax_aloadn rfl rfl ?_
  refine ax_getR rfl fX4_7 rfl rfl ?_
  refine ax_iloadn rfl rfl ?_
  refine ax_iald rfl rfl (by omega) ?_
  refine ax_i2l rfl (by omega) ?_
  refine ax_lload rfl rfl ?_
  refine ax_lmul rfl ?_
  refine ax_aloadn rfl rfl ?_
  refine ax_getR rfl fX4_13 rfl rfl ?_
  refine ax_iloadn rfl rfl ?_
  refine ax_iald rfl rfl (by omega) ?_
  refine ax_i2l rfl (by omega) ?_
  refine ax_lload rfl rfl ?_
  refine ax_lmul rfl ?_
  refine ax_lsub rfl ?_
  refine ax_aloadn rfl rfl ?_
  refine ax_getR rfl fX4_16 rfl rfl ?_
  refine ax_iloadn rfl rfl ?_
  refine ax_iald rfl rfl (by omega) ?_
  refine ax_i2l rfl (by omega) ?_
  refine ax_lload rfl rfl ?_
  refine ax_lmul rfl ?_
  refine ax_ladd rfl ?_
  refine ax_lret rfl rfl ?_
  exact av_rL rfl
set_option maxRecDepth 100000 in
set_option maxHeartbeats 800000 in
theorem c_H_size (E : av_E) (d : Nat) (M : av_M) : av_Mt E d mX4_size [vR 4] M (av_X (some (vI (M 4 5))) M) := by
  refine av_enter hX4_size oX4_size rfl rfl ?_
  refine ax_aloadn rfl rfl ?_
  refine ax_getI (g := 5) rfl fX4_36 rfl rfl rfl rfl ?_
  refine ax_iret rfl rfl ?_
  exact av_rI rfl
set_option maxRecDepth 100000 in
set_option maxHeartbeats 800000 in
theorem c_H_has (E : av_E) (d : Nat) (M : av_M) (c : Int) (hc : -2147483648 ≤ c ∧ c < 2147483648) (hr : 0 ≤ M 4 5 ∧ M 4 5 ≤ 1000) : av_Mt E d mX4_has [vR 4, vI c] M (av_X (some (vI (b01 (0 ≤ c ∧ c < M 4 5)))) M) := by
  refine av_enter hX4_has oX4_has rfl rfl ?_
  refine ax_iloadn rfl rfl ?_
  refine ax_if_lt rfl (by omega) (fun h1 => ?_) (fun h1 => ?_)
  · refine ax_iconst rfl ?_
    refine ax_zret rfl rfl (by omega) ?_
    first | exact av_rI (b01_t (by omega)).symm | exact av_rI (b01_f (by omega)).symm
  · refine ax_iloadn rfl rfl ?_
    refine ax_aloadn rfl rfl ?_
    refine ax_getI (g := 5) rfl fX4_36 rfl rfl rfl rfl ?_
    refine ax_icmp_ge rfl (by omega) (by omega) (fun h9 => ?_) (fun h9 => ?_)
    · refine ax_iconst rfl ?_
      refine ax_zret rfl rfl (by omega) ?_
      first | exact av_rI (b01_t (by omega)).symm | exact av_rI (b01_f (by omega)).symm
    · refine ax_iconst rfl ?_
      refine ax_goto rfl ?_
      refine ax_zret rfl rfl (by omega) ?_
      first | exact av_rI (b01_t (by omega)).symm | exact av_rI (b01_f (by omega)).symm
set_option maxRecDepth 100000 in
set_option maxHeartbeats 800000 in
theorem c_H_next (E : av_E) (d : Nat) (M : av_M) (c : Int) (hc : 0 ≤ c ∧ c < 1000) (hr : 0 ≤ M 4 5 ∧ M 4 5 ≤ 1000) : av_Mt E d mX4_next [vR 4, vI c] M (av_X (some (vI (if c + 1 < M 4 5 then c + 1 else 0))) M) := by
  refine av_enter hX4_next oX4_next rfl rfl ?_
  refine ax_iloadn rfl rfl ?_
  refine ax_iconst rfl ?_
  refine ax_iadd rfl ?_
  refine ax_aloadn rfl rfl ?_
  refine ax_getI (g := 5) rfl fX4_36 rfl rfl rfl rfl ?_
  refine ax_icmp_ge rfl (by omega) (by omega) (fun h7 => ?_) (fun h7 => ?_)
  · refine ax_iconst rfl ?_
    refine ax_iret rfl rfl ?_
    exact av_rI (by split <;> omega)
  · refine ax_iloadn rfl rfl ?_
    refine ax_iconst rfl ?_
    refine ax_iadd rfl ?_
    refine ax_goto rfl ?_
    refine ax_iret rfl rfl ?_
    exact av_rI (by split <;> omega)
set_option maxRecDepth 100000 in
set_option maxHeartbeats 800000 in
theorem c_H_xOf (E : av_E) (d : Nat) (M : av_M) (c : Int) (hc : 0 ≤ c ∧ c < 14) (hr : 0 ≤ M 8 c ∧ M 8 c < 12) : av_Mt E d mX4_xOf [vR 4, vI c] M (av_X (some (vI (M 5 (M 8 c)))) M) := by
  refine av_enter hX4_xOf oX4_xOf rfl rfl ?_
  refine ax_aloadn rfl rfl ?_
  refine ax_getR rfl fX4_7 rfl rfl ?_
  refine ax_aloadn rfl rfl ?_
  refine ax_getR rfl fX4_19 rfl rfl ?_
  refine ax_iloadn rfl rfl ?_
  refine ax_iald rfl rfl (by omega) ?_
  refine ax_iald rfl rfl (by omega) ?_
  refine ax_iret rfl rfl ?_
  exact av_rI rfl
set_option maxRecDepth 100000 in
set_option maxHeartbeats 800000 in
theorem c_H_yOf (E : av_E) (d : Nat) (M : av_M) (c : Int) (hc : 0 ≤ c ∧ c < 14) (hr : 0 ≤ M 8 c ∧ M 8 c < 12) : av_Mt E d mX4_yOf [vR 4, vI c] M (av_X (some (vI (M 6 (M 8 c)))) M) := by
  refine av_enter hX4_yOf oX4_yOf rfl rfl ?_
  refine ax_aloadn rfl rfl ?_
  refine ax_getR rfl fX4_13 rfl rfl ?_
  refine ax_aloadn rfl rfl ?_
  refine ax_getR rfl fX4_19 rfl rfl ?_
  refine ax_iloadn rfl rfl ?_
  refine ax_iald rfl rfl (by omega) ?_
  refine ax_iald rfl rfl (by omega) ?_
  refine ax_iret rfl rfl ?_
  exact av_rI rfl
set_option maxRecDepth 100000 in
set_option maxHeartbeats 800000 in
theorem c_H_wOf (E : av_E) (d : Nat) (M : av_M) (c : Int) (hc : 0 ≤ c ∧ c < 14) (hr : 0 ≤ M 8 c ∧ M 8 c < 12) : av_Mt E d mX4_wOf [vR 4, vI c] M (av_X (some (vI (M 7 (M 8 c)))) M) := by
  refine av_enter hX4_wOf oX4_wOf rfl rfl ?_
  refine ax_aloadn rfl rfl ?_
  refine ax_getR rfl fX4_16 rfl rfl ?_
  refine ax_aloadn rfl rfl ?_
  refine ax_getR rfl fX4_19 rfl rfl ?_
  refine ax_iloadn rfl rfl ?_
  refine ax_iald rfl rfl (by omega) ?_
  refine ax_iald rfl rfl (by omega) ?_
  refine ax_iret rfl rfl ?_
  exact av_rI rfl
set_option maxRecDepth 100000 in
set_option maxHeartbeats 800000 in
theorem c_H_empty (E : av_E) (d : Nat) (M : av_M) : av_Mt E d mX4_empty [vR 4] M (fun r M' => r = none ∧ M' 4 4 = 0 ∧ (∀ j, j ≠ 4 → M' 4 j = M 4 j) ∧ ∀ k, k ≠ 4 → M' k = M k) := by
  refine av_enter hX4_empty oX4_empty rfl rfl ?_
  refine ax_aloadn rfl rfl ?_
  refine ax_iconst rfl ?_
  refine ax_putI' (g := 4) rfl gX4_22 rfl rfl rfl rfl (fun M2 a2 b2 c2 => ?_)
  refine ax_vret rfl rfl ?_
  exact ⟨rfl, a2, b2, c2⟩
set_option maxRecDepth 100000 in
set_option maxHeartbeats 800000 in
theorem l_H_shift (E : av_E) (d : Nat) (M : av_M) (px py pw s n : Int) (hs : 0 ≤ s ∧ s ≤ n) (hn : n < 12) (v : Int) (Q : Option av_V → av_M → Prop)
    (hx : ∀ M1 : av_M, (∀ j, j ≤ s ∨ n < j → M1 5 j = M 5 j ∧ M1 6 j = M 6 j ∧ M1 7 j = M 7 j) → (∀ j, s < j → j ≤ n → M1 5 j = M 5 (j - 1) ∧ M1 6 j = M 6 (j - 1) ∧ M1 7 j = M 7 (j - 1)) → (∀ k, k ≠ 5 → k ≠ 6 → k ≠ 7 → M1 k = M k) →
      av_S E d mX4_add 142 [(0, vR 4), (1, vI px), (2, vI py), (3, vI pw), (4, vI s), (5, vI v), (6, vI s)] [] M1 Q) :
    ∀ (t : Nat) (M1 : av_M) (i : Int), i = s + t → i ≤ n → (∀ j, j ≤ i ∨ n < j → M1 5 j = M 5 j ∧ M1 6 j = M 6 j ∧ M1 7 j = M 7 j) → (∀ j, i < j → j ≤ n → M1 5 j = M 5 (j - 1) ∧ M1 6 j = M 6 (j - 1) ∧ M1 7 j = M 7 (j - 1)) → (∀ k, k ≠ 5 → k ≠ 6 → k ≠ 7 → M1 k = M k) →
      av_S E d mX4_add 81 [(0, vR 4), (1, vI px), (2, vI py), (3, vI pw), (4, vI s), (5, vI v), (6, vI i)] [] M1 Q := by
  intro t
  induction t with
  | zero =>
    intro M1 i hi hin h1 h2 h3
    have e : i = s := by omega
    subst e
    refine ax_iload rfl rfl ?_
    refine ax_iload rfl rfl ?_
    refine ax_icmp_le rfl (by omega) (by omega) (fun h85 => ?_) (fun h85 => ?_)
    · exact hx M1 h1 h2 h3
    · omega
  | succ t ih =>
    intro M1 i hi hin h1 h2 h3
    refine ax_iload rfl rfl ?_
    refine ax_iload rfl rfl ?_
    refine ax_icmp_le rfl (by omega) (by omega) (fun h85 => ?_) (fun h85 => ?_)
    · omega
    · refine ax_aloadn rfl rfl ?_
      refine ax_getR rfl fX4_7 rfl rfl ?_
      refine ax_iload rfl rfl ?_
      refine ax_aloadn rfl rfl ?_
      refine ax_getR rfl fX4_7 rfl rfl ?_
      refine ax_iload rfl rfl ?_
      refine ax_iconst rfl ?_
      refine ax_isub rfl ?_
      refine ax_iald rfl rfl (by omega) ?_
      refine ax_iast' rfl rfl (by omega) (fun M103 a103 b103 c103 => ?_)
      refine ax_aloadn rfl rfl ?_
      refine ax_getR rfl fX4_13 rfl rfl ?_
      refine ax_iload rfl rfl ?_
      refine ax_aloadn rfl rfl ?_
      refine ax_getR rfl fX4_13 rfl rfl ?_
      refine ax_iload rfl rfl ?_
      refine ax_iconst rfl ?_
      refine ax_isub rfl ?_
      refine ax_iald rfl rfl (by omega) ?_
      refine ax_iast' rfl rfl (by omega) (fun M119 a119 b119 c119 => ?_)
      refine ax_aloadn rfl rfl ?_
      refine ax_getR rfl fX4_16 rfl rfl ?_
      refine ax_iload rfl rfl ?_
      refine ax_aloadn rfl rfl ?_
      refine ax_getR rfl fX4_16 rfl rfl ?_
      refine ax_iload rfl rfl ?_
      refine ax_iconst rfl ?_
      refine ax_isub rfl ?_
      refine ax_iald rfl rfl (by omega) ?_
      refine ax_iast' rfl rfl (by omega) (fun M135 a135 b135 c135 => ?_)
      refine ax_iinc (ls' := [(0, _), (1, _), (2, _), (3, _), (4, _), (5, _), (6, _)]) rfl rfl rfl rfl ?_
      refine ax_goto rfl ?_
      refine ih _ _ (by omega) (by omega) (fun j hj => ?_) (fun j hj hj2 => ?_) (fun k k1 k2 k3 => ?_)
      · have := h1 j (by omega)
        rw [c135 5 (by decide), c135 6 (by decide), c119 5 (by decide), b103 j (by omega), b119 j (by omega), b135 j (by omega), c103 6 (by decide), c119 7 (by decide), c103 7 (by decide)]
        exact this
      · by_cases hji : j = i
        · subst hji
          have e1 := h1 (j - 1) (by omega)
          refine ⟨?_, ?_, ?_⟩
          · rw [c135 5 (by decide), c119 5 (by decide), a103]; exact e1.1
          · rw [c135 6 (by decide), a119, c103 6 (by decide)]; exact e1.2.1
          · rw [a135, c119 7 (by decide), c103 7 (by decide)]; exact e1.2.2
        · have := h2 j (by omega) hj2
          rw [c135 5 (by decide), c135 6 (by decide), c119 5 (by decide), b103 j hji, b119 j hji, b135 j hji, c103 6 (by decide), c119 7 (by decide), c103 7 (by decide)]
          exact this
      · rw [c135 k k3, c119 k k2, c103 k k1]; exact h3 k k1 k2 k3
set_option maxRecDepth 100000 in
set_option maxHeartbeats 800000 in
theorem l_H_add75 (E : av_E) (d : Nat) (M : av_M) (S : pt → Prop) (px py pw s v : Int) (hp : BP px py pw) (hE : OE (M 5) (M 6) (M 7) (M 4 4) S) (hn : M 4 4 < 12) (hs : 0 ≤ s ∧ s ≤ M 4 4)
    (a1 : ∀ j, 0 ≤ j → j < s → lx (P2 (M 5 j) (M 6 j) (M 7 j)) (P2 px py pw)) (a2 : ∀ j, s ≤ j → j < M 4 4 → lx (P2 px py pw) (P2 (M 5 j) (M 6 j) (M 7 j))) :
    av_S E d mX4_add 75 [(0, vR 4), (1, vI px), (2, vI py), (3, vI pw), (4, vI s), (5, vI v)] [] M (fun r M' => r = none ∧ M 4 4 ≤ M' 4 4 ∧ M' 4 4 ≤ M 4 4 + 1 ∧ OE (M' 5) (M' 6) (M' 7) (M' 4 4) (fun q => S q ∨ q = P2 px py pw) ∧ (∀ j, j ≠ 4 → M' 4 j = M 4 j) ∧ (∀ k, k ≠ 4 → k ≠ 5 → k ≠ 6 → k ≠ 7 → M' k = M k) ∧ ∀ T : Int → Int → Int → Prop, (∀ j, 0 ≤ j → j < M 4 4 → T (M 5 j) (M 6 j) (M 7 j)) → T px py pw → ∀ j, 0 ≤ j → j < M' 4 4 → T (M' 5 j) (M' 6 j) (M' 7 j)) := by
  refine ax_aloadn rfl rfl ?_
  refine ax_getI (g := 4) rfl fX4_22 rfl rfl rfl rfl ?_
  refine ax_istore (ls' := [(0, _), (1, _), (2, _), (3, _), (4, _), (5, _), (6, _)]) rfl rfl rfl ?_
  refine l_H_shift E d M px py pw s (M 4 4) hs hn v _ (fun M1 h1 h2 h3 => ?_) (M 4 4 - s).toNat M _ (by omega) (by omega) (fun j _ => ⟨rfl, rfl, rfl⟩) (fun j hj hj2 => by omega) (fun k _ _ _ => rfl)
  refine ax_aloadn rfl rfl ?_
  refine ax_getR rfl fX4_7 rfl rfl ?_
  refine ax_iload rfl rfl ?_
  refine ax_iloadn rfl rfl ?_
  refine ax_iast' rfl rfl (by omega) (fun M149 a149 b149 c149 => ?_)
  refine ax_aloadn rfl rfl ?_
  refine ax_getR rfl fX4_13 rfl rfl ?_
  refine ax_iload rfl rfl ?_
  refine ax_iloadn rfl rfl ?_
  refine ax_iast' rfl rfl (by omega) (fun M157 a157 b157 c157 => ?_)
  refine ax_aloadn rfl rfl ?_
  refine ax_getR rfl fX4_16 rfl rfl ?_
  refine ax_iload rfl rfl ?_
  refine ax_iloadn rfl rfl ?_
  refine ax_iast' rfl rfl (by omega) (fun M165 a165 b165 c165 => ?_)
  refine ax_aloadn rfl rfl ?_
  refine ax_dup rfl rfl ?_
  refine ax_getI (g := 4) rfl fX4_22 rfl rfl rfl rfl ?_
  refine ax_iconst rfl ?_
  refine ax_iadd rfl ?_
  refine ax_putI' (g := 4) rfl gX4_22 rfl rfl rfl rfl (fun M173 a173 b173 c173 => ?_)
  refine ax_vret rfl rfl ?_
  have eX : ∀ j, M173 5 j = if j = s then px else M1 5 j := fun j => by
    rw [c173 5 (by decide), c165 5 (by decide), c157 5 (by decide)]
    split
    · rename_i e; rw [e]; exact a149
    · rename_i e; exact b149 j e
  have eY : ∀ j, M173 6 j = if j = s then py else M1 6 j := fun j => by
    rw [c173 6 (by decide), c165 6 (by decide)]
    split
    · rename_i e; rw [e]; exact a157
    · rename_i e; rw [b157 j e, c149 6 (by decide)]
  have eW : ∀ j, M173 7 j = if j = s then pw else M1 7 j := fun j => by
    rw [c173 7 (by decide)]
    split
    · rename_i e; rw [e]; exact a165
    · rename_i e; rw [b165 j e, c157 7 (by decide), c149 7 (by decide)]
  have e4 : M173 4 4 = M 4 4 + 1 := by
    rw [a173, c165 4 (by decide), c157 4 (by decide), c149 4 (by decide), h3 4 (by decide) (by decide) (by decide)]
  refine ⟨rfl, by omega, by omega, ?_, fun j hj => ?_, fun k k0 k1 k2 k3 => ?_, fun T hT hTp j j0 j1 => ?_⟩
  · rw [e4]
    refine OE_ins hE hp hs.1 hs.2 a1 a2 (fun j j0 j1 => ?_) ?_ (fun j j0 j1 => ?_)
    · rw [eX, eY, eW, if_neg (by omega), if_neg (by omega), if_neg (by omega)]; exact h1 j (by omega)
    · rw [eX, eY, eW, if_pos rfl, if_pos rfl, if_pos rfl]; exact ⟨rfl, rfl, rfl⟩
    · rw [eX, eY, eW, if_neg (by omega), if_neg (by omega), if_neg (by omega)]
      have := h2 (j + 1) (by omega) (by omega)
      rwa [show j + 1 - 1 = j by omega] at this
  · rw [b173 j hj, c165 4 (by decide), c157 4 (by decide), c149 4 (by decide), h3 4 (by decide) (by decide) (by decide)]
  · rw [c173 k k0, c165 k k3, c157 k k2, c149 k k1]; exact h3 k k1 k2 k3
  · rw [eX, eY, eW]
    rcases Int.lt_trichotomy j s with q | q | q
    · rw [if_neg (by omega), if_neg (by omega), if_neg (by omega)]
      have := h1 j (by omega)
      rw [this.1, this.2.1, this.2.2]; exact hT j j0 (by omega)
    · rw [if_pos q, if_pos q, if_pos q]; exact hTp
    · rw [if_neg (by omega), if_neg (by omega), if_neg (by omega)]
      have := h2 j (by omega) (by omega)
      rw [this.1, this.2.1, this.2.2]; exact hT (j - 1) (by omega) (by omega)
set_option maxRecDepth 100000 in
set_option maxHeartbeats 800000 in
theorem l_H_add6 (E : av_E) (d : Nat) (M : av_M) (S : pt → Prop) (px py pw : Int) (hp : BP px py pw) (hE : OE (M 5) (M 6) (M 7) (M 4 4) S) (hn : M 4 4 < 12) :
    ∀ (t : Nat) (s : Int), s = t → s ≤ M 4 4 → (∀ j, s ≤ j → j < M 4 4 → lx (P2 px py pw) (P2 (M 5 j) (M 6 j) (M 7 j))) →
    av_S E (d + 2) mX4_add 6 [(0, vR 4), (1, vI px), (2, vI py), (3, vI pw), (4, vI s)] [] M (fun r M' => r = none ∧ M 4 4 ≤ M' 4 4 ∧ M' 4 4 ≤ M 4 4 + 1 ∧ OE (M' 5) (M' 6) (M' 7) (M' 4 4) (fun q => S q ∨ q = P2 px py pw) ∧ (∀ j, j ≠ 4 → M' 4 j = M 4 j) ∧ (∀ k, k ≠ 4 → k ≠ 5 → k ≠ 6 → k ≠ 7 → M' k = M k) ∧ ∀ T : Int → Int → Int → Prop, (∀ j, 0 ≤ j → j < M 4 4 → T (M 5 j) (M 6 j) (M 7 j)) → T px py pw → ∀ j, 0 ≤ j → j < M' 4 4 → T (M' 5 j) (M' 6 j) (M' 7 j)) := by
  have hBD := hE.2.1
  have hp0 : 0 < pw := hp.2.2.1
  have hw : ∀ j, 0 ≤ j → j < M 4 4 → 0 < M 7 j := fun j h0 h1 => (hBD j h0 h1).2.2.1
  -- behind the search
  have h31 : ∀ s : Int, 0 ≤ s → s ≤ M 4 4 → (∀ j, s ≤ j → j < M 4 4 → lx (P2 px py pw) (P2 (M 5 j) (M 6 j) (M 7 j))) → (0 < s → ¬ lx (P2 px py pw) (P2 (M 5 (s - 1)) (M 6 (s - 1)) (M 7 (s - 1)))) →
      av_S E (d + 2) mX4_add 31 [(0, vR 4), (1, vI px), (2, vI py), (3, vI pw), (4, vI s)] [] M (fun r M' => r = none ∧ M 4 4 ≤ M' 4 4 ∧ M' 4 4 ≤ M 4 4 + 1 ∧ OE (M' 5) (M' 6) (M' 7) (M' 4 4) (fun q => S q ∨ q = P2 px py pw) ∧ (∀ j, j ≠ 4 → M' 4 j = M 4 j) ∧ (∀ k, k ≠ 4 → k ≠ 5 → k ≠ 6 → k ≠ 7 → M' k = M k) ∧ ∀ T : Int → Int → Int → Prop, (∀ j, 0 ≤ j → j < M 4 4 → T (M 5 j) (M 6 j) (M 7 j)) → T px py pw → ∀ j, 0 ≤ j → j < M' 4 4 → T (M' 5 j) (M' 6 j) (M' 7 j)) := by
    intro s s0 s1 a2 hno
    have low : (0 < s → lx (P2 (M 5 (s - 1)) (M 6 (s - 1)) (M 7 (s - 1))) (P2 px py pw)) → ∀ j, 0 ≤ j → j < s → lx (P2 (M 5 j) (M 6 j) (M 7 j)) (P2 px py pw) := by
      intro hl j j0 j1
      by_cases hj : j = s - 1
      · rw [hj]; exact hl (by omega)
      · exact lx_tr (OE_lt hE j0 (show j < s - 1 by omega) (by omega)) (hl (by omega))
    refine ax_iload rfl rfl ?_
    refine ax_if_le rfl (by omega) (fun h33 => ?_) (fun h33 => ?_)
    · refine ax_iconst rfl ?_
      refine ax_istore (ls' := [(0, _), (1, _), (2, _), (3, _), (4, _), (5, _)]) rfl rfl rfl ?_
      refine ax_iload rfl rfl ?_
      refine ax_if_ne rfl (by omega) (fun h59 => ?_) (fun h59 => ?_)
      · refine ax_vret rfl rfl ?_
        first
          | omega
          | exact ⟨rfl, by omega, by omega, OE_had hE (by
              have hz : sd (M 5 (s - 1)) (M 6 (s - 1)) (M 7 (s - 1)) px py pw = 0 := by omega
              rw [← (sd_zero (hw _ (by omega) (by omega)) hp0).mp hz]
              exact OE_in hE (by omega) (by omega)), fun j _ => rfl, fun k _ _ _ _ => rfl, fun T hT _ => hT⟩
      · refine ax_aloadn rfl rfl ?_
        refine ax_getI (g := 4) rfl fX4_22 rfl rfl rfl rfl ?_
        refine ax_aloadn rfl rfl ?_
        refine ax_getR rfl fX4_7 rfl rfl ?_
        refine ax_alen rfl rfl (by decide) ?_
        refine ax_icmp_lt rfl (by omega) (by omega) (fun h71 => ?_) (fun h71 => ?_)
        · exact l_H_add75 E _ M S px py pw s _ hp hE hn ⟨s0, s1⟩ (low (fun h0 => by
            have hz : ¬ sd (M 5 (s - 1)) (M 6 (s - 1)) (M 7 (s - 1)) px py pw = 0 := by first | assumption | omega
            have hq := hno h0
            rw [← sd_pos (hw _ (by omega) (by omega)) hp0] at hq
            rw [← sd_neg (hw _ (by omega) (by omega)) hp0]
            omega)) a2
        · refine ax_vret rfl rfl ?_
          first
            | omega
            | exact ⟨rfl, by omega, by omega, OE_had hE (by
                have hz : sd (M 5 (s - 1)) (M 6 (s - 1)) (M 7 (s - 1)) px py pw = 0 := by omega
                rw [← (sd_zero (hw _ (by omega) (by omega)) hp0).mp hz]
                exact OE_in hE (by omega) (by omega)), fun j _ => rfl, fun k _ _ _ _ => rfl, fun T hT _ => hT⟩
    · refine ax_aloadn rfl rfl ?_
      refine ax_iload rfl rfl ?_
      refine ax_iconst rfl ?_
      refine ax_isub rfl ?_
      refine ax_iloadn rfl rfl ?_
      refine ax_iloadn rfl rfl ?_
      refine ax_iloadn rfl rfl ?_
      refine ax_callV (as := [_, _, _, _]) rfl vX4_26 hX4_side rfl rfl rfl rfl rfl (c_H_side E d M _ px py pw (by omega) (hBD _ (by omega) (by omega)) hp) (av_Xk ?_)
      refine ax_if_ne rfl (by have := sd_rng (M 5 (s - 1)) (M 6 (s - 1)) (M 7 (s - 1)) px py pw; omega) (fun h47 => ?_) (fun h47 => ?_)
      · refine ax_iconst rfl ?_
        refine ax_istore (ls' := [(0, _), (1, _), (2, _), (3, _), (4, _), (5, _)]) rfl rfl rfl ?_
        refine ax_iload rfl rfl ?_
        refine ax_if_ne rfl (by omega) (fun h59 => ?_) (fun h59 => ?_)
        · refine ax_vret rfl rfl ?_
          first
            | omega
            | exact ⟨rfl, by omega, by omega, OE_had hE (by
                have hz : sd (M 5 (s - 1)) (M 6 (s - 1)) (M 7 (s - 1)) px py pw = 0 := by omega
                rw [← (sd_zero (hw _ (by omega) (by omega)) hp0).mp hz]
                exact OE_in hE (by omega) (by omega)), fun j _ => rfl, fun k _ _ _ _ => rfl, fun T hT _ => hT⟩
        · refine ax_aloadn rfl rfl ?_
          refine ax_getI (g := 4) rfl fX4_22 rfl rfl rfl rfl ?_
          refine ax_aloadn rfl rfl ?_
          refine ax_getR rfl fX4_7 rfl rfl ?_
          refine ax_alen rfl rfl (by decide) ?_
          refine ax_icmp_lt rfl (by omega) (by omega) (fun h71 => ?_) (fun h71 => ?_)
          · exact l_H_add75 E _ M S px py pw s _ hp hE hn ⟨s0, s1⟩ (low (fun h0 => by
              have hz : ¬ sd (M 5 (s - 1)) (M 6 (s - 1)) (M 7 (s - 1)) px py pw = 0 := by first | assumption | omega
              have hq := hno h0
              rw [← sd_pos (hw _ (by omega) (by omega)) hp0] at hq
              rw [← sd_neg (hw _ (by omega) (by omega)) hp0]
              omega)) a2
          · refine ax_vret rfl rfl ?_
            first
              | omega
              | exact ⟨rfl, by omega, by omega, OE_had hE (by
                  have hz : sd (M 5 (s - 1)) (M 6 (s - 1)) (M 7 (s - 1)) px py pw = 0 := by omega
                  rw [← (sd_zero (hw _ (by omega) (by omega)) hp0).mp hz]
                  exact OE_in hE (by omega) (by omega)), fun j _ => rfl, fun k _ _ _ _ => rfl, fun T hT _ => hT⟩
      · refine ax_iconst rfl ?_
        refine ax_goto rfl ?_
        refine ax_istore (ls' := [(0, _), (1, _), (2, _), (3, _), (4, _), (5, _)]) rfl rfl rfl ?_
        refine ax_iload rfl rfl ?_
        refine ax_if_ne rfl (by omega) (fun h59 => ?_) (fun h59 => ?_)
        · refine ax_vret rfl rfl ?_
          first
            | omega
            | exact ⟨rfl, by omega, by omega, OE_had hE (by
                have hz : sd (M 5 (s - 1)) (M 6 (s - 1)) (M 7 (s - 1)) px py pw = 0 := by omega
                rw [← (sd_zero (hw _ (by omega) (by omega)) hp0).mp hz]
                exact OE_in hE (by omega) (by omega)), fun j _ => rfl, fun k _ _ _ _ => rfl, fun T hT _ => hT⟩
        · refine ax_aloadn rfl rfl ?_
          refine ax_getI (g := 4) rfl fX4_22 rfl rfl rfl rfl ?_
          refine ax_aloadn rfl rfl ?_
          refine ax_getR rfl fX4_7 rfl rfl ?_
          refine ax_alen rfl rfl (by decide) ?_
          refine ax_icmp_lt rfl (by omega) (by omega) (fun h71 => ?_) (fun h71 => ?_)
          · exact l_H_add75 E _ M S px py pw s _ hp hE hn ⟨s0, s1⟩ (low (fun h0 => by
              have hz : ¬ sd (M 5 (s - 1)) (M 6 (s - 1)) (M 7 (s - 1)) px py pw = 0 := by first | assumption | omega
              have hq := hno h0
              rw [← sd_pos (hw _ (by omega) (by omega)) hp0] at hq
              rw [← sd_neg (hw _ (by omega) (by omega)) hp0]
              omega)) a2
          · refine ax_vret rfl rfl ?_
            first
              | omega
              | exact ⟨rfl, by omega, by omega, OE_had hE (by
                  have hz : sd (M 5 (s - 1)) (M 6 (s - 1)) (M 7 (s - 1)) px py pw = 0 := by omega
                  rw [← (sd_zero (hw _ (by omega) (by omega)) hp0).mp hz]
                  exact OE_in hE (by omega) (by omega)), fun j _ => rfl, fun k _ _ _ _ => rfl, fun T hT _ => hT⟩
  intro t
  induction t with
  | zero =>
    intro s hs hsn a2
    subst hs
    refine ax_iload rfl rfl ?_
    refine ax_if_le rfl (by omega) (fun h8 => ?_) (fun h8 => ?_)
    · exact h31 _ (by omega) (by omega) a2 (fun h => by omega)
    · omega
  | succ t ih =>
    intro s hs hsn a2
    refine ax_iload rfl rfl ?_
    refine ax_if_le rfl (by omega) (fun h8 => ?_) (fun h8 => ?_)
    · exact h31 _ (by omega) (by omega) a2 (fun h => by first | omega | (rw [← sd_pos (hw _ (by omega) (by omega)) hp0]; omega))
    · refine ax_aloadn rfl rfl ?_
      refine ax_iload rfl rfl ?_
      refine ax_iconst rfl ?_
      refine ax_isub rfl ?_
      refine ax_iloadn rfl rfl ?_
      refine ax_iloadn rfl rfl ?_
      refine ax_iloadn rfl rfl ?_
      refine ax_callV (as := [_, _, _, _]) rfl vX4_26 hX4_side rfl rfl rfl rfl rfl (c_H_side E d M _ px py pw (by omega) (hBD _ (by omega) (by omega)) hp) (av_Xk ?_)
      refine ax_if_le rfl (by have := sd_rng (M 5 (s - 1)) (M 6 (s - 1)) (M 7 (s - 1)) px py pw; omega) (fun h22 => ?_) (fun h22 => ?_)
      · exact h31 _ (by omega) (by omega) a2 (fun h => by first | omega | (rw [← sd_pos (hw _ (by omega) (by omega)) hp0]; omega))
      · refine ax_iinc (ls' := [(0, _), (1, _), (2, _), (3, _), (4, _)]) rfl rfl rfl rfl ?_
        refine ax_goto rfl ?_
        refine ih _ (by omega) (by omega) (fun j j0 j1 => ?_)
        by_cases hj : j = s - 1
        · rw [hj, ← sd_pos (hw _ (by omega) (by omega)) hp0]; omega
        · exact a2 j (by omega) j1
set_option maxRecDepth 100000 in
set_option maxHeartbeats 800000 in
theorem c_H_add (E : av_E) (d : Nat) (M : av_M) (S : pt → Prop) (px py pw : Int) (hp : BP px py pw) (hE : OE (M 5) (M 6) (M 7) (M 4 4) S) (hn : M 4 4 < 12) : av_Mt E (d + 2) mX4_add [vR 4, vI px, vI py, vI pw] M (fun r M' => r = none ∧ M 4 4 ≤ M' 4 4 ∧ M' 4 4 ≤ M 4 4 + 1 ∧ OE (M' 5) (M' 6) (M' 7) (M' 4 4) (fun q => S q ∨ q = P2 px py pw) ∧ (∀ j, j ≠ 4 → M' 4 j = M 4 j) ∧ (∀ k, k ≠ 4 → k ≠ 5 → k ≠ 6 → k ≠ 7 → M' k = M k) ∧ ∀ T : Int → Int → Int → Prop, (∀ j, 0 ≤ j → j < M 4 4 → T (M 5 j) (M 6 j) (M 7 j)) → T px py pw → ∀ j, 0 ≤ j → j < M' 4 4 → T (M' 5 j) (M' 6 j) (M' 7 j)) := by
  have h0 := hE.1
  refine av_enter hX4_add oX4_add rfl rfl ?_
  refine ax_aloadn rfl rfl ?_
  refine ax_getI (g := 4) rfl fX4_22 rfl rfl rfl rfl ?_
  refine ax_istore (ls' := [(0, _), (1, _), (2, _), (3, _), (4, _)]) rfl rfl rfl ?_
  exact l_H_add6 E d M S px py pw hp hE hn (M 4 4).toNat _ (by omega) (by omega) (fun j j0 j1 => by omega)
set_option maxRecDepth 100000 in
set_option maxHeartbeats 800000 in
theorem c_O_side (E : av_E) (d : Nat) (M : av_M) (i px py pw : Int) (hi : 0 ≤ i ∧ i < 120) (hb : BP (M 29 i) (M 30 i) (M 31 i)) (hp : BP px py pw) : av_Mt E (d + 1) mX4_side [vR 28, vI i, vI px, vI py, vI pw] M (av_X (some (vI (sd (M 29 i) (M 30 i) (M 31 i) px py pw))) M) := by
  obtain ⟨x0, y0, w0, w1⟩ := hb
  obtain ⟨px0, py0, pw0, pw1⟩ := hp
  have q1 := mb (A := 50000) (B := 5000) x0 (show -5000 ≤ pw ∧ pw ≤ 5000 by omega)
  have q2 := mb (A := 50000) (B := 5000) px0 (show -5000 ≤ M 31 i ∧ M 31 i ≤ 5000 by omega)
  have q3 := mb (A := 50000) (B := 5000) y0 (show -5000 ≤ pw ∧ pw ≤ 5000 by omega)
  have q4 := mb (A := 50000) (B := 5000) py0 (show -5000 ≤ M 31 i ∧ M 31 i ≤ 5000 by omega)
  have g1 := sg_rng (M 29 i * pw) (px * M 31 i)
  have g2 := sg_rng (M 30 i * pw) (py * M 31 i)
  refine av_enter hX4_side oX4_side rfl rfl ?_
  refine ax_aloadn rfl rfl ?_
  refine ax_getR rfl fX4_7 rfl rfl ?_
  refine ax_iloadn rfl rfl ?_
  refine ax_iald rfl rfl (by omega) ?_
  refine ax_i2l rfl (by omega) ?_
  refine ax_iload rfl rfl ?_
  refine ax_i2l rfl (by omega) ?_
  refine ax_lmul rfl ?_
  refine ax_iloadn rfl rfl ?_
  refine ax_i2l rfl (by omega) ?_
  refine ax_aloadn rfl rfl ?_
  refine ax_getR rfl fX4_16 rfl rfl ?_
  refine ax_iloadn rfl rfl ?_
  refine ax_iald rfl rfl (by omega) ?_
  refine ax_i2l rfl (by omega) ?_
  refine ax_lmul rfl ?_
  refine ax_callS (as := [_, _]) rfl sX4_30 hJ13_compare_74951 rfl rfl rfl rfl (c_J_compare E d M _ _ (by omega) (by omega)) (av_Xk ?_)
  refine ax_istore (ls' := [(0, _), (1, _), (2, _), (3, _), (4, _), (5, _)]) rfl rfl rfl ?_
  refine ax_iload rfl rfl ?_
  refine ax_if_eq rfl (by omega) (fun h28 => ?_) (fun h28 => ?_)
  · refine ax_aloadn rfl rfl ?_
    refine ax_getR rfl fX4_13 rfl rfl ?_
    refine ax_iloadn rfl rfl ?_
    refine ax_iald rfl rfl (by omega) ?_
    refine ax_i2l rfl (by omega) ?_
    refine ax_iload rfl rfl ?_
    refine ax_i2l rfl (by omega) ?_
    refine ax_lmul rfl ?_
    refine ax_iloadn rfl rfl ?_
    refine ax_i2l rfl (by omega) ?_
    refine ax_aloadn rfl rfl ?_
    refine ax_getR rfl fX4_16 rfl rfl ?_
    refine ax_iloadn rfl rfl ?_
    refine ax_iald rfl rfl (by omega) ?_
    refine ax_i2l rfl (by omega) ?_
    refine ax_lmul rfl ?_
    refine ax_callS (as := [_, _]) rfl sX4_30 hJ13_compare_74951 rfl rfl rfl rfl (c_J_compare E d M _ _ (by omega) (by omega)) (av_Xk ?_)
    refine ax_iret rfl rfl ?_
    exact av_rI (by rw [sd_sg]; split <;> omega)
  · refine ax_iload rfl rfl ?_
    refine ax_goto rfl ?_
    refine ax_iret rfl rfl ?_
    exact av_rI (by rw [sd_sg]; split <;> omega)
set_option maxRecDepth 100000 in
set_option maxHeartbeats 800000 in
theorem c_O_turn (E : av_E) (d : Nat) (M : av_M) (i j px py pw : Int) (hi : 0 ≤ i ∧ i < 120) (hj : 0 ≤ j ∧ j < 120) (hb : BP (M 29 i) (M 30 i) (M 31 i)) (hb2 : BP (M 29 j) (M 30 j) (M 31 j)) (hp : BP px py pw ∨ (px = 0 ∧ py = 0 ∧ pw = 1)) : av_Mt E d mX4_turn [vR 28, vI i, vI j, vI px, vI py, vI pw] M (av_X (some (vL (D3 (M 29 i) (M 30 i) (M 31 i) (M 29 j) (M 30 j) (M 31 j) px py pw))) M) := by
  obtain ⟨x0, y0, w0, w1⟩ := hb
  obtain ⟨x2, y2, w2, w3⟩ := hb2
  have hp' : (-50000 ≤ px ∧ px ≤ 50000) ∧ (-50000 ≤ py ∧ py ≤ 50000) ∧ 0 < pw ∧ pw ≤ 5000 := by
    rcases hp with hp | hp
    · exact hp
    · omega
  obtain ⟨px0, py0, pw0, pw1⟩ := hp'
  refine av_enter hX4_turn oX4_turn rfl rfl ?_
  refine ax_aloadn rfl rfl ?_
  refine ax_getR rfl fX4_13 rfl rfl ?_
  refine ax_iloadn rfl rfl ?_
  refine ax_iald rfl rfl (by omega) ?_
  refine ax_i2l rfl (by omega) ?_
  refine ax_iload rfl rfl ?_
  refine ax_i2l rfl (by omega) ?_
  refine ax_lmul rfl ?_
  refine ax_aloadn rfl rfl ?_
  refine ax_getR rfl fX4_16 rfl rfl ?_
  refine ax_iloadn rfl rfl ?_
  refine ax_iald rfl rfl (by omega) ?_
  refine ax_i2l rfl (by omega) ?_
  refine ax_iload rfl rfl ?_
  refine ax_i2l rfl (by omega) ?_
  refine ax_lmul rfl ?_
  refine ax_lsub rfl ?_
  refine ax_lstore (ls' := [(0, _), (1, _), (2, _), (3, _), (4, _), (5, _), (6, _)]) rfl rfl rfl ?_
  refine ax_aloadn rfl rfl ?_
  refine ax_getR rfl fX4_7 rfl rfl ?_
  refine ax_iloadn rfl rfl ?_
  refine ax_iald rfl rfl (by omega) ?_
  refine ax_i2l rfl (by omega) ?_
  refine ax_iload rfl rfl ?_
  refine ax_i2l rfl (by omega) ?_
  refine ax_lmul rfl ?_
  refine ax_aloadn rfl rfl ?_
  refine ax_getR rfl fX4_16 rfl rfl ?_
  refine ax_iloadn rfl rfl ?_
  refine ax_iald rfl rfl (by omega) ?_
  refine ax_i2l rfl (by omega) ?_
  refine ax_iloadn rfl rfl ?_
  refine ax_i2l rfl (by omega) ?_
  refine ax_lmul rfl ?_
  refine ax_lsub rfl ?_
  refine ax_lstore (ls' := [(0, _), (1, _), (2, _), (3, _), (4, _), (5, _), (6, _), (8, _)]) rfl rfl rfl ?_
  refine ax_aloadn rfl rfl ?_
  refine ax_getR rfl fX4_7 rfl rfl ?_
  refine ax_iloadn rfl rfl ?_
  refine ax_iald rfl rfl (by omega) ?_
  refine ax_i2l rfl (by omega) ?_
  refine ax_iload rfl rfl ?_
  refine ax_i2l rfl (by omega) ?_
  refine ax_lmul rfl ?_
  refine ax_aloadn rfl rfl ?_
  refine ax_getR rfl fX4_13 rfl rfl ?_
  refine ax_iloadn rfl rfl ?_
  refine ax_iald rfl rfl (by omega) ?_
  refine ax_i2l rfl (by omega) ?_
  refine ax_iloadn rfl rfl ?_
  refine ax_i2l rfl (by omega) ?_
  refine ax_lmul rfl ?_
  refine ax_lsub rfl ?_
  refine ax_lstore (ls' := [(0, _), (1, _), (2, _), (3, _), (4, _), (5, _), (6, _), (8, _), (10, _)]) rfl rfl rfl ?_
  refine ax_aloadn rfl rfl ?_
  refine ax_getR rfl fX4_7 rfl rfl ?_
  refine ax_iloadn rfl rfl ?_
  refine ax_iald rfl rfl (by omega) ?_
  refine ax_i2l rfl (by omega) ?_
  refine ax_lload rfl rfl ?_
  refine ax_lmul rfl ?_
  refine ax_aloadn rfl rfl ?_
  refine ax_getR rfl fX4_13 rfl rfl ?_
  refine ax_iloadn rfl rfl ?_
  refine ax_iald rfl rfl (by omega) ?_
  refine ax_i2l rfl (by omega) ?_
  refine ax_lload rfl rfl ?_
  refine ax_lmul rfl ?_
  refine ax_lsub rfl ?_
  refine ax_aloadn rfl rfl ?_
  refine ax_getR rfl fX4_16 rfl rfl ?_
  refine ax_iloadn rfl rfl ?_
  refine ax_iald rfl rfl (by omega) ?_
  refine ax_i2l rfl (by omega) ?_
  refine ax_lload rfl rfl ?_
  refine ax_lmul rfl ?_
  refine ax_ladd rfl ?_
  refine ax_lret rfl rfl ?_
  exact av_rL rfl
set_option maxRecDepth 100000 in
set_option maxHeartbeats 800000 in
theorem c_O_size (E : av_E) (d : Nat) (M : av_M) : av_Mt E d mX4_size [vR 28] M (av_X (some (vI (M 28 5))) M) := by
  refine av_enter hX4_size oX4_size rfl rfl ?_
  refine ax_aloadn rfl rfl ?_
  refine ax_getI (g := 5) rfl fX4_36 rfl rfl rfl rfl ?_
  refine ax_iret rfl rfl ?_
  exact av_rI rfl
set_option maxRecDepth 100000 in
set_option maxHeartbeats 800000 in
theorem c_O_has (E : av_E) (d : Nat) (M : av_M) (c : Int) (hc : -2147483648 ≤ c ∧ c < 2147483648) (hr : 0 ≤ M 28 5 ∧ M 28 5 ≤ 1000) : av_Mt E d mX4_has [vR 28, vI c] M (av_X (some (vI (b01 (0 ≤ c ∧ c < M 28 5)))) M) := by
  refine av_enter hX4_has oX4_has rfl rfl ?_
  refine ax_iloadn rfl rfl ?_
  refine ax_if_lt rfl (by omega) (fun h1 => ?_) (fun h1 => ?_)
  · refine ax_iconst rfl ?_
    refine ax_zret rfl rfl (by omega) ?_
    first | exact av_rI (b01_t (by omega)).symm | exact av_rI (b01_f (by omega)).symm
  · refine ax_iloadn rfl rfl ?_
    refine ax_aloadn rfl rfl ?_
    refine ax_getI (g := 5) rfl fX4_36 rfl rfl rfl rfl ?_
    refine ax_icmp_ge rfl (by omega) (by omega) (fun h9 => ?_) (fun h9 => ?_)
    · refine ax_iconst rfl ?_
      refine ax_zret rfl rfl (by omega) ?_
      first | exact av_rI (b01_t (by omega)).symm | exact av_rI (b01_f (by omega)).symm
    · refine ax_iconst rfl ?_
      refine ax_goto rfl ?_
      refine ax_zret rfl rfl (by omega) ?_
      first | exact av_rI (b01_t (by omega)).symm | exact av_rI (b01_f (by omega)).symm
set_option maxRecDepth 100000 in
set_option maxHeartbeats 800000 in
theorem c_O_next (E : av_E) (d : Nat) (M : av_M) (c : Int) (hc : 0 ≤ c ∧ c < 1000) (hr : 0 ≤ M 28 5 ∧ M 28 5 ≤ 1000) : av_Mt E d mX4_next [vR 28, vI c] M (av_X (some (vI (if c + 1 < M 28 5 then c + 1 else 0))) M) := by
  refine av_enter hX4_next oX4_next rfl rfl ?_
  refine ax_iloadn rfl rfl ?_
  refine ax_iconst rfl ?_
  refine ax_iadd rfl ?_
  refine ax_aloadn rfl rfl ?_
  refine ax_getI (g := 5) rfl fX4_36 rfl rfl rfl rfl ?_
  refine ax_icmp_ge rfl (by omega) (by omega) (fun h7 => ?_) (fun h7 => ?_)
  · refine ax_iconst rfl ?_
    refine ax_iret rfl rfl ?_
    exact av_rI (by split <;> omega)
  · refine ax_iloadn rfl rfl ?_
    refine ax_iconst rfl ?_
    refine ax_iadd rfl ?_
    refine ax_goto rfl ?_
    refine ax_iret rfl rfl ?_
    exact av_rI (by split <;> omega)
set_option maxRecDepth 100000 in
set_option maxHeartbeats 800000 in
theorem c_O_xOf (E : av_E) (d : Nat) (M : av_M) (c : Int) (hc : 0 ≤ c ∧ c < 122) (hr : 0 ≤ M 32 c ∧ M 32 c < 120) : av_Mt E d mX4_xOf [vR 28, vI c] M (av_X (some (vI (M 29 (M 32 c)))) M) := by
  refine av_enter hX4_xOf oX4_xOf rfl rfl ?_
  refine ax_aloadn rfl rfl ?_
  refine ax_getR rfl fX4_7 rfl rfl ?_
  refine ax_aloadn rfl rfl ?_
  refine ax_getR rfl fX4_19 rfl rfl ?_
  refine ax_iloadn rfl rfl ?_
  refine ax_iald rfl rfl (by omega) ?_
  refine ax_iald rfl rfl (by omega) ?_
  refine ax_iret rfl rfl ?_
  exact av_rI rfl
set_option maxRecDepth 100000 in
set_option maxHeartbeats 800000 in
theorem c_O_yOf (E : av_E) (d : Nat) (M : av_M) (c : Int) (hc : 0 ≤ c ∧ c < 122) (hr : 0 ≤ M 32 c ∧ M 32 c < 120) : av_Mt E d mX4_yOf [vR 28, vI c] M (av_X (some (vI (M 30 (M 32 c)))) M) := by
  refine av_enter hX4_yOf oX4_yOf rfl rfl ?_
  refine ax_aloadn rfl rfl ?_
  refine ax_getR rfl fX4_13 rfl rfl ?_
  refine ax_aloadn rfl rfl ?_
  refine ax_getR rfl fX4_19 rfl rfl ?_
  refine ax_iloadn rfl rfl ?_
  refine ax_iald rfl rfl (by omega) ?_
  refine ax_iald rfl rfl (by omega) ?_
  refine ax_iret rfl rfl ?_
  exact av_rI rfl
set_option maxRecDepth 100000 in
set_option maxHeartbeats 800000 in
theorem c_O_wOf (E : av_E) (d : Nat) (M : av_M) (c : Int) (hc : 0 ≤ c ∧ c < 122) (hr : 0 ≤ M 32 c ∧ M 32 c < 120) : av_Mt E d mX4_wOf [vR 28, vI c] M (av_X (some (vI (M 31 (M 32 c)))) M) := by
  refine av_enter hX4_wOf oX4_wOf rfl rfl ?_
  refine ax_aloadn rfl rfl ?_
  refine ax_getR rfl fX4_16 rfl rfl ?_
  refine ax_aloadn rfl rfl ?_
  refine ax_getR rfl fX4_19 rfl rfl ?_
  refine ax_iloadn rfl rfl ?_
  refine ax_iald rfl rfl (by omega) ?_
  refine ax_iald rfl rfl (by omega) ?_
  refine ax_iret rfl rfl ?_
  exact av_rI rfl
set_option maxRecDepth 100000 in
set_option maxHeartbeats 800000 in
theorem c_O_empty (E : av_E) (d : Nat) (M : av_M) : av_Mt E d mX4_empty [vR 28] M (fun r M' => r = none ∧ M' 28 4 = 0 ∧ (∀ j, j ≠ 4 → M' 28 j = M 28 j) ∧ ∀ k, k ≠ 28 → M' k = M k) := by
  refine av_enter hX4_empty oX4_empty rfl rfl ?_
  refine ax_aloadn rfl rfl ?_
  refine ax_iconst rfl ?_
  refine ax_putI' (g := 4) rfl gX4_22 rfl rfl rfl rfl (fun M2 a2 b2 c2 => ?_)
  refine ax_vret rfl rfl ?_
  exact ⟨rfl, a2, b2, c2⟩
set_option maxRecDepth 100000 in
set_option maxHeartbeats 800000 in
theorem l_O_shift (E : av_E) (d : Nat) (M : av_M) (px py pw s n : Int) (hs : 0 ≤ s ∧ s ≤ n) (hn : n < 120) (v : Int) (Q : Option av_V → av_M → Prop)
    (hx : ∀ M1 : av_M, (∀ j, j ≤ s ∨ n < j → M1 29 j = M 29 j ∧ M1 30 j = M 30 j ∧ M1 31 j = M 31 j) → (∀ j, s < j → j ≤ n → M1 29 j = M 29 (j - 1) ∧ M1 30 j = M 30 (j - 1) ∧ M1 31 j = M 31 (j - 1)) → (∀ k, k ≠ 29 → k ≠ 30 → k ≠ 31 → M1 k = M k) →
      av_S E d mX4_add 142 [(0, vR 28), (1, vI px), (2, vI py), (3, vI pw), (4, vI s), (5, vI v), (6, vI s)] [] M1 Q) :
    ∀ (t : Nat) (M1 : av_M) (i : Int), i = s + t → i ≤ n → (∀ j, j ≤ i ∨ n < j → M1 29 j = M 29 j ∧ M1 30 j = M 30 j ∧ M1 31 j = M 31 j) → (∀ j, i < j → j ≤ n → M1 29 j = M 29 (j - 1) ∧ M1 30 j = M 30 (j - 1) ∧ M1 31 j = M 31 (j - 1)) → (∀ k, k ≠ 29 → k ≠ 30 → k ≠ 31 → M1 k = M k) →
      av_S E d mX4_add 81 [(0, vR 28), (1, vI px), (2, vI py), (3, vI pw), (4, vI s), (5, vI v), (6, vI i)] [] M1 Q := by
  intro t
  induction t with
  | zero =>
    intro M1 i hi hin h1 h2 h3
    have e : i = s := by omega
    subst e
    refine ax_iload rfl rfl ?_
    refine ax_iload rfl rfl ?_
    refine ax_icmp_le rfl (by omega) (by omega) (fun h85 => ?_) (fun h85 => ?_)
    · exact hx M1 h1 h2 h3
    · omega
  | succ t ih =>
    intro M1 i hi hin h1 h2 h3
    refine ax_iload rfl rfl ?_
    refine ax_iload rfl rfl ?_
    refine ax_icmp_le rfl (by omega) (by omega) (fun h85 => ?_) (fun h85 => ?_)
    · omega
    · refine ax_aloadn rfl rfl ?_
      refine ax_getR rfl fX4_7 rfl rfl ?_
      refine ax_iload rfl rfl ?_
      refine ax_aloadn rfl rfl ?_
      refine ax_getR rfl fX4_7 rfl rfl ?_
      refine ax_iload rfl rfl ?_
      refine ax_iconst rfl ?_
      refine ax_isub rfl ?_
      refine ax_iald rfl rfl (by omega) ?_
      refine ax_iast' rfl rfl (by omega) (fun M103 a103 b103 c103 => ?_)
      refine ax_aloadn rfl rfl ?_
      refine ax_getR rfl fX4_13 rfl rfl ?_
      refine ax_iload rfl rfl ?_
      refine ax_aloadn rfl rfl ?_
      refine ax_getR rfl fX4_13 rfl rfl ?_
      refine ax_iload rfl rfl ?_
      refine ax_iconst rfl ?_
      refine ax_isub rfl ?_
      refine ax_iald rfl rfl (by omega) ?_
      refine ax_iast' rfl rfl (by omega) (fun M119 a119 b119 c119 => ?_)
      refine ax_aloadn rfl rfl ?_
      refine ax_getR rfl fX4_16 rfl rfl ?_
      refine ax_iload rfl rfl ?_
      refine ax_aloadn rfl rfl ?_
      refine ax_getR rfl fX4_16 rfl rfl ?_
      refine ax_iload rfl rfl ?_
      refine ax_iconst rfl ?_
      refine ax_isub rfl ?_
      refine ax_iald rfl rfl (by omega) ?_
      refine ax_iast' rfl rfl (by omega) (fun M135 a135 b135 c135 => ?_)
      refine ax_iinc (ls' := [(0, _), (1, _), (2, _), (3, _), (4, _), (5, _), (6, _)]) rfl rfl rfl rfl ?_
      refine ax_goto rfl ?_
      refine ih _ _ (by omega) (by omega) (fun j hj => ?_) (fun j hj hj2 => ?_) (fun k k1 k2 k3 => ?_)
      · have := h1 j (by omega)
        rw [c135 29 (by decide), c135 30 (by decide), c119 29 (by decide), b103 j (by omega), b119 j (by omega), b135 j (by omega), c103 30 (by decide), c119 31 (by decide), c103 31 (by decide)]
        exact this
      · by_cases hji : j = i
        · subst hji
          have e1 := h1 (j - 1) (by omega)
          refine ⟨?_, ?_, ?_⟩
          · rw [c135 29 (by decide), c119 29 (by decide), a103]; exact e1.1
          · rw [c135 30 (by decide), a119, c103 30 (by decide)]; exact e1.2.1
          · rw [a135, c119 31 (by decide), c103 31 (by decide)]; exact e1.2.2
        · have := h2 j (by omega) hj2
          rw [c135 29 (by decide), c135 30 (by decide), c119 29 (by decide), b103 j hji, b119 j hji, b135 j hji, c103 30 (by decide), c119 31 (by decide), c103 31 (by decide)]
          exact this
      · rw [c135 k k3, c119 k k2, c103 k k1]; exact h3 k k1 k2 k3
set_option maxRecDepth 100000 in
set_option maxHeartbeats 800000 in
theorem l_O_add75 (E : av_E) (d : Nat) (M : av_M) (S : pt → Prop) (px py pw s v : Int) (hp : BP px py pw) (hE : OE (M 29) (M 30) (M 31) (M 28 4) S) (hn : M 28 4 < 120) (hs : 0 ≤ s ∧ s ≤ M 28 4)
    (a1 : ∀ j, 0 ≤ j → j < s → lx (P2 (M 29 j) (M 30 j) (M 31 j)) (P2 px py pw)) (a2 : ∀ j, s ≤ j → j < M 28 4 → lx (P2 px py pw) (P2 (M 29 j) (M 30 j) (M 31 j))) :
    av_S E d mX4_add 75 [(0, vR 28), (1, vI px), (2, vI py), (3, vI pw), (4, vI s), (5, vI v)] [] M (fun r M' => r = none ∧ M 28 4 ≤ M' 28 4 ∧ M' 28 4 ≤ M 28 4 + 1 ∧ OE (M' 29) (M' 30) (M' 31) (M' 28 4) (fun q => S q ∨ q = P2 px py pw) ∧ (∀ j, j ≠ 4 → M' 28 j = M 28 j) ∧ (∀ k, k ≠ 28 → k ≠ 29 → k ≠ 30 → k ≠ 31 → M' k = M k) ∧ ∀ T : Int → Int → Int → Prop, (∀ j, 0 ≤ j → j < M 28 4 → T (M 29 j) (M 30 j) (M 31 j)) → T px py pw → ∀ j, 0 ≤ j → j < M' 28 4 → T (M' 29 j) (M' 30 j) (M' 31 j)) := by
  refine ax_aloadn rfl rfl ?_
  refine ax_getI (g := 4) rfl fX4_22 rfl rfl rfl rfl ?_
  refine ax_istore (ls' := [(0, _), (1, _), (2, _), (3, _), (4, _), (5, _), (6, _)]) rfl rfl rfl ?_
  refine l_O_shift E d M px py pw s (M 28 4) hs hn v _ (fun M1 h1 h2 h3 => ?_) (M 28 4 - s).toNat M _ (by omega) (by omega) (fun j _ => ⟨rfl, rfl, rfl⟩) (fun j hj hj2 => by omega) (fun k _ _ _ => rfl)
  refine ax_aloadn rfl rfl ?_
  refine ax_getR rfl fX4_7 rfl rfl ?_
  refine ax_iload rfl rfl ?_
  refine ax_iloadn rfl rfl ?_
  refine ax_iast' rfl rfl (by omega) (fun M149 a149 b149 c149 => ?_)
  refine ax_aloadn rfl rfl ?_
  refine ax_getR rfl fX4_13 rfl rfl ?_
  refine ax_iload rfl rfl ?_
  refine ax_iloadn rfl rfl ?_
  refine ax_iast' rfl rfl (by omega) (fun M157 a157 b157 c157 => ?_)
  refine ax_aloadn rfl rfl ?_
  refine ax_getR rfl fX4_16 rfl rfl ?_
  refine ax_iload rfl rfl ?_
  refine ax_iloadn rfl rfl ?_
  refine ax_iast' rfl rfl (by omega) (fun M165 a165 b165 c165 => ?_)
  refine ax_aloadn rfl rfl ?_
  refine ax_dup rfl rfl ?_
  refine ax_getI (g := 4) rfl fX4_22 rfl rfl rfl rfl ?_
  refine ax_iconst rfl ?_
  refine ax_iadd rfl ?_
  refine ax_putI' (g := 4) rfl gX4_22 rfl rfl rfl rfl (fun M173 a173 b173 c173 => ?_)
  refine ax_vret rfl rfl ?_
  have eX : ∀ j, M173 29 j = if j = s then px else M1 29 j := fun j => by
    rw [c173 29 (by decide), c165 29 (by decide), c157 29 (by decide)]
    split
    · rename_i e; rw [e]; exact a149
    · rename_i e; exact b149 j e
  have eY : ∀ j, M173 30 j = if j = s then py else M1 30 j := fun j => by
    rw [c173 30 (by decide), c165 30 (by decide)]
    split
    · rename_i e; rw [e]; exact a157
    · rename_i e; rw [b157 j e, c149 30 (by decide)]
  have eW : ∀ j, M173 31 j = if j = s then pw else M1 31 j := fun j => by
    rw [c173 31 (by decide)]
    split
    · rename_i e; rw [e]; exact a165
    · rename_i e; rw [b165 j e, c157 31 (by decide), c149 31 (by decide)]
  have e4 : M173 28 4 = M 28 4 + 1 := by
    rw [a173, c165 28 (by decide), c157 28 (by decide), c149 28 (by decide), h3 28 (by decide) (by decide) (by decide)]
  refine ⟨rfl, by omega, by omega, ?_, fun j hj => ?_, fun k k0 k1 k2 k3 => ?_, fun T hT hTp j j0 j1 => ?_⟩
  · rw [e4]
    refine OE_ins hE hp hs.1 hs.2 a1 a2 (fun j j0 j1 => ?_) ?_ (fun j j0 j1 => ?_)
    · rw [eX, eY, eW, if_neg (by omega), if_neg (by omega), if_neg (by omega)]; exact h1 j (by omega)
    · rw [eX, eY, eW, if_pos rfl, if_pos rfl, if_pos rfl]; exact ⟨rfl, rfl, rfl⟩
    · rw [eX, eY, eW, if_neg (by omega), if_neg (by omega), if_neg (by omega)]
      have := h2 (j + 1) (by omega) (by omega)
      rwa [show j + 1 - 1 = j by omega] at this
  · rw [b173 j hj, c165 28 (by decide), c157 28 (by decide), c149 28 (by decide), h3 28 (by decide) (by decide) (by decide)]
  · rw [c173 k k0, c165 k k3, c157 k k2, c149 k k1]; exact h3 k k1 k2 k3
  · rw [eX, eY, eW]
    rcases Int.lt_trichotomy j s with q | q | q
    · rw [if_neg (by omega), if_neg (by omega), if_neg (by omega)]
      have := h1 j (by omega)
      rw [this.1, this.2.1, this.2.2]; exact hT j j0 (by omega)
    · rw [if_pos q, if_pos q, if_pos q]; exact hTp
    · rw [if_neg (by omega), if_neg (by omega), if_neg (by omega)]
      have := h2 j (by omega) (by omega)
      rw [this.1, this.2.1, this.2.2]; exact hT (j - 1) (by omega) (by omega)
set_option maxRecDepth 100000 in
set_option maxHeartbeats 800000 in
theorem l_O_add6 (E : av_E) (d : Nat) (M : av_M) (S : pt → Prop) (px py pw : Int) (hp : BP px py pw) (hE : OE (M 29) (M 30) (M 31) (M 28 4) S) (hn : M 28 4 < 120) :
    ∀ (t : Nat) (s : Int), s = t → s ≤ M 28 4 → (∀ j, s ≤ j → j < M 28 4 → lx (P2 px py pw) (P2 (M 29 j) (M 30 j) (M 31 j))) →
    av_S E (d + 2) mX4_add 6 [(0, vR 28), (1, vI px), (2, vI py), (3, vI pw), (4, vI s)] [] M (fun r M' => r = none ∧ M 28 4 ≤ M' 28 4 ∧ M' 28 4 ≤ M 28 4 + 1 ∧ OE (M' 29) (M' 30) (M' 31) (M' 28 4) (fun q => S q ∨ q = P2 px py pw) ∧ (∀ j, j ≠ 4 → M' 28 j = M 28 j) ∧ (∀ k, k ≠ 28 → k ≠ 29 → k ≠ 30 → k ≠ 31 → M' k = M k) ∧ ∀ T : Int → Int → Int → Prop, (∀ j, 0 ≤ j → j < M 28 4 → T (M 29 j) (M 30 j) (M 31 j)) → T px py pw → ∀ j, 0 ≤ j → j < M' 28 4 → T (M' 29 j) (M' 30 j) (M' 31 j)) := by
  have hBD := hE.2.1
  have hp0 : 0 < pw := hp.2.2.1
  have hw : ∀ j, 0 ≤ j → j < M 28 4 → 0 < M 31 j := fun j h0 h1 => (hBD j h0 h1).2.2.1
  -- behind the search
  have h31 : ∀ s : Int, 0 ≤ s → s ≤ M 28 4 → (∀ j, s ≤ j → j < M 28 4 → lx (P2 px py pw) (P2 (M 29 j) (M 30 j) (M 31 j))) → (0 < s → ¬ lx (P2 px py pw) (P2 (M 29 (s - 1)) (M 30 (s - 1)) (M 31 (s - 1)))) →
      av_S E (d + 2) mX4_add 31 [(0, vR 28), (1, vI px), (2, vI py), (3, vI pw), (4, vI s)] [] M (fun r M' => r = none ∧ M 28 4 ≤ M' 28 4 ∧ M' 28 4 ≤ M 28 4 + 1 ∧ OE (M' 29) (M' 30) (M' 31) (M' 28 4) (fun q => S q ∨ q = P2 px py pw) ∧ (∀ j, j ≠ 4 → M' 28 j = M 28 j) ∧ (∀ k, k ≠ 28 → k ≠ 29 → k ≠ 30 → k ≠ 31 → M' k = M k) ∧ ∀ T : Int → Int → Int → Prop, (∀ j, 0 ≤ j → j < M 28 4 → T (M 29 j) (M 30 j) (M 31 j)) → T px py pw → ∀ j, 0 ≤ j → j < M' 28 4 → T (M' 29 j) (M' 30 j) (M' 31 j)) := by
    intro s s0 s1 a2 hno
    have low : (0 < s → lx (P2 (M 29 (s - 1)) (M 30 (s - 1)) (M 31 (s - 1))) (P2 px py pw)) → ∀ j, 0 ≤ j → j < s → lx (P2 (M 29 j) (M 30 j) (M 31 j)) (P2 px py pw) := by
      intro hl j j0 j1
      by_cases hj : j = s - 1
      · rw [hj]; exact hl (by omega)
      · exact lx_tr (OE_lt hE j0 (show j < s - 1 by omega) (by omega)) (hl (by omega))
    refine ax_iload rfl rfl ?_
    refine ax_if_le rfl (by omega) (fun h33 => ?_) (fun h33 => ?_)
    · refine ax_iconst rfl ?_
      refine ax_istore (ls' := [(0, _), (1, _), (2, _), (3, _), (4, _), (5, _)]) rfl rfl rfl ?_
      refine ax_iload rfl rfl ?_
      refine ax_if_ne rfl (by omega) (fun h59 => ?_) (fun h59 => ?_)
      · refine ax_vret rfl rfl ?_
        first
          | omega
          | exact ⟨rfl, by omega, by omega, OE_had hE (by
              have hz : sd (M 29 (s - 1)) (M 30 (s - 1)) (M 31 (s - 1)) px py pw = 0 := by omega
              rw [← (sd_zero (hw _ (by omega) (by omega)) hp0).mp hz]
              exact OE_in hE (by omega) (by omega)), fun j _ => rfl, fun k _ _ _ _ => rfl, fun T hT _ => hT⟩
      · refine ax_aloadn rfl rfl ?_
        refine ax_getI (g := 4) rfl fX4_22 rfl rfl rfl rfl ?_
        refine ax_aloadn rfl rfl ?_
        refine ax_getR rfl fX4_7 rfl rfl ?_
        refine ax_alen rfl rfl (by decide) ?_
        refine ax_icmp_lt rfl (by omega) (by omega) (fun h71 => ?_) (fun h71 => ?_)
        · exact l_O_add75 E _ M S px py pw s _ hp hE hn ⟨s0, s1⟩ (low (fun h0 => by
            have hz : ¬ sd (M 29 (s - 1)) (M 30 (s - 1)) (M 31 (s - 1)) px py pw = 0 := by first | assumption | omega
            have hq := hno h0
            rw [← sd_pos (hw _ (by omega) (by omega)) hp0] at hq
            rw [← sd_neg (hw _ (by omega) (by omega)) hp0]
            omega)) a2
        · refine ax_vret rfl rfl ?_
          first
            | omega
            | exact ⟨rfl, by omega, by omega, OE_had hE (by
                have hz : sd (M 29 (s - 1)) (M 30 (s - 1)) (M 31 (s - 1)) px py pw = 0 := by omega
                rw [← (sd_zero (hw _ (by omega) (by omega)) hp0).mp hz]
                exact OE_in hE (by omega) (by omega)), fun j _ => rfl, fun k _ _ _ _ => rfl, fun T hT _ => hT⟩
    · refine ax_aloadn rfl rfl ?_
      refine ax_iload rfl rfl ?_
      refine ax_iconst rfl ?_
      refine ax_isub rfl ?_
      refine ax_iloadn rfl rfl ?_
      refine ax_iloadn rfl rfl ?_
      refine ax_iloadn rfl rfl ?_
      refine ax_callV (as := [_, _, _, _]) rfl vX4_26 hX4_side rfl rfl rfl rfl rfl (c_O_side E d M _ px py pw (by omega) (hBD _ (by omega) (by omega)) hp) (av_Xk ?_)
      refine ax_if_ne rfl (by have := sd_rng (M 29 (s - 1)) (M 30 (s - 1)) (M 31 (s - 1)) px py pw; omega) (fun h47 => ?_) (fun h47 => ?_)
      · refine ax_iconst rfl ?_
        refine ax_istore (ls' := [(0, _), (1, _), (2, _), (3, _), (4, _), (5, _)]) rfl rfl rfl ?_
        refine ax_iload rfl rfl ?_
        refine ax_if_ne rfl (by omega) (fun h59 => ?_) (fun h59 => ?_)
        · refine ax_vret rfl rfl ?_
          first
            | omega
            | exact ⟨rfl, by omega, by omega, OE_had hE (by
                have hz : sd (M 29 (s - 1)) (M 30 (s - 1)) (M 31 (s - 1)) px py pw = 0 := by omega
                rw [← (sd_zero (hw _ (by omega) (by omega)) hp0).mp hz]
                exact OE_in hE (by omega) (by omega)), fun j _ => rfl, fun k _ _ _ _ => rfl, fun T hT _ => hT⟩
        · refine ax_aloadn rfl rfl ?_
          refine ax_getI (g := 4) rfl fX4_22 rfl rfl rfl rfl ?_
          refine ax_aloadn rfl rfl ?_
          refine ax_getR rfl fX4_7 rfl rfl ?_
          refine ax_alen rfl rfl (by decide) ?_
          refine ax_icmp_lt rfl (by omega) (by omega) (fun h71 => ?_) (fun h71 => ?_)
          · exact l_O_add75 E _ M S px py pw s _ hp hE hn ⟨s0, s1⟩ (low (fun h0 => by
              have hz : ¬ sd (M 29 (s - 1)) (M 30 (s - 1)) (M 31 (s - 1)) px py pw = 0 := by first | assumption | omega
              have hq := hno h0
              rw [← sd_pos (hw _ (by omega) (by omega)) hp0] at hq
              rw [← sd_neg (hw _ (by omega) (by omega)) hp0]
              omega)) a2
          · refine ax_vret rfl rfl ?_
            first
              | omega
              | exact ⟨rfl, by omega, by omega, OE_had hE (by
                  have hz : sd (M 29 (s - 1)) (M 30 (s - 1)) (M 31 (s - 1)) px py pw = 0 := by omega
                  rw [← (sd_zero (hw _ (by omega) (by omega)) hp0).mp hz]
                  exact OE_in hE (by omega) (by omega)), fun j _ => rfl, fun k _ _ _ _ => rfl, fun T hT _ => hT⟩
      · refine ax_iconst rfl ?_
        refine ax_goto rfl ?_
        refine ax_istore (ls' := [(0, _), (1, _), (2, _), (3, _), (4, _), (5, _)]) rfl rfl rfl ?_
        refine ax_iload rfl rfl ?_
        refine ax_if_ne rfl (by omega) (fun h59 => ?_) (fun h59 => ?_)
        · refine ax_vret rfl rfl ?_
          first
            | omega
            | exact ⟨rfl, by omega, by omega, OE_had hE (by
                have hz : sd (M 29 (s - 1)) (M 30 (s - 1)) (M 31 (s - 1)) px py pw = 0 := by omega
                rw [← (sd_zero (hw _ (by omega) (by omega)) hp0).mp hz]
                exact OE_in hE (by omega) (by omega)), fun j _ => rfl, fun k _ _ _ _ => rfl, fun T hT _ => hT⟩
        · refine ax_aloadn rfl rfl ?_
          refine ax_getI (g := 4) rfl fX4_22 rfl rfl rfl rfl ?_
          refine ax_aloadn rfl rfl ?_
          refine ax_getR rfl fX4_7 rfl rfl ?_
          refine ax_alen rfl rfl (by decide) ?_
          refine ax_icmp_lt rfl (by omega) (by omega) (fun h71 => ?_) (fun h71 => ?_)
          · exact l_O_add75 E _ M S px py pw s _ hp hE hn ⟨s0, s1⟩ (low (fun h0 => by
              have hz : ¬ sd (M 29 (s - 1)) (M 30 (s - 1)) (M 31 (s - 1)) px py pw = 0 := by first | assumption | omega
              have hq := hno h0
              rw [← sd_pos (hw _ (by omega) (by omega)) hp0] at hq
              rw [← sd_neg (hw _ (by omega) (by omega)) hp0]
              omega)) a2
          · refine ax_vret rfl rfl ?_
            first
              | omega
              | exact ⟨rfl, by omega, by omega, OE_had hE (by
                  have hz : sd (M 29 (s - 1)) (M 30 (s - 1)) (M 31 (s - 1)) px py pw = 0 := by omega
                  rw [← (sd_zero (hw _ (by omega) (by omega)) hp0).mp hz]
                  exact OE_in hE (by omega) (by omega)), fun j _ => rfl, fun k _ _ _ _ => rfl, fun T hT _ => hT⟩
  intro t
  induction t with
  | zero =>
    intro s hs hsn a2
    subst hs
    refine ax_iload rfl rfl ?_
    refine ax_if_le rfl (by omega) (fun h8 => ?_) (fun h8 => ?_)
    · exact h31 _ (by omega) (by omega) a2 (fun h => by omega)
    · omega
  | succ t ih =>
    intro s hs hsn a2
    refine ax_iload rfl rfl ?_
    refine ax_if_le rfl (by omega) (fun h8 => ?_) (fun h8 => ?_)
    · exact h31 _ (by omega) (by omega) a2 (fun h => by first | omega | (rw [← sd_pos (hw _ (by omega) (by omega)) hp0]; omega))
    · refine ax_aloadn rfl rfl ?_
      refine ax_iload rfl rfl ?_
      refine ax_iconst rfl ?_
      refine ax_isub rfl ?_
      refine ax_iloadn rfl rfl ?_
      refine ax_iloadn rfl rfl ?_
      refine ax_iloadn rfl rfl ?_
      refine ax_callV (as := [_, _, _, _]) rfl vX4_26 hX4_side rfl rfl rfl rfl rfl (c_O_side E d M _ px py pw (by omega) (hBD _ (by omega) (by omega)) hp) (av_Xk ?_)
      refine ax_if_le rfl (by have := sd_rng (M 29 (s - 1)) (M 30 (s - 1)) (M 31 (s - 1)) px py pw; omega) (fun h22 => ?_) (fun h22 => ?_)
      · exact h31 _ (by omega) (by omega) a2 (fun h => by first | omega | (rw [← sd_pos (hw _ (by omega) (by omega)) hp0]; omega))
      · refine ax_iinc (ls' := [(0, _), (1, _), (2, _), (3, _), (4, _)]) rfl rfl rfl rfl ?_
        refine ax_goto rfl ?_
        refine ih _ (by omega) (by omega) (fun j j0 j1 => ?_)
        by_cases hj : j = s - 1
        · rw [hj, ← sd_pos (hw _ (by omega) (by omega)) hp0]; omega
        · exact a2 j (by omega) j1
set_option maxRecDepth 100000 in
set_option maxHeartbeats 800000 in
theorem c_O_add (E : av_E) (d : Nat) (M : av_M) (S : pt → Prop) (px py pw : Int) (hp : BP px py pw) (hE : OE (M 29) (M 30) (M 31) (M 28 4) S) (hn : M 28 4 < 120) : av_Mt E (d + 2) mX4_add [vR 28, vI px, vI py, vI pw] M (fun r M' => r = none ∧ M 28 4 ≤ M' 28 4 ∧ M' 28 4 ≤ M 28 4 + 1 ∧ OE (M' 29) (M' 30) (M' 31) (M' 28 4) (fun q => S q ∨ q = P2 px py pw) ∧ (∀ j, j ≠ 4 → M' 28 j = M 28 j) ∧ (∀ k, k ≠ 28 → k ≠ 29 → k ≠ 30 → k ≠ 31 → M' k = M k) ∧ ∀ T : Int → Int → Int → Prop, (∀ j, 0 ≤ j → j < M 28 4 → T (M 29 j) (M 30 j) (M 31 j)) → T px py pw → ∀ j, 0 ≤ j → j < M' 28 4 → T (M' 29 j) (M' 30 j) (M' 31 j)) := by
  have h0 := hE.1
  refine av_enter hX4_add oX4_add rfl rfl ?_
  refine ax_aloadn rfl rfl ?_
  refine ax_getI (g := 4) rfl fX4_22 rfl rfl rfl rfl ?_
  refine ax_istore (ls' := [(0, _), (1, _), (2, _), (3, _), (4, _)]) rfl rfl rfl ?_
  exact l_O_add6 E d M S px py pw hp hE hn (M 28 4).toNat _ (by omega) (by omega) (fun j j0 j1 => by omega)
end
section
/-! ===== outlines: the walk round the places ===== -/
theorem CH_congr {σ : Rat} {S : pt → Prop} {b r : Nat} {c c' : Nat → pt} (h : CH σ S b r c) (e : ∀ i, i < r → c' i = c i) : CH σ S b r c' := by
  obtain ⟨h1, h2, h3, h4, h5⟩ := h
  exact ⟨h1, fun i a q => by rw [e i q]; exact h2 i a q, fun p hp => by rw [e b h1]; exact h3 p hp, fun i a q => by rw [e i (by omega), e (i + 1) q]; exact h4 i a q, fun i a q => by rw [e i (by omega), e (i + 1) (by omega), e (i + 2) q]; exact h5 i a q⟩
theorem mb3 {a b c A B C : Int} (ha : -A ≤ a ∧ a ≤ A) (hb : -B ≤ b ∧ b ≤ B) (hc : -C ≤ c ∧ c ≤ C) : -(A * (B * C)) ≤ a * (b * c) ∧ a * (b * c) ≤ A * (B * C) := mb ha (mb hb hc)
theorem D3_rng {x1 y1 w1 x2 y2 w2 x3 y3 w3 : Int} (h1 : BP x1 y1 w1) (h2 : BP x2 y2 w2) (h3 : BP x3 y3 w3) : -9223372036854775808 ≤ D3 x1 y1 w1 x2 y2 w2 x3 y3 w3 ∧ D3 x1 y1 w1 x2 y2 w2 x3 y3 w3 < 9223372036854775808 := by
  obtain ⟨a1, a2, a3, a4⟩ := h1
  obtain ⟨b1, b2, b3, b4⟩ := h2
  obtain ⟨c1, c2, c3, c4⟩ := h3
  have a5 : -5000 ≤ w1 ∧ w1 ≤ 5000 := by omega
  have b5 : -5000 ≤ w2 ∧ w2 ≤ 5000 := by omega
  have c5 : -5000 ≤ w3 ∧ w3 ≤ 5000 := by omega
  have e : D3 x1 y1 w1 x2 y2 w2 x3 y3 w3 = x1 * (y2 * w3) - x1 * (w2 * y3) - y1 * (x2 * w3) + y1 * (w2 * x3) + w1 * (x2 * y3) - w1 * (y2 * x3) := by unfold D3; grind
  have q1 := mb3 a1 b2 c5
  have q2 := mb3 a1 b5 c2
  have q3 := mb3 a2 b1 c5
  have q4 := mb3 a2 b5 c1
  have q5 := mb3 a5 b1 c2
  have q6 := mb3 a5 b2 c1
  omega
set_option maxRecDepth 100000 in
set_option maxHeartbeats 4000000 in
theorem l_H_ext (E : av_E) (d : Nat) (M : av_M) (σ : Rat) (hσ : sgn1 σ) (S : pt → Prop) (b r0 : Nat) (i n : Int) (hn : n ≤ 12) (hi : 0 ≤ i ∧ i < n) (hcap : ∀ r' : Nat, b < r' → r' ≤ r0 → (b + 1 = r' ∨ 0 < cr ((cn (M 5) (M 6) (M 7) (M 8)) (r' - 2)) ((cn (M 5) (M 6) (M 7) (M 8)) (r' - 1)) (P2 (M 5 i) (M 6 i) (M 7 i))) → (r' : Int) < 14) (hrc : (r0 : Int) ≤ 14) (hBD : BD (M 5) (M 6) (M 7) n) (hp : ∀ s, S s → lq σ s (P2 (M 5 i) (M 6 i) (M 7 i))) (hR : ∀ j, 0 ≤ j → j < (r0 : Int) → 0 ≤ M 8 j ∧ M 8 j < n) :
    ∀ (r : Nat) (M1 : av_M), r ≤ r0 → M1 4 5 = r → (∀ f, f ≠ 5 → M1 4 f = M 4 f) → (∀ k, k ≠ 4 → M1 k = M k) → CH σ S b r (cn (M 5) (M 6) (M 7) (M 8)) → CD σ S ((cn (M 5) (M 6) (M 7) (M 8)) (r - 1)) (P2 (M 5 i) (M 6 i) (M 7 i)) →
    av_S E (d + 1) mX4_extend 0 [(0, vR 4), (1, vI i), (2, vI (b + 2))] [] M1 (fun res M' => res = none ∧ ∃ r' : Nat, b < r' ∧ r' ≤ r0 ∧ M' 4 5 = r' + 1 ∧ M' 8 r' = i ∧ (∀ j, j ≠ (r' : Int) → M' 8 j = M 8 j) ∧ (∀ f, f ≠ 5 → M' 4 f = M 4 f) ∧ (∀ k, k ≠ 4 → k ≠ 8 → M' k = M k) ∧ CH σ (fun s => S s ∨ s = (P2 (M 5 i) (M 6 i) (M 7 i))) b (r' + 1) (cn (M' 5) (M' 6) (M' 7) (M' 8)) ∧ ∀ s, (S s ∨ s = (P2 (M 5 i) (M 6 i) (M 7 i))) → s = (cn (M' 5) (M' 6) (M' 7) (M' 8)) r' ∨ lq σ s ((cn (M' 5) (M' 6) (M' 7) (M' 8)) r')) := by
  intro r
  induction r with
  | zero => intro M1 _ _ _ _ h; have := h.1; omega
  | succ r ih =>
    intro M1 hr0 hr hf hk hCH hCD
    have hb := hCH.1
    have eX := hk 5 (by decide)
    have eY := hk 6 (by decide)
    have eW := hk 7 (by decide)
    have eR := hk 8 (by decide)
    have hBi := hBD i hi.1 hi.2
    obtain ⟨bx, bY, bw0, bw1⟩ := hBi
    have h70 : (b + 1 = r + 1 ∨ 0 < cr ((cn (M 5) (M 6) (M 7) (M 8)) (r + 1 - 2)) ((cn (M 5) (M 6) (M 7) (M 8)) (r + 1 - 1)) (P2 (M 5 i) (M 6 i) (M 7 i))) → av_S E (d + 1) mX4_extend 70 [(0, vR 4), (1, vI i), (2, vI (b + 2))] [] M1 (fun res M' => res = none ∧ ∃ r' : Nat, b < r' ∧ r' ≤ r0 ∧ M' 4 5 = r' + 1 ∧ M' 8 r' = i ∧ (∀ j, j ≠ (r' : Int) → M' 8 j = M 8 j) ∧ (∀ f, f ≠ 5 → M' 4 f = M 4 f) ∧ (∀ k, k ≠ 4 → k ≠ 8 → M' k = M k) ∧ CH σ (fun s => S s ∨ s = (P2 (M 5 i) (M 6 i) (M 7 i))) b (r' + 1) (cn (M' 5) (M' 6) (M' 7) (M' 8)) ∧ ∀ s, (S s ∨ s = (P2 (M 5 i) (M 6 i) (M 7 i))) → s = (cn (M' 5) (M' 6) (M' 7) (M' 8)) r' ∨ lq σ s ((cn (M' 5) (M' 6) (M' 7) (M' 8)) r')) := by
      intro ht
      have hc := hcap (r + 1) hb hr0 ht
      refine ax_aloadn rfl rfl ?_
      refine ax_getI (g := 5) rfl fX4_36 rfl rfl rfl rfl ?_
      refine ax_aloadn rfl rfl ?_
      refine ax_getR rfl fX4_19 rfl rfl ?_
      refine ax_alen rfl rfl (by decide) ?_
      refine ax_icmp_ge rfl (by omega) (by omega) (fun h79 => ?_) (fun h79 => ?_)
      · refine ax_vret rfl rfl ?_
        first
          | omega
          | (have e5 : M99 8 = M91 8 := c99 8 (by decide)
             have eq : ∀ j, j ≠ ((r + 1 : Nat) : Int) → M99 8 j = M 8 j := fun j hj => by rw [e5, b91 j (by omega), eR]
             have er : M99 8 ((r + 1 : Nat) : Int) = i := by rw [e5, ← hr]; exact a91
             have ex : M99 5 = M 5 := by rw [c99 5 (by decide), c91 5 (by decide), eX]
             have ey : M99 6 = M 6 := by rw [c99 6 (by decide), c91 6 (by decide), eY]
             have ew : M99 7 = M 7 := by rw [c99 7 (by decide), c91 7 (by decide), eW]
             have ec : ∀ j : Nat, j < r + 1 → (cn (M99 5) (M99 6) (M99 7) (M99 8)) j = (cn (M 5) (M 6) (M 7) (M 8)) j := fun j hj => by
               unfold cn; rw [eq j (by omega), ex, ey, ew]
             have ec1 : (cn (M99 5) (M99 6) (M99 7) (M99 8)) (r + 1) = (P2 (M 5 i) (M 6 i) (M 7 i)) := by unfold cn; rw [er, ex, ey, ew]
             have hq := CH_push hσ hCH hCD ht hp ec1 ec
             refine ⟨rfl, r + 1, hb, hr0, ?_, er, eq, fun f hf5 => ?_, fun k k0 k1 => ?_, hq.1, hq.2⟩
             · rw [a99, c91 4 (by decide), hr]
             · rw [b99 f hf5, c91 4 (by decide), hf f hf5]
             · rw [c99 k k0, c91 k k1, hk k k0])
      · refine ax_aloadn rfl rfl ?_
        refine ax_getR rfl fX4_19 rfl rfl ?_
        refine ax_aloadn rfl rfl ?_
        refine ax_getI (g := 5) rfl fX4_36 rfl rfl rfl rfl ?_
        refine ax_iloadn rfl rfl ?_
        refine ax_iast' rfl rfl (by omega) (fun M91 a91 b91 c91 => ?_)
        refine ax_aloadn rfl rfl ?_
        refine ax_dup rfl rfl ?_
        refine ax_getI (g := 5) rfl fX4_36 rfl rfl rfl rfl ?_
        refine ax_iconst rfl ?_
        refine ax_iadd rfl ?_
        refine ax_putI' (g := 5) rfl gX4_36 rfl rfl rfl rfl (fun M99 a99 b99 c99 => ?_)
        refine ax_vret rfl rfl ?_
        first
          | omega
          | (have e5 : M99 8 = M91 8 := c99 8 (by decide)
             have eq : ∀ j, j ≠ ((r + 1 : Nat) : Int) → M99 8 j = M 8 j := fun j hj => by rw [e5, b91 j (by omega), eR]
             have er : M99 8 ((r + 1 : Nat) : Int) = i := by rw [e5, ← hr]; exact a91
             have ex : M99 5 = M 5 := by rw [c99 5 (by decide), c91 5 (by decide), eX]
             have ey : M99 6 = M 6 := by rw [c99 6 (by decide), c91 6 (by decide), eY]
             have ew : M99 7 = M 7 := by rw [c99 7 (by decide), c91 7 (by decide), eW]
             have ec : ∀ j : Nat, j < r + 1 → (cn (M99 5) (M99 6) (M99 7) (M99 8)) j = (cn (M 5) (M 6) (M 7) (M 8)) j := fun j hj => by
               unfold cn; rw [eq j (by omega), ex, ey, ew]
             have ec1 : (cn (M99 5) (M99 6) (M99 7) (M99 8)) (r + 1) = (P2 (M 5 i) (M 6 i) (M 7 i)) := by unfold cn; rw [er, ex, ey, ew]
             have hq := CH_push hσ hCH hCD ht hp ec1 ec
             refine ⟨rfl, r + 1, hb, hr0, ?_, er, eq, fun f hf5 => ?_, fun k k0 k1 => ?_, hq.1, hq.2⟩
             · rw [a99, c91 4 (by decide), hr]
             · rw [b99 f hf5, c91 4 (by decide), hf f hf5]
             · rw [c99 k k0, c91 k k1, hk k k0])
    have e1 : M1 4 5 - 1 = ((r + 1 - 1 : Nat) : Int) := by omega
    refine ax_aloadn rfl rfl ?_
    refine ax_getI (g := 5) rfl fX4_36 rfl rfl rfl rfl ?_
    refine ax_iloadn rfl rfl ?_
    refine ax_icmp_lt rfl (by omega) (by omega) (fun h5 => ?_) (fun h5 => ?_)
    · first
        | exact h70 (Or.inl (by omega))
        | (refine h70 (Or.inr ?_)
           have e2 : M1 4 5 - 2 = ((r + 1 - 2 : Nat) : Int) := by omega
           have hd := h53
           rw [e1, e2, eX, eY, eW, eR] at hd
           have q0 := hR ((r + 1 - 2 : Nat) : Int) (by omega) (by omega)
           have q1 := hR ((r + 1 - 1 : Nat) : Int) (by omega) (by omega)
           exact (P2_pos (hBD _ q0.1 q0.2).2.2.1 (hBD _ q1.1 q1.2).2.2.1 bw0).mp hd)
    · refine ax_aloadn rfl rfl ?_
      refine ax_aloadn rfl rfl ?_
      refine ax_getR rfl fX4_19 rfl rfl ?_
      refine ax_aloadn rfl rfl ?_
      refine ax_getI (g := 5) rfl fX4_36 rfl rfl rfl rfl ?_
      refine ax_iconst rfl ?_
      refine ax_isub rfl ?_
      refine ax_iald rfl rfl (by omega) ?_
      refine ax_aloadn rfl rfl ?_
      refine ax_getR rfl fX4_19 rfl rfl ?_
      refine ax_aloadn rfl rfl ?_
      refine ax_getI (g := 5) rfl fX4_36 rfl rfl rfl rfl ?_
      refine ax_iconst rfl ?_
      refine ax_isub rfl ?_
      refine ax_iald rfl rfl (by omega) ?_
      refine ax_aloadn rfl rfl ?_
      refine ax_getR rfl fX4_7 rfl rfl ?_
      refine ax_iloadn rfl rfl ?_
      refine ax_iald rfl rfl (by omega) ?_
      refine ax_aloadn rfl rfl ?_
      refine ax_getR rfl fX4_13 rfl rfl ?_
      refine ax_iloadn rfl rfl ?_
      refine ax_iald rfl rfl (by omega) ?_
      refine ax_aloadn rfl rfl ?_
      refine ax_getR rfl fX4_16 rfl rfl ?_
      refine ax_iloadn rfl rfl ?_
      refine ax_iald rfl rfl (by omega) ?_
      refine ax_callV (as := [_, _, _, _, _]) rfl vX4_43 hX4_turn rfl rfl rfl rfl rfl (c_H_turn E d M1 _ _ _ _ _ (by rw [eR]; have := hR (M1 4 5 - 2) (by omega) (by omega); omega) (by rw [eR]; have := hR (M1 4 5 - 1) (by omega) (by omega); omega) (by rw [eX, eY, eW, eR]; exact hBD _ (hR _ (by omega) (by omega)).1 (hR _ (by omega) (by omega)).2) (by rw [eX, eY, eW, eR]; exact hBD _ (hR _ (by omega) (by omega)).1 (hR _ (by omega) (by omega)).2) (Or.inl (by rw [eX, eY, eW]; exact hBD i hi.1 hi.2))) (av_Xk ?_)
      refine ax_lconst (w := 0) rfl rfl ?_
      refine ax_lif_gt rfl rfl (by
  have q0 := hR (M1 4 5 - 2) (by omega) (by omega)
  have q1 := hR (M1 4 5 - 1) (by omega) (by omega)
  rw [eX, eY, eW, eR]
  exact D3_rng (hBD _ q0.1 q0.2) (hBD _ q1.1 q1.2) (hBD i hi.1 hi.2)) (by omega) (fun h53 => ?_) (fun h53 => ?_)
      · first
          | exact h70 (Or.inl (by omega))
          | (refine h70 (Or.inr ?_)
             have e2 : M1 4 5 - 2 = ((r + 1 - 2 : Nat) : Int) := by omega
             have hd := h53
             rw [e1, e2, eX, eY, eW, eR] at hd
             have q0 := hR ((r + 1 - 2 : Nat) : Int) (by omega) (by omega)
             have q1 := hR ((r + 1 - 1 : Nat) : Int) (by omega) (by omega)
             exact (P2_pos (hBD _ q0.1 q0.2).2.2.1 (hBD _ q1.1 q1.2).2.2.1 bw0).mp hd)
      · refine ax_aloadn rfl rfl ?_
        refine ax_dup rfl rfl ?_
        refine ax_getI (g := 5) rfl fX4_36 rfl rfl rfl rfl ?_
        refine ax_iconst rfl ?_
        refine ax_isub rfl ?_
        refine ax_putI' (g := 5) rfl gX4_36 rfl rfl rfl rfl (fun M64 a64 b64 c64 => ?_)
        refine ax_goto rfl ?_
        have e2 : M1 4 5 - 2 = ((r + 1 - 2 : Nat) : Int) := by omega
        have hd := h53
        rw [e1, e2, eX, eY, eW, eR] at hd
        have q0 := hR ((r + 1 - 2 : Nat) : Int) (by omega) (by omega)
        have q1 := hR ((r + 1 - 1 : Nat) : Int) (by omega) (by omega)
        rw [P2_pos (hBD _ q0.1 q0.2).2.2.1 (hBD _ q1.1 q1.2).2.2.1 bw0] at hd
        have hq := CH_pop hCH (by omega) (show cr ((cn (M 5) (M 6) (M 7) (M 8)) (r + 1 - 2)) ((cn (M 5) (M 6) (M 7) (M 8)) (r + 1 - 1)) (P2 (M 5 i) (M 6 i) (M 7 i)) ≤ 0 by unfold cn; grind) hp
        exact ih M64 (by omega) (by rw [a64]; omega) (fun f hf5 => by rw [b64 f hf5, hf f hf5]) (fun k k0 => by rw [c64 k k0, hk k k0]) hq.1 hq.2
set_option maxRecDepth 100000 in
set_option maxHeartbeats 4000000 in
theorem c_H_ext (E : av_E) (d : Nat) (M : av_M) (σ : Rat) (hσ : sgn1 σ) (S : pt → Prop) (b r0 : Nat) (i n : Int) (hn : n ≤ 12) (hi : 0 ≤ i ∧ i < n) (hcap : ∀ r' : Nat, b < r' → r' ≤ r0 → (b + 1 = r' ∨ 0 < cr ((cn (M 5) (M 6) (M 7) (M 8)) (r' - 2)) ((cn (M 5) (M 6) (M 7) (M 8)) (r' - 1)) (P2 (M 5 i) (M 6 i) (M 7 i))) → (r' : Int) < 14) (hrc : (r0 : Int) ≤ 14) (hBD : BD (M 5) (M 6) (M 7) n) (hp : ∀ s, S s → lq σ s (P2 (M 5 i) (M 6 i) (M 7 i))) (hR : ∀ j, 0 ≤ j → j < (r0 : Int) → 0 ≤ M 8 j ∧ M 8 j < n) (hr : M 4 5 = r0) (hCH : CH σ S b r0 (cn (M 5) (M 6) (M 7) (M 8))) (hCD : CD σ S ((cn (M 5) (M 6) (M 7) (M 8)) (r0 - 1)) (P2 (M 5 i) (M 6 i) (M 7 i))) :
    av_Mt E (d + 1) mX4_extend [vR 4, vI i, vI (b + 2)] M (fun res M' => res = none ∧ ∃ r' : Nat, b < r' ∧ r' ≤ r0 ∧ M' 4 5 = r' + 1 ∧ M' 8 r' = i ∧ (∀ j, j ≠ (r' : Int) → M' 8 j = M 8 j) ∧ (∀ f, f ≠ 5 → M' 4 f = M 4 f) ∧ (∀ k, k ≠ 4 → k ≠ 8 → M' k = M k) ∧ CH σ (fun s => S s ∨ s = (P2 (M 5 i) (M 6 i) (M 7 i))) b (r' + 1) (cn (M' 5) (M' 6) (M' 7) (M' 8)) ∧ ∀ s, (S s ∨ s = (P2 (M 5 i) (M 6 i) (M 7 i))) → s = (cn (M' 5) (M' 6) (M' 7) (M' 8)) r' ∨ lq σ s ((cn (M' 5) (M' 6) (M' 7) (M' 8)) r')) := by
  refine av_enter hX4_extend oX4_extend rfl rfl ?_
  exact l_H_ext E d M σ hσ S b r0 i n hn hi hcap hrc hBD hp hR r0 M (Nat.le_refl _) hr (fun _ _ => rfl) (fun _ _ => rfl) hCH hCD
set_option maxRecDepth 100000 in
set_option maxHeartbeats 4000000 in
theorem c_H_ext0 (E : av_E) (d : Nat) (M : av_M) (i : Int) (hi : 0 ≤ i ∧ i < 1000) (hr : M 4 5 = 0) :
    av_Mt E (d + 1) mX4_extend [vR 4, vI i, vI 2] M (fun res M' => res = none ∧ M' 4 5 = 1 ∧ M' 8 0 = i ∧ (∀ j, j ≠ 0 → M' 8 j = M 8 j) ∧ (∀ f, f ≠ 5 → M' 4 f = M 4 f) ∧ (∀ k, k ≠ 4 → k ≠ 8 → M' k = M k)) := by
  refine av_enter hX4_extend oX4_extend rfl rfl ?_
  refine ax_aloadn rfl rfl ?_
  refine ax_getI (g := 5) rfl fX4_36 rfl rfl rfl rfl ?_
  refine ax_iloadn rfl rfl ?_
  refine ax_icmp_lt rfl (by omega) (by omega) (fun h5 => ?_) (fun h5 => ?_)
  · refine ax_aloadn rfl rfl ?_
    refine ax_getI (g := 5) rfl fX4_36 rfl rfl rfl rfl ?_
    refine ax_aloadn rfl rfl ?_
    refine ax_getR rfl fX4_19 rfl rfl ?_
    refine ax_alen rfl rfl (by decide) ?_
    refine ax_icmp_ge rfl (by omega) (by omega) (fun h79 => ?_) (fun h79 => ?_)
    · refine ax_vret rfl rfl ?_
      first
        | omega
        | (rw [hr] at a91 b91
           exact ⟨rfl, by rw [a99, c91 4 (by decide), hr]; rfl, by rw [c99 8 (by decide)]; exact a91, fun j hj => by rw [c99 8 (by decide)]; exact b91 j hj, fun f hf => by rw [b99 f hf, c91 4 (by decide)], fun k k0 k1 => by rw [c99 k k0, c91 k k1]⟩)
    · refine ax_aloadn rfl rfl ?_
      refine ax_getR rfl fX4_19 rfl rfl ?_
      refine ax_aloadn rfl rfl ?_
      refine ax_getI (g := 5) rfl fX4_36 rfl rfl rfl rfl ?_
      refine ax_iloadn rfl rfl ?_
      refine ax_iast' rfl rfl (by omega) (fun M91 a91 b91 c91 => ?_)
      refine ax_aloadn rfl rfl ?_
      refine ax_dup rfl rfl ?_
      refine ax_getI (g := 5) rfl fX4_36 rfl rfl rfl rfl ?_
      refine ax_iconst rfl ?_
      refine ax_iadd rfl ?_
      refine ax_putI' (g := 5) rfl gX4_36 rfl rfl rfl rfl (fun M99 a99 b99 c99 => ?_)
      refine ax_vret rfl rfl ?_
      first
        | omega
        | (rw [hr] at a91 b91
           exact ⟨rfl, by rw [a99, c91 4 (by decide), hr]; rfl, by rw [c99 8 (by decide)]; exact a91, fun j hj => by rw [c99 8 (by decide)]; exact b91 j hj, fun f hf => by rw [b99 f hf, c91 4 (by decide)], fun k k0 k1 => by rw [c99 k k0, c91 k k1]⟩)
  · omega
set_option maxRecDepth 100000 in
set_option maxHeartbeats 4000000 in
theorem l_O_ext (E : av_E) (d : Nat) (M : av_M) (σ : Rat) (hσ : sgn1 σ) (S : pt → Prop) (b r0 : Nat) (i n : Int) (hn : n ≤ 120) (hi : 0 ≤ i ∧ i < n) (hcap : ∀ r' : Nat, b < r' → r' ≤ r0 → (b + 1 = r' ∨ 0 < cr ((cn (M 29) (M 30) (M 31) (M 32)) (r' - 2)) ((cn (M 29) (M 30) (M 31) (M 32)) (r' - 1)) (P2 (M 29 i) (M 30 i) (M 31 i))) → (r' : Int) < 122) (hrc : (r0 : Int) ≤ 122) (hBD : BD (M 29) (M 30) (M 31) n) (hp : ∀ s, S s → lq σ s (P2 (M 29 i) (M 30 i) (M 31 i))) (hR : ∀ j, 0 ≤ j → j < (r0 : Int) → 0 ≤ M 32 j ∧ M 32 j < n) :
    ∀ (r : Nat) (M1 : av_M), r ≤ r0 → M1 28 5 = r → (∀ f, f ≠ 5 → M1 28 f = M 28 f) → (∀ k, k ≠ 28 → M1 k = M k) → CH σ S b r (cn (M 29) (M 30) (M 31) (M 32)) → CD σ S ((cn (M 29) (M 30) (M 31) (M 32)) (r - 1)) (P2 (M 29 i) (M 30 i) (M 31 i)) →
    av_S E (d + 1) mX4_extend 0 [(0, vR 28), (1, vI i), (2, vI (b + 2))] [] M1 (fun res M' => res = none ∧ ∃ r' : Nat, b < r' ∧ r' ≤ r0 ∧ M' 28 5 = r' + 1 ∧ M' 32 r' = i ∧ (∀ j, j ≠ (r' : Int) → M' 32 j = M 32 j) ∧ (∀ f, f ≠ 5 → M' 28 f = M 28 f) ∧ (∀ k, k ≠ 28 → k ≠ 32 → M' k = M k) ∧ CH σ (fun s => S s ∨ s = (P2 (M 29 i) (M 30 i) (M 31 i))) b (r' + 1) (cn (M' 29) (M' 30) (M' 31) (M' 32)) ∧ ∀ s, (S s ∨ s = (P2 (M 29 i) (M 30 i) (M 31 i))) → s = (cn (M' 29) (M' 30) (M' 31) (M' 32)) r' ∨ lq σ s ((cn (M' 29) (M' 30) (M' 31) (M' 32)) r')) := by
  intro r
  induction r with
  | zero => intro M1 _ _ _ _ h; have := h.1; omega
  | succ r ih =>
    intro M1 hr0 hr hf hk hCH hCD
    have hb := hCH.1
    have eX := hk 29 (by decide)
    have eY := hk 30 (by decide)
    have eW := hk 31 (by decide)
    have eR := hk 32 (by decide)
    have hBi := hBD i hi.1 hi.2
    obtain ⟨bx, bY, bw0, bw1⟩ := hBi
    have h70 : (b + 1 = r + 1 ∨ 0 < cr ((cn (M 29) (M 30) (M 31) (M 32)) (r + 1 - 2)) ((cn (M 29) (M 30) (M 31) (M 32)) (r + 1 - 1)) (P2 (M 29 i) (M 30 i) (M 31 i))) → av_S E (d + 1) mX4_extend 70 [(0, vR 28), (1, vI i), (2, vI (b + 2))] [] M1 (fun res M' => res = none ∧ ∃ r' : Nat, b < r' ∧ r' ≤ r0 ∧ M' 28 5 = r' + 1 ∧ M' 32 r' = i ∧ (∀ j, j ≠ (r' : Int) → M' 32 j = M 32 j) ∧ (∀ f, f ≠ 5 → M' 28 f = M 28 f) ∧ (∀ k, k ≠ 28 → k ≠ 32 → M' k = M k) ∧ CH σ (fun s => S s ∨ s = (P2 (M 29 i) (M 30 i) (M 31 i))) b (r' + 1) (cn (M' 29) (M' 30) (M' 31) (M' 32)) ∧ ∀ s, (S s ∨ s = (P2 (M 29 i) (M 30 i) (M 31 i))) → s = (cn (M' 29) (M' 30) (M' 31) (M' 32)) r' ∨ lq σ s ((cn (M' 29) (M' 30) (M' 31) (M' 32)) r')) := by
      intro ht
      have hc := hcap (r + 1) hb hr0 ht
      refine ax_aloadn rfl rfl ?_
      refine ax_getI (g := 5) rfl fX4_36 rfl rfl rfl rfl ?_
      refine ax_aloadn rfl rfl ?_
      refine ax_getR rfl fX4_19 rfl rfl ?_
      refine ax_alen rfl rfl (by decide) ?_
      refine ax_icmp_ge rfl (by omega) (by omega) (fun h79 => ?_) (fun h79 => ?_)
      · refine ax_vret rfl rfl ?_
        first
          | omega
          | (have e5 : M99 32 = M91 32 := c99 32 (by decide)
             have eq : ∀ j, j ≠ ((r + 1 : Nat) : Int) → M99 32 j = M 32 j := fun j hj => by rw [e5, b91 j (by omega), eR]
             have er : M99 32 ((r + 1 : Nat) : Int) = i := by rw [e5, ← hr]; exact a91
             have ex : M99 29 = M 29 := by rw [c99 29 (by decide), c91 29 (by decide), eX]
             have ey : M99 30 = M 30 := by rw [c99 30 (by decide), c91 30 (by decide), eY]
             have ew : M99 31 = M 31 := by rw [c99 31 (by decide), c91 31 (by decide), eW]
             have ec : ∀ j : Nat, j < r + 1 → (cn (M99 29) (M99 30) (M99 31) (M99 32)) j = (cn (M 29) (M 30) (M 31) (M 32)) j := fun j hj => by
               unfold cn; rw [eq j (by omega), ex, ey, ew]
             have ec1 : (cn (M99 29) (M99 30) (M99 31) (M99 32)) (r + 1) = (P2 (M 29 i) (M 30 i) (M 31 i)) := by unfold cn; rw [er, ex, ey, ew]
             have hq := CH_push hσ hCH hCD ht hp ec1 ec
             refine ⟨rfl, r + 1, hb, hr0, ?_, er, eq, fun f hf5 => ?_, fun k k0 k1 => ?_, hq.1, hq.2⟩
             · rw [a99, c91 28 (by decide), hr]
             · rw [b99 f hf5, c91 28 (by decide), hf f hf5]
             · rw [c99 k k0, c91 k k1, hk k k0])
      · refine ax_aloadn rfl rfl ?_
        refine ax_getR rfl fX4_19 rfl rfl ?_
        refine ax_aloadn rfl rfl ?_
        refine ax_getI (g := 5) rfl fX4_36 rfl rfl rfl rfl ?_
        refine ax_iloadn rfl rfl ?_
        refine ax_iast' rfl rfl (by omega) (fun M91 a91 b91 c91 => ?_)
        refine ax_aloadn rfl rfl ?_
        refine ax_dup rfl rfl ?_
        refine ax_getI (g := 5) rfl fX4_36 rfl rfl rfl rfl ?_
        refine ax_iconst rfl ?_
        refine ax_iadd rfl ?_
        refine ax_putI' (g := 5) rfl gX4_36 rfl rfl rfl rfl (fun M99 a99 b99 c99 => ?_)
        refine ax_vret rfl rfl ?_
        first
          | omega
          | (have e5 : M99 32 = M91 32 := c99 32 (by decide)
             have eq : ∀ j, j ≠ ((r + 1 : Nat) : Int) → M99 32 j = M 32 j := fun j hj => by rw [e5, b91 j (by omega), eR]
             have er : M99 32 ((r + 1 : Nat) : Int) = i := by rw [e5, ← hr]; exact a91
             have ex : M99 29 = M 29 := by rw [c99 29 (by decide), c91 29 (by decide), eX]
             have ey : M99 30 = M 30 := by rw [c99 30 (by decide), c91 30 (by decide), eY]
             have ew : M99 31 = M 31 := by rw [c99 31 (by decide), c91 31 (by decide), eW]
             have ec : ∀ j : Nat, j < r + 1 → (cn (M99 29) (M99 30) (M99 31) (M99 32)) j = (cn (M 29) (M 30) (M 31) (M 32)) j := fun j hj => by
               unfold cn; rw [eq j (by omega), ex, ey, ew]
             have ec1 : (cn (M99 29) (M99 30) (M99 31) (M99 32)) (r + 1) = (P2 (M 29 i) (M 30 i) (M 31 i)) := by unfold cn; rw [er, ex, ey, ew]
             have hq := CH_push hσ hCH hCD ht hp ec1 ec
             refine ⟨rfl, r + 1, hb, hr0, ?_, er, eq, fun f hf5 => ?_, fun k k0 k1 => ?_, hq.1, hq.2⟩
             · rw [a99, c91 28 (by decide), hr]
             · rw [b99 f hf5, c91 28 (by decide), hf f hf5]
             · rw [c99 k k0, c91 k k1, hk k k0])
    have e1 : M1 28 5 - 1 = ((r + 1 - 1 : Nat) : Int) := by omega
    refine ax_aloadn rfl rfl ?_
    refine ax_getI (g := 5) rfl fX4_36 rfl rfl rfl rfl ?_
    refine ax_iloadn rfl rfl ?_
    refine ax_icmp_lt rfl (by omega) (by omega) (fun h5 => ?_) (fun h5 => ?_)
    · first
        | exact h70 (Or.inl (by omega))
        | (refine h70 (Or.inr ?_)
           have e2 : M1 28 5 - 2 = ((r + 1 - 2 : Nat) : Int) := by omega
           have hd := h53
           rw [e1, e2, eX, eY, eW, eR] at hd
           have q0 := hR ((r + 1 - 2 : Nat) : Int) (by omega) (by omega)
           have q1 := hR ((r + 1 - 1 : Nat) : Int) (by omega) (by omega)
           exact (P2_pos (hBD _ q0.1 q0.2).2.2.1 (hBD _ q1.1 q1.2).2.2.1 bw0).mp hd)
    · refine ax_aloadn rfl rfl ?_
      refine ax_aloadn rfl rfl ?_
      refine ax_getR rfl fX4_19 rfl rfl ?_
      refine ax_aloadn rfl rfl ?_
      refine ax_getI (g := 5) rfl fX4_36 rfl rfl rfl rfl ?_
      refine ax_iconst rfl ?_
      refine ax_isub rfl ?_
      refine ax_iald rfl rfl (by omega) ?_
      refine ax_aloadn rfl rfl ?_
      refine ax_getR rfl fX4_19 rfl rfl ?_
      refine ax_aloadn rfl rfl ?_
      refine ax_getI (g := 5) rfl fX4_36 rfl rfl rfl rfl ?_
      refine ax_iconst rfl ?_
      refine ax_isub rfl ?_
      refine ax_iald rfl rfl (by omega) ?_
      refine ax_aloadn rfl rfl ?_
      refine ax_getR rfl fX4_7 rfl rfl ?_
      refine ax_iloadn rfl rfl ?_
      refine ax_iald rfl rfl (by omega) ?_
      refine ax_aloadn rfl rfl ?_
      refine ax_getR rfl fX4_13 rfl rfl ?_
      refine ax_iloadn rfl rfl ?_
      refine ax_iald rfl rfl (by omega) ?_
      refine ax_aloadn rfl rfl ?_
      refine ax_getR rfl fX4_16 rfl rfl ?_
      refine ax_iloadn rfl rfl ?_
      refine ax_iald rfl rfl (by omega) ?_
      refine ax_callV (as := [_, _, _, _, _]) rfl vX4_43 hX4_turn rfl rfl rfl rfl rfl (c_O_turn E d M1 _ _ _ _ _ (by rw [eR]; have := hR (M1 28 5 - 2) (by omega) (by omega); omega) (by rw [eR]; have := hR (M1 28 5 - 1) (by omega) (by omega); omega) (by rw [eX, eY, eW, eR]; exact hBD _ (hR _ (by omega) (by omega)).1 (hR _ (by omega) (by omega)).2) (by rw [eX, eY, eW, eR]; exact hBD _ (hR _ (by omega) (by omega)).1 (hR _ (by omega) (by omega)).2) (Or.inl (by rw [eX, eY, eW]; exact hBD i hi.1 hi.2))) (av_Xk ?_)
      refine ax_lconst (w := 0) rfl rfl ?_
      refine ax_lif_gt rfl rfl (by
  have q0 := hR (M1 28 5 - 2) (by omega) (by omega)
  have q1 := hR (M1 28 5 - 1) (by omega) (by omega)
  rw [eX, eY, eW, eR]
  exact D3_rng (hBD _ q0.1 q0.2) (hBD _ q1.1 q1.2) (hBD i hi.1 hi.2)) (by omega) (fun h53 => ?_) (fun h53 => ?_)
      · first
          | exact h70 (Or.inl (by omega))
          | (refine h70 (Or.inr ?_)
             have e2 : M1 28 5 - 2 = ((r + 1 - 2 : Nat) : Int) := by omega
             have hd := h53
             rw [e1, e2, eX, eY, eW, eR] at hd
             have q0 := hR ((r + 1 - 2 : Nat) : Int) (by omega) (by omega)
             have q1 := hR ((r + 1 - 1 : Nat) : Int) (by omega) (by omega)
             exact (P2_pos (hBD _ q0.1 q0.2).2.2.1 (hBD _ q1.1 q1.2).2.2.1 bw0).mp hd)
      · refine ax_aloadn rfl rfl ?_
        refine ax_dup rfl rfl ?_
        refine ax_getI (g := 5) rfl fX4_36 rfl rfl rfl rfl ?_
        refine ax_iconst rfl ?_
        refine ax_isub rfl ?_
        refine ax_putI' (g := 5) rfl gX4_36 rfl rfl rfl rfl (fun M64 a64 b64 c64 => ?_)
        refine ax_goto rfl ?_
        have e2 : M1 28 5 - 2 = ((r + 1 - 2 : Nat) : Int) := by omega
        have hd := h53
        rw [e1, e2, eX, eY, eW, eR] at hd
        have q0 := hR ((r + 1 - 2 : Nat) : Int) (by omega) (by omega)
        have q1 := hR ((r + 1 - 1 : Nat) : Int) (by omega) (by omega)
        rw [P2_pos (hBD _ q0.1 q0.2).2.2.1 (hBD _ q1.1 q1.2).2.2.1 bw0] at hd
        have hq := CH_pop hCH (by omega) (show cr ((cn (M 29) (M 30) (M 31) (M 32)) (r + 1 - 2)) ((cn (M 29) (M 30) (M 31) (M 32)) (r + 1 - 1)) (P2 (M 29 i) (M 30 i) (M 31 i)) ≤ 0 by unfold cn; grind) hp
        exact ih M64 (by omega) (by rw [a64]; omega) (fun f hf5 => by rw [b64 f hf5, hf f hf5]) (fun k k0 => by rw [c64 k k0, hk k k0]) hq.1 hq.2
set_option maxRecDepth 100000 in
set_option maxHeartbeats 4000000 in
theorem c_O_ext (E : av_E) (d : Nat) (M : av_M) (σ : Rat) (hσ : sgn1 σ) (S : pt → Prop) (b r0 : Nat) (i n : Int) (hn : n ≤ 120) (hi : 0 ≤ i ∧ i < n) (hcap : ∀ r' : Nat, b < r' → r' ≤ r0 → (b + 1 = r' ∨ 0 < cr ((cn (M 29) (M 30) (M 31) (M 32)) (r' - 2)) ((cn (M 29) (M 30) (M 31) (M 32)) (r' - 1)) (P2 (M 29 i) (M 30 i) (M 31 i))) → (r' : Int) < 122) (hrc : (r0 : Int) ≤ 122) (hBD : BD (M 29) (M 30) (M 31) n) (hp : ∀ s, S s → lq σ s (P2 (M 29 i) (M 30 i) (M 31 i))) (hR : ∀ j, 0 ≤ j → j < (r0 : Int) → 0 ≤ M 32 j ∧ M 32 j < n) (hr : M 28 5 = r0) (hCH : CH σ S b r0 (cn (M 29) (M 30) (M 31) (M 32))) (hCD : CD σ S ((cn (M 29) (M 30) (M 31) (M 32)) (r0 - 1)) (P2 (M 29 i) (M 30 i) (M 31 i))) :
    av_Mt E (d + 1) mX4_extend [vR 28, vI i, vI (b + 2)] M (fun res M' => res = none ∧ ∃ r' : Nat, b < r' ∧ r' ≤ r0 ∧ M' 28 5 = r' + 1 ∧ M' 32 r' = i ∧ (∀ j, j ≠ (r' : Int) → M' 32 j = M 32 j) ∧ (∀ f, f ≠ 5 → M' 28 f = M 28 f) ∧ (∀ k, k ≠ 28 → k ≠ 32 → M' k = M k) ∧ CH σ (fun s => S s ∨ s = (P2 (M 29 i) (M 30 i) (M 31 i))) b (r' + 1) (cn (M' 29) (M' 30) (M' 31) (M' 32)) ∧ ∀ s, (S s ∨ s = (P2 (M 29 i) (M 30 i) (M 31 i))) → s = (cn (M' 29) (M' 30) (M' 31) (M' 32)) r' ∨ lq σ s ((cn (M' 29) (M' 30) (M' 31) (M' 32)) r')) := by
  refine av_enter hX4_extend oX4_extend rfl rfl ?_
  exact l_O_ext E d M σ hσ S b r0 i n hn hi hcap hrc hBD hp hR r0 M (Nat.le_refl _) hr (fun _ _ => rfl) (fun _ _ => rfl) hCH hCD
set_option maxRecDepth 100000 in
set_option maxHeartbeats 4000000 in
theorem c_O_ext0 (E : av_E) (d : Nat) (M : av_M) (i : Int) (hi : 0 ≤ i ∧ i < 1000) (hr : M 28 5 = 0) :
    av_Mt E (d + 1) mX4_extend [vR 28, vI i, vI 2] M (fun res M' => res = none ∧ M' 28 5 = 1 ∧ M' 32 0 = i ∧ (∀ j, j ≠ 0 → M' 32 j = M 32 j) ∧ (∀ f, f ≠ 5 → M' 28 f = M 28 f) ∧ (∀ k, k ≠ 28 → k ≠ 32 → M' k = M k)) := by
  refine av_enter hX4_extend oX4_extend rfl rfl ?_
  refine ax_aloadn rfl rfl ?_
  refine ax_getI (g := 5) rfl fX4_36 rfl rfl rfl rfl ?_
  refine ax_iloadn rfl rfl ?_
  refine ax_icmp_lt rfl (by omega) (by omega) (fun h5 => ?_) (fun h5 => ?_)
  · refine ax_aloadn rfl rfl ?_
    refine ax_getI (g := 5) rfl fX4_36 rfl rfl rfl rfl ?_
    refine ax_aloadn rfl rfl ?_
    refine ax_getR rfl fX4_19 rfl rfl ?_
    refine ax_alen rfl rfl (by decide) ?_
    refine ax_icmp_ge rfl (by omega) (by omega) (fun h79 => ?_) (fun h79 => ?_)
    · refine ax_vret rfl rfl ?_
      first
        | omega
        | (rw [hr] at a91 b91
           exact ⟨rfl, by rw [a99, c91 28 (by decide), hr]; rfl, by rw [c99 32 (by decide)]; exact a91, fun j hj => by rw [c99 32 (by decide)]; exact b91 j hj, fun f hf => by rw [b99 f hf, c91 28 (by decide)], fun k k0 k1 => by rw [c99 k k0, c91 k k1]⟩)
    · refine ax_aloadn rfl rfl ?_
      refine ax_getR rfl fX4_19 rfl rfl ?_
      refine ax_aloadn rfl rfl ?_
      refine ax_getI (g := 5) rfl fX4_36 rfl rfl rfl rfl ?_
      refine ax_iloadn rfl rfl ?_
      refine ax_iast' rfl rfl (by omega) (fun M91 a91 b91 c91 => ?_)
      refine ax_aloadn rfl rfl ?_
      refine ax_dup rfl rfl ?_
      refine ax_getI (g := 5) rfl fX4_36 rfl rfl rfl rfl ?_
      refine ax_iconst rfl ?_
      refine ax_iadd rfl ?_
      refine ax_putI' (g := 5) rfl gX4_36 rfl rfl rfl rfl (fun M99 a99 b99 c99 => ?_)
      refine ax_vret rfl rfl ?_
      first
        | omega
        | (rw [hr] at a91 b91
           exact ⟨rfl, by rw [a99, c91 28 (by decide), hr]; rfl, by rw [c99 32 (by decide)]; exact a91, fun j hj => by rw [c99 32 (by decide)]; exact b91 j hj, fun f hf => by rw [b99 f hf, c91 28 (by decide)], fun k k0 k1 => by rw [c99 k k0, c91 k k1]⟩)
  · omega
end
section
/-! ===== outlines: wrap ===== -/
theorem CH_mono {σ : Rat} (hσ : sgn1 σ) {S : pt → Prop} {b r : Nat} {c : Nat → pt} (h : CH σ S b r c) : ∀ i j, b ≤ i → i < j → j < r → lq σ (c i) (c j) := by
  intro i j hbi hij
  have key : ∀ t, i + 1 + t < r → lq σ (c i) (c (i + 1 + t)) := by
    intro t
    induction t with
    | zero => intro ht; exact (h.2.2.2.1 i hbi ht).1
    | succ t ih => intro ht; exact lq_tr hσ (ih (by omega)) (h.2.2.2.1 (i + 1 + t) (by omega) ht).1
  intro hj
  have := key (j - i - 1) (by omega)
  rwa [show i + 1 + (j - i - 1) = j by omega] at this
theorem up_cap {S T : pt → Prop} {n k r r' : Nat} {c : Nat → pt} {R : Nat → Nat} {p : pt} (hl : CH 1 S 0 (k + 1) c) (hu : CH (-1) T k r c) (hTS : ∀ q, T q → S q) (hk : k < r') (hr : r' ≤ r) (ht : k + 1 = r' ∨ 0 < cr (c (r' - 2)) (c (r' - 1)) p) (hpS : S p) (hpl : ∀ s, T s → lq (-1) s p) (hR : ∀ i, i < r' → R i < n) (hinj : ∀ i j, i < r' → j < r' → R i = R j → c i = c j) : r' ≤ n := by
  have s1 : sgn1 (1 : Rat) := Or.inl rfl
  have s2 : sgn1 (-1 : Rat) := Or.inr rfl
  have ne : ∀ i j, i < j → j < r' → c i ≠ c j := by
    intro i j hij hj e
    by_cases hjk : j ≤ k
    · have := CH_mono s1 hl i j (by omega) hij (by omega)
      rw [e] at this; exact lq_ir this
    · by_cases hik : k ≤ i
      · have := CH_mono s2 hu i j hik hij (by omega)
        rw [e] at this; exact lq_ir this
      · have hpj := hpl _ (hu.2.1 j (by omega) (by omega))
        by_cases hi0 : i = 0
        · subst hi0
          rw [lq_m] at hpj
          rcases hl.2.2.1 p hpS with h | h
          · rw [h, ← e] at hpj; exact lx_ir hpj
          · rw [lq_1] at h
            rw [← e] at hpj; exact lx_as h hpj
        · have l1 := hl.2.2.2.1 (i - 1) (by omega) (by omega)
          have l2 := hl.2.2.2.1 i (by omega) (by omega)
          have l3 := hl.2.2.2.2 (i - 1) (by omega) (by omega)
          rw [show i - 1 + 1 = i by omega] at l1 l3
          rw [show i - 1 + 2 = i + 1 by omega] at l3
          have u1 := hu.2.2.2.1 (j - 1) (by omega) (by omega)
          rw [show j - 1 + 1 = j by omega] at u1
          have m1 := lq_m.mp u1.1
          rw [← e] at m1
          have aS := hTS _ (hu.2.1 (j - 1) (by omega) (by omega))
          by_cases hj1 : j + 1 < r'
          · have u2 := hu.2.2.2.1 j (by omega) (by omega)
            have m2 := lq_m.mp u2.1
            have t := hu.2.2.2.2 (j - 1) (by omega) (by omega)
            rw [show j - 1 + 1 = j by omega, show j - 1 + 2 = j + 1 by omega, ← e] at t
            rw [← e] at m2
            exact chain_apart (lq_1.mp l1.1) (lq_1.mp l2.1) l3 l1.2 l2.2 aS (hTS _ (hu.2.1 (j + 1) (by omega) (by omega))) m1 m2 t
          · have t : 0 < cr (c (r' - 2)) (c (r' - 1)) p := by
              rcases ht with ht | ht
              · omega
              · exact ht
            rw [show r' - 2 = j - 1 by omega, show r' - 1 = j by omega, ← e] at t
            have m2 := lq_m.mp hpj
            rw [← e] at m2
            exact chain_apart (lq_1.mp l1.1) (lq_1.mp l2.1) l3 l1.2 l2.2 aS hpS m1 m2 t
  refine pigeon n r' R hR (fun i j hi hj e => ?_)
  rcases Nat.lt_trichotomy i j with h | h | h
  · exact absurd (hinj i j hi hj e) (ne i j h hj)
  · exact h
  · exact absurd (hinj j i hj hi e.symm) (ne j i h hi)
/-- the places below i, those above i -/
def Lo (X Y W : Int → Int) (i : Int) : pt → Prop := fun p => ∃ j : Int, 0 ≤ j ∧ j < i ∧ p = P2 (X j) (Y j) (W j)
def Up (X Y W : Int → Int) (i n : Int) : pt → Prop := fun p => ∃ j : Int, i < j ∧ j < n ∧ p = P2 (X j) (Y j) (W j)
theorem Lo_all {X Y W : Int → Int} {n : Int} {S : pt → Prop} (h : OE X Y W n S) : Lo X Y W n = S := by
  funext p
  apply propext
  constructor
  · rintro ⟨j, h0, h1, rfl⟩; exact OE_in h h0 h1
  · intro hp
    obtain ⟨i, hi, e⟩ := (h.2.2.2 p).mp hp
    exact ⟨i, by omega, by omega, e⟩
theorem Up_all {X Y W : Int → Int} {n : Int} {S : pt → Prop} (h : OE X Y W n S) : Up X Y W (-1) n = S := by
  funext p
  apply propext
  constructor
  · rintro ⟨j, h0, h1, rfl⟩; exact OE_in h (by omega) h1
  · intro hp
    obtain ⟨i, hi, e⟩ := (h.2.2.2 p).mp hp
    exact ⟨i, by omega, by omega, e⟩
theorem Lo_succ {X Y W : Int → Int} {i : Int} (h0 : 0 ≤ i) : (fun s => Lo X Y W i s ∨ s = P2 (X i) (Y i) (W i)) = Lo X Y W (i + 1) := by
  funext p
  apply propext
  constructor
  · rintro (⟨j, a, b, e⟩ | e)
    · exact ⟨j, a, by omega, e⟩
    · exact ⟨i, h0, by omega, e⟩
  · rintro ⟨j, a, b, e⟩
    by_cases hj : j = i
    · exact Or.inr (by rw [e, hj])
    · exact Or.inl ⟨j, a, by omega, e⟩
theorem Up_succ {X Y W : Int → Int} {i n : Int} (h0 : i < n) : (fun s => Up X Y W i n s ∨ s = P2 (X i) (Y i) (W i)) = Up X Y W (i - 1) n := by
  funext p
  apply propext
  constructor
  · rintro (⟨j, a, b, e⟩ | e)
    · exact ⟨j, by omega, b, e⟩
    · exact ⟨i, by omega, h0, e⟩
  · rintro ⟨j, a, b, e⟩
    by_cases hj : j = i
    · exact Or.inr (by rw [e, hj])
    · exact Or.inl ⟨j, by omega, b, e⟩
theorem Lo_one {X Y W : Int → Int} : Lo X Y W 1 = fun p => p = P2 (X 0) (Y 0) (W 0) := by
  funext p
  apply propext
  exact ⟨fun ⟨j, a, b, e⟩ => by rw [e, show j = 0 by omega], fun e => ⟨0, by omega, by omega, e⟩⟩
theorem Up_one {X Y W : Int → Int} {n : Int} : Up X Y W (n - 2) n = fun p => p = P2 (X (n - 1)) (Y (n - 1)) (W (n - 1)) := by
  funext p
  apply propext
  exact ⟨fun ⟨j, a, b, e⟩ => by rw [e, show j = n - 1 by omega], fun e => ⟨n - 1, by omega, by omega, e⟩⟩
set_option maxRecDepth 100000 in
set_option maxHeartbeats 4000000 in
theorem l_H_low (E : av_E) (d : Nat) (M : av_M) (S : pt → Prop) (hE : OE (M 5) (M 6) (M 7) (M 4 4) S) (hn : (M 4 4) ≤ 12) (Q : Option av_V → av_M → Prop)
    (hx : ∀ M1 : av_M, ((∀ f, f ≠ 5 → M1 4 f = M 4 f) ∧ (∀ k, k ≠ 4 → k ≠ 8 → M1 k = M k) ∧ ∃ r : Nat, M1 4 5 = r ∧ (r : Int) ≤ (M 4 4) ∧ (∀ j, 0 ≤ j → j < (r : Int) → 0 ≤ M1 8 j ∧ M1 8 j < (M 4 4)) ∧ ((M 4 4) = 0 → r = 0) ∧ (0 < (M 4 4) → CH 1 (Lo (M 5) (M 6) (M 7) ((M 4 4))) 0 r (cn (M1 5) (M1 6) (M1 7) (M1 8)) ∧ (cn (M1 5) (M1 6) (M1 7) (M1 8)) (r - 1) = (P2 (M 5 ((M 4 4) - 1)) (M 6 ((M 4 4) - 1)) (M 7 ((M 4 4) - 1))))) → av_S E (d + 2) mX4_wrap 27 [(0, vR 4), (1, vI (M 4 4))] [] M1 Q) :
    ∀ (t : Nat) (i : Int) (M1 : av_M), i + t = (M 4 4) → 0 ≤ i → ((∀ f, f ≠ 5 → M1 4 f = M 4 f) ∧ (∀ k, k ≠ 4 → k ≠ 8 → M1 k = M k) ∧ ∃ r : Nat, M1 4 5 = r ∧ (r : Int) ≤ i ∧ (∀ j, 0 ≤ j → j < (r : Int) → 0 ≤ M1 8 j ∧ M1 8 j < (M 4 4)) ∧ (i = 0 → r = 0) ∧ (0 < i → CH 1 (Lo (M 5) (M 6) (M 7) (i)) 0 r (cn (M1 5) (M1 6) (M1 7) (M1 8)) ∧ (cn (M1 5) (M1 6) (M1 7) (M1 8)) (r - 1) = (P2 (M 5 (i - 1)) (M 6 (i - 1)) (M 7 (i - 1))))) → av_S E (d + 2) mX4_wrap 7 [(0, vR 4), (1, vI i)] [] M1 Q := by
  intro t
  induction t with
  | zero =>
    intro i M1 hi h0 hinv
    have e : i = (M 4 4) := by omega
    subst e
    have h4 := hinv.1 4 (by decide)
    refine ax_iloadn rfl rfl ?_
    refine ax_aloadn rfl rfl ?_
    refine ax_getI (g := 4) rfl fX4_22 rfl rfl rfl rfl ?_
    refine ax_icmp_ge rfl (by omega) (by omega) (fun h12 => ?_) (fun h12 => ?_)
    · exact hx M1 hinv
    · omega
  | succ t ih =>
    intro i M1 hi h0 hinv
    obtain ⟨hf, hk, r, hr, hri, hR, hz, hc⟩ := hinv
    have h4 := hf 4 (by decide)
    have eX := hk 5 (by decide) (by decide)
    have eY := hk 6 (by decide) (by decide)
    have eW := hk 7 (by decide) (by decide)
    by_cases hi0 : i = 0
    · subst hi0
      have hr0 := hz rfl
      subst hr0
      refine ax_iloadn rfl rfl ?_
      refine ax_aloadn rfl rfl ?_
      refine ax_getI (g := 4) rfl fX4_22 rfl rfl rfl rfl ?_
      refine ax_icmp_ge rfl (by omega) (by omega) (fun h12 => ?_) (fun h12 => ?_)
      · omega
      · refine ax_aloadn rfl rfl ?_
        refine ax_iloadn rfl rfl ?_
        refine ax_iconst rfl ?_
        refine ax_callV (as := [_, _]) rfl vX4_39 hX4_extend rfl rfl rfl rfl rfl (c_H_ext0 E d M1 0 (by omega) (by rw [hr]; rfl)) (fun r18 M18 hr18 => ?_)
        obtain ⟨rfl, g2, g3, g4, g5, g6⟩ := hr18
        refine ax_iinc (ls' := [(0, _), (1, _)]) rfl rfl rfl rfl ?_
        refine ax_goto rfl ?_
        refine ih _ M18 (by omega) (by omega) ⟨fun f hf5 => by rw [g5 f hf5, hf f hf5], fun k k0 k1 => by rw [g6 k k0 k1, hk k k0 k1], 1, by rw [g2]; rfl, by omega, fun j j0 j1 => by rw [show j = 0 by omega, g3]; omega, fun h => by omega, fun _ => ?_⟩
        have gX := (g6 5 (by decide) (by decide)).trans eX
        have gY := (g6 6 (by decide) (by decide)).trans eY
        have gW := (g6 7 (by decide) (by decide)).trans eW
        have ec : (cn (M18 5) (M18 6) (M18 7) (M18 8)) 0 = (P2 (M 5 (0)) (M 6 (0)) (M 7 (0))) := by unfold cn; rw [show ((0 : Nat) : Int) = 0 by rfl, g3, gX, gY, gW]
        refine ⟨?_, ec⟩
        rw [show (0 : Int) + 1 = 1 by rfl, Lo_one]
        exact CH_one ec
    · obtain ⟨hCH, htop⟩ := hc (by omega)
      have eC : (cn (M1 5) (M1 6) (M1 7) (M1 8)) = cn (M 5) (M 6) (M 7) (M1 8) := by rw [eX, eY, eW]
      have hlow : ∀ s, Lo (M 5) (M 6) (M 7) i s → lq 1 s (P2 (M 5 (i)) (M 6 (i)) (M 7 (i))) := by
        rintro s ⟨j, j0, j1, rfl⟩
        exact lq_1.mpr (OE_lt hE j0 j1 (by omega))
      refine ax_iloadn rfl rfl ?_
      refine ax_aloadn rfl rfl ?_
      refine ax_getI (g := 4) rfl fX4_22 rfl rfl rfl rfl ?_
      refine ax_icmp_ge rfl (by omega) (by omega) (fun h12 => ?_) (fun h12 => ?_)
      · omega
      · refine ax_aloadn rfl rfl ?_
        refine ax_iloadn rfl rfl ?_
        refine ax_iconst rfl ?_
        refine ax_callV (as := [_, _]) rfl vX4_39 hX4_extend rfl rfl rfl rfl rfl (c_H_ext E d M1 1 (Or.inl rfl) (Lo (M 5) (M 6) (M 7) i) 0 r i (M 4 4) hn ⟨h0, by omega⟩ (fun r' a b _ => by omega) (by omega) (by rw [eX, eY, eW]; exact hE.2.1) (by rw [eX, eY, eW]; exact hlow) hR hr hCH (Or.inl (by
        rintro s ⟨j, j0, j1, rfl⟩
        rw [htop]
        by_cases hj : j = i - 1
        · rw [hj]; exact Or.inl rfl
        · exact Or.inr (lq_1.mpr (OE_lt hE j0 (by omega) (by omega)))))) (fun r18 M18 hr18 => ?_)
        obtain ⟨rfl, r', g1, g2, g3, g4, g5, g6, g7, g8, g9⟩ := hr18
        refine ax_iinc (ls' := [(0, _), (1, _)]) rfl rfl rfl rfl ?_
        refine ax_goto rfl ?_
        refine ih _ M18 (by omega) (by omega) ⟨fun f hf5 => by rw [g6 f hf5, hf f hf5], fun k k0 k1 => by rw [g7 k k0 k1, hk k k0 k1], r' + 1, by rw [g3]; rfl, by omega, fun j j0 j1 => ?_, fun h => by omega, fun _ => ?_⟩
        · by_cases hj : j = r'
          · rw [hj, g4]; omega
          · rw [g5 j hj]; exact hR j j0 (by omega)
        · have gX := (g7 5 (by decide) (by decide)).trans eX
          have gY := (g7 6 (by decide) (by decide)).trans eY
          have gW := (g7 7 (by decide) (by decide)).trans eW
          refine ⟨?_, ?_⟩
          · rw [eX, eY, eW, Lo_succ h0] at g8
            exact g8
          · unfold cn
            rw [show ((r' + 1 - 1 : Nat) : Int) = r' by omega, g4, gX, gY, gW, show i + 1 - 1 = i by omega]
set_option maxRecDepth 100000 in
set_option maxHeartbeats 4000000 in
theorem l_H_up (E : av_E) (d : Nat) (M : av_M) (S : pt → Prop) (hE : OE (M 5) (M 6) (M 7) (M 4 4) S) (hn : (M 4 4) ≤ 12) (k : Nat) (Q : Option av_V → av_M → Prop)
    (hx : ∀ M1 : av_M, ((∀ f, f ≠ 5 → M1 4 f = M 4 f) ∧ (∀ k, k ≠ 4 → k ≠ 8 → M1 k = M k) ∧ ∃ r : Nat, M1 4 5 = r ∧ (∀ j, 0 ≤ j → j < (r : Int) → 0 ≤ M1 8 j ∧ M1 8 j < (M 4 4)) ∧ CH (-1) (Up (M 5) (M 6) (M 7) (-1) (M 4 4)) k r (cn (M1 5) (M1 6) (M1 7) (M1 8)) ∧ (cn (M1 5) (M1 6) (M1 7) (M1 8)) (r - 1) = (P2 (M 5 (-1 + 1)) (M 6 (-1 + 1)) (M 7 (-1 + 1))) ∧ CH 1 S 0 (k + 1) (cn (M1 5) (M1 6) (M1 7) (M1 8)) ∧ (r : Int) ≤ (M 4 4) + 1) → av_S E (d + 2) mX4_wrap 57 [(0, vR 4), (1, vI (k + 2)), (2, vI (-1))] [] M1 Q) :
    ∀ (t : Nat) (i : Int) (M1 : av_M), i + 1 = t → i + 1 < (M 4 4) → ((∀ f, f ≠ 5 → M1 4 f = M 4 f) ∧ (∀ k, k ≠ 4 → k ≠ 8 → M1 k = M k) ∧ ∃ r : Nat, M1 4 5 = r ∧ (∀ j, 0 ≤ j → j < (r : Int) → 0 ≤ M1 8 j ∧ M1 8 j < (M 4 4)) ∧ CH (-1) (Up (M 5) (M 6) (M 7) (i) (M 4 4)) k r (cn (M1 5) (M1 6) (M1 7) (M1 8)) ∧ (cn (M1 5) (M1 6) (M1 7) (M1 8)) (r - 1) = (P2 (M 5 (i + 1)) (M 6 (i + 1)) (M 7 (i + 1))) ∧ CH 1 S 0 (k + 1) (cn (M1 5) (M1 6) (M1 7) (M1 8)) ∧ (r : Int) ≤ (M 4 4) + 1) → av_S E (d + 2) mX4_wrap 41 [(0, vR 4), (1, vI (k + 2)), (2, vI i)] [] M1 Q := by
  intro t
  induction t with
  | zero =>
    intro i M1 hi h0 hinv
    have e : i = -1 := by omega
    subst e
    refine ax_iloadn rfl rfl ?_
    refine ax_if_lt rfl (by omega) (fun h42 => ?_) (fun h42 => ?_)
    · exact hx M1 hinv
    · omega
  | succ t ih =>
    intro i M1 hi h0 hinv
    obtain ⟨hf, hk, r, hr, hR, hCH, htop, hlow, hrn⟩ := hinv
    have eX := hk 5 (by decide) (by decide)
    have eY := hk 6 (by decide) (by decide)
    have eW := hk 7 (by decide) (by decide)
    have hkr := hCH.1
    have hup : ∀ s, Up (M 5) (M 6) (M 7) i (M 4 4) s → lq (-1) s (P2 (M 5 (i)) (M 6 (i)) (M 7 (i))) := by
      rintro s ⟨j, j0, j1, rfl⟩
      exact lq_m.mpr (OE_lt hE (by omega) j0 j1)
    have hcap : ∀ r' : Nat, k < r' → r' ≤ r → (k + 1 = r' ∨ 0 < cr ((cn (M1 5) (M1 6) (M1 7) (M1 8)) (r' - 2)) ((cn (M1 5) (M1 6) (M1 7) (M1 8)) (r' - 1)) (P2 (M 5 (i)) (M 6 (i)) (M 7 (i)))) → (r' : Int) ≤ (M 4 4) := by
      intro r' a b c
      have := up_cap (n := (M 4 4).toNat) (R := fun j => (M1 8 j).toNat) hlow hCH (fun q hq => by
        obtain ⟨j, j0, j1, rfl⟩ := hq
        exact OE_in hE (by omega) j1) a b c (OE_in hE (by omega) (by omega)) hup (fun j hj => by have := hR j (by omega) (by omega); omega) (fun j l hj hl e => by
        have q1 := hR j (by omega) (by omega)
        have q2 := hR l (by omega) (by omega)
        have e' : M1 8 j = M1 8 l := by
          have e0 : (M1 8 j).toNat = (M1 8 l).toNat := e
          omega
        unfold cn; rw [e'])
      have := hE.1
      omega
    refine ax_iloadn rfl rfl ?_
    refine ax_if_lt rfl (by omega) (fun h42 => ?_) (fun h42 => ?_)
    · omega
    · refine ax_aloadn rfl rfl ?_
      refine ax_iloadn rfl rfl ?_
      refine ax_iloadn rfl rfl ?_
      refine ax_callV (as := [_, _]) rfl vX4_39 hX4_extend rfl rfl rfl rfl rfl (c_H_ext E d M1 (-1) (Or.inr rfl) (Up (M 5) (M 6) (M 7) i (M 4 4)) k r i (M 4 4) hn ⟨by omega, by omega⟩ (fun r' a b c => by rw [eX, eY, eW] at c; have := hcap r' a b (by rw [eX, eY, eW]; exact c); omega) (by omega) (by rw [eX, eY, eW]; exact hE.2.1) (by rw [eX, eY, eW]; exact hup) hR hr hCH (Or.inl (by
      rintro s ⟨j, j0, j1, rfl⟩
      rw [htop]
      by_cases hj : j = i + 1
      · rw [hj]; exact Or.inl rfl
      · exact Or.inr (lq_m.mpr (OE_lt hE (by omega) (by omega) (by omega)))))) (fun r48 M48 hr48 => ?_)
      obtain ⟨rfl, r', g1, g2, g3, g4, g5, g6, g7, g8, g9⟩ := hr48
      refine ax_iinc (ls' := [(0, _), (1, _), (2, _)]) rfl rfl rfl rfl ?_
      refine ax_goto rfl ?_
      refine ih _ M48 (by omega) (by omega) ⟨fun f hf5 => by rw [g6 f hf5, hf f hf5], fun l k0 k1 => by rw [g7 l k0 k1, hk l k0 k1], r' + 1, by rw [g3]; rfl, fun j j0 j1 => ?_, ?_, ?_, ?_, ?_⟩
      · by_cases hj : j = r'
        · rw [hj, g4]; omega
        · rw [g5 j hj]; exact hR j j0 (by omega)
      · rw [eX, eY, eW, Up_succ (by omega)] at g8
        exact g8
      · unfold cn
        rw [show ((r' + 1 - 1 : Nat) : Int) = r' by omega, g4, g7 5 (by decide) (by decide), g7 6 (by decide) (by decide), g7 7 (by decide) (by decide), eX, eY, eW, show i + -1 + 1 = i by omega]
      · refine CH_congr hlow (fun j hj => ?_)
        unfold cn
        rw [g5 j (by omega), g7 5 (by decide) (by decide), g7 6 (by decide) (by decide), g7 7 (by decide) (by decide)]
      · by_cases hrr : r' = r
        · have hc2 : (k + 1 = r' ∨ 0 < cr ((cn (M1 5) (M1 6) (M1 7) (M1 8)) (r' - 2)) ((cn (M1 5) (M1 6) (M1 7) (M1 8)) (r' - 1)) (P2 (M 5 (i)) (M 6 (i)) (M 7 (i)))) := by
            by_cases hk1 : k + 1 = r'
            · exact Or.inl hk1
            · right
              have q := g8.2.2.2.2 (r' - 2) (by omega) (by omega)
              rw [show r' - 2 + 1 = r' - 1 by omega, show r' - 2 + 2 = r' by omega] at q
              have w1 : (cn (M48 5) (M48 6) (M48 7) (M48 8)) (r' - 2) = (cn (M1 5) (M1 6) (M1 7) (M1 8)) (r' - 2) := by unfold cn; rw [g5 _ (by omega), g7 5 (by decide) (by decide), g7 6 (by decide) (by decide), g7 7 (by decide) (by decide)]
              have w2 : (cn (M48 5) (M48 6) (M48 7) (M48 8)) (r' - 1) = (cn (M1 5) (M1 6) (M1 7) (M1 8)) (r' - 1) := by unfold cn; rw [g5 _ (by omega), g7 5 (by decide) (by decide), g7 6 (by decide) (by decide), g7 7 (by decide) (by decide)]
              have w3 : (cn (M48 5) (M48 6) (M48 7) (M48 8)) r' = (P2 (M 5 (i)) (M 6 (i)) (M 7 (i))) := by unfold cn; rw [g4, g7 5 (by decide) (by decide), g7 6 (by decide) (by decide), g7 7 (by decide) (by decide), eX, eY, eW]
              rw [w1, w2, w3] at q
              exact q
          have := hcap r' g1 g2 hc2
          omega
        · omega
set_option maxRecDepth 100000 in
set_option maxHeartbeats 4000000 in
theorem c_H_wrap (E : av_E) (d : Nat) (M : av_M) (S : pt → Prop) (hE : OE (M 5) (M 6) (M 7) (M 4 4) S) (hn : (M 4 4) ≤ 12) : av_Mt E (d + 2) mX4_wrap [vR 4] M (fun res M' => res = none ∧ OO (M' 5) (M' 6) (M' 7) (M' 8) (M' 4 4) (M' 4 5) S ∧ M' 5 = M 5 ∧ M' 6 = M 6 ∧ M' 7 = M 7 ∧ (∀ f, f ≠ 5 → M' 4 f = M 4 f) ∧ (∀ k, k ≠ 4 → k ≠ 8 → M' k = M k)) := by
  have hn0 := hE.1
  refine av_enter hX4_wrap oX4_wrap rfl rfl ?_
  refine ax_aloadn rfl rfl ?_
  refine ax_iconst rfl ?_
  refine ax_putI' (g := 5) rfl gX4_36 rfl rfl rfl rfl (fun M2 a2 b2 c2 => ?_)
  refine ax_iconst rfl ?_
  refine ax_istoren (ls' := [(0, _), (1, _)]) rfl rfl rfl ?_
  have w4 : M2 4 4 = M 4 4 := b2 4 (by decide)
  refine l_H_low E d M S hE hn _ (fun M1 hinv => ?_) (M 4 4).toNat 0 M2 (by omega) (by omega) ⟨b2, fun k k0 k1 => c2 k k0, 0, by rw [a2]; rfl, by omega, fun j j0 j1 => by omega, fun _ => rfl, fun h => by omega⟩
  obtain ⟨hf, hk, r, hr, hri, hR, hz, hc⟩ := hinv
  have h4 := hf 4 (by decide)
  have eX := hk 5 (by decide) (by decide)
  have eY := hk 6 (by decide) (by decide)
  have eW := hk 7 (by decide) (by decide)
  by_cases hlt : (M 4 4) ≤ 1
  · refine ax_aloadn rfl rfl ?_
    refine ax_getI (g := 5) rfl fX4_36 rfl rfl rfl rfl ?_
    refine ax_iconst rfl ?_
    refine ax_iadd rfl ?_
    refine ax_istoren (ls' := [(0, _), (1, _)]) rfl rfl rfl ?_
    refine ax_aloadn rfl rfl ?_
    refine ax_getI (g := 4) rfl fX4_22 rfl rfl rfl rfl ?_
    refine ax_iconst rfl ?_
    refine ax_isub rfl ?_
    refine ax_istoren (ls' := [(0, _), (1, _), (2, _)]) rfl rfl rfl ?_
    refine ax_iloadn rfl rfl ?_
    refine ax_if_lt rfl (by omega) (fun h42 => ?_) (fun h42 => ?_)
    · refine ax_aloadn rfl rfl ?_
      refine ax_getI (g := 4) rfl fX4_22 rfl rfl rfl rfl ?_
      refine ax_iconst rfl ?_
      refine ax_icmp_le rfl (by omega) (by omega) (fun h62 => ?_) (fun h62 => ?_)
      · refine ax_vret rfl rfl ?_
        first
          | omega
          | (refine ⟨rfl, ?_, eX, eY, eW, hf, hk⟩
             rw [eX, eY, eW, h4, hr]
             refine ⟨hE, by omega, fun h => by have := hz h; omega, hR, fun h => ?_⟩
             have e1 : (M 4 4) = 1 := by omega
             obtain ⟨hCH, htop⟩ := hc h
             have hb := hCH.1
             have er : r = 1 := by omega
             subst er
             have hl := Lo_all hE
             rw [e1] at hCH
             rw [e1] at hl
             rw [hl, eX, eY, eW] at hCH
             have q := hCH.2.1 0 (by omega) (by omega)
             refine Hull_one q (fun p hp => ?_)
             rw [← hl, Lo_one] at hp
             rw [← hl, Lo_one] at q
             exact hp.trans q.symm)
      · refine ax_aloadn rfl rfl ?_
        refine ax_dup rfl rfl ?_
        refine ax_getI (g := 5) rfl fX4_36 rfl rfl rfl rfl ?_
        refine ax_iconst rfl ?_
        refine ax_isub rfl ?_
        refine ax_putI' (g := 5) rfl gX4_36 rfl rfl rfl rfl (fun M72 a72 b72 c72 => ?_)
        refine ax_vret rfl rfl ?_
        first
          | omega
          | (refine ⟨rfl, ?_, eX, eY, eW, hf, hk⟩
             rw [eX, eY, eW, h4, hr]
             refine ⟨hE, by omega, fun h => by have := hz h; omega, hR, fun h => ?_⟩
             have e1 : (M 4 4) = 1 := by omega
             obtain ⟨hCH, htop⟩ := hc h
             have hb := hCH.1
             have er : r = 1 := by omega
             subst er
             have hl := Lo_all hE
             rw [e1] at hCH
             rw [e1] at hl
             rw [hl, eX, eY, eW] at hCH
             have q := hCH.2.1 0 (by omega) (by omega)
             refine Hull_one q (fun p hp => ?_)
             rw [← hl, Lo_one] at hp
             rw [← hl, Lo_one] at q
             exact hp.trans q.symm)
    · omega
  · obtain ⟨hCH, htop⟩ := hc (by omega)
    rw [Lo_all hE] at hCH
    have hb := hCH.1
    have el : (r : Int) + 1 = ((r - 1 : Nat) : Int) + 2 := by omega
    have hk0 : 0 < r - 1 := by
      apply Classical.byContradiction
      intro hno
      have er : r = 1 := by omega
      subst er
      have q := hCH.2.2.1 (P2 (M 5 (0)) (M 6 (0)) (M 7 (0))) (OE_in hE (by omega) (by omega))
      have w : (cn (M1 5) (M1 6) (M1 7) (M1 8)) 0 = (P2 (M 5 ((M 4 4) - 1)) (M 6 ((M 4 4) - 1)) (M 7 ((M 4 4) - 1))) := htop
      rw [w] at q
      have l := OE_lt hE (i := 0) (j := (M 4 4) - 1) (by omega) (by omega) (by omega)
      rcases q with q | q
      · rw [← q] at l; exact lx_ir l
      · exact lx_as l (lq_1.mp q)
    refine ax_aloadn rfl rfl ?_
    refine ax_getI (g := 5) rfl fX4_36 rfl rfl rfl rfl ?_
    refine ax_iconst rfl ?_
    refine ax_iadd rfl ?_
    refine ax_istoren (ls' := [(0, _), (1, _)]) rfl rfl rfl ?_
    refine ax_aloadn rfl rfl ?_
    refine ax_getI (g := 4) rfl fX4_22 rfl rfl rfl rfl ?_
    refine ax_iconst rfl ?_
    refine ax_isub rfl ?_
    refine ax_istoren (ls' := [(0, _), (1, _), (2, _)]) rfl rfl rfl ?_
    rw [hr, h4, el]
    refine l_H_up E d M S hE hn (r - 1) _ (fun M3 hinv => ?_) ((M 4 4) - 1).toNat _ M1 (by omega) (by omega) ⟨hf, hk, r, hr, hR, ?_, ?_, ?_, by omega⟩
    · obtain ⟨hf3, hk3, r3, hr3, hR3, hu, ht3, hl3, hn3⟩ := hinv
      have h43 := hf3 4 (by decide)
      have fX := hk3 5 (by decide) (by decide)
      have fY := hk3 6 (by decide) (by decide)
      have fW := hk3 7 (by decide) (by decide)
      rw [Up_all hE] at hu
      have hb3 := hu.1
      refine ax_aloadn rfl rfl ?_
      refine ax_getI (g := 4) rfl fX4_22 rfl rfl rfl rfl ?_
      refine ax_iconst rfl ?_
      refine ax_icmp_le rfl (by omega) (by omega) (fun h62 => ?_) (fun h62 => ?_)
      · refine ax_vret rfl rfl ?_
        first
          | omega
          | (have kX := (c72 5 (by decide)).trans fX
             have kY := (c72 6 (by decide)).trans fY
             have kW := (c72 7 (by decide)).trans fW
             have kR := c72 8 (by decide)
             refine ⟨rfl, ?_, kX, kY, kW, fun f hf5 => by rw [b72 f hf5, hf3 f hf5], fun l l0 l1 => by rw [c72 l l0, hk3 l l0 l1]⟩
             rw [kX, kY, kW, kR, a72, b72 4 (by decide), h43, hr3]
             refine ⟨hE, by omega, fun h => by omega, fun j j0 j1 => hR3 j j0 (by omega), fun _ => ?_⟩
             rw [fX, fY, fW] at hu hl3 ht3
             rw [show ((r3 : Int) - 1).toNat = r3 - 1 by omega]
             refine Hull_of (k := r - 1) hl3 (by rw [show r3 - 1 + 1 = r3 by omega]; exact hu) ?_ hk0
             rw [ht3]
             rcases hl3.2.2.1 (P2 (M 5 (-1 + 1)) (M 6 (-1 + 1)) (M 7 (-1 + 1))) (OE_in hE (by omega) (by omega)) with q | q
             · exact q
             · exfalso
               rw [lq_1] at q
               have q0 := hl3.2.1 0 (by omega) (by omega)
               rw [← Lo_all hE] at q0
               obtain ⟨j, j0, j1, e⟩ := q0
               rw [e] at q
               by_cases hj : j = 0
               · rw [hj] at q; exact lx_ir q
               · exact lx_as q (OE_lt hE (by omega) (by omega) j1))
      · refine ax_aloadn rfl rfl ?_
        refine ax_dup rfl rfl ?_
        refine ax_getI (g := 5) rfl fX4_36 rfl rfl rfl rfl ?_
        refine ax_iconst rfl ?_
        refine ax_isub rfl ?_
        refine ax_putI' (g := 5) rfl gX4_36 rfl rfl rfl rfl (fun M72 a72 b72 c72 => ?_)
        refine ax_vret rfl rfl ?_
        first
          | omega
          | (have kX := (c72 5 (by decide)).trans fX
             have kY := (c72 6 (by decide)).trans fY
             have kW := (c72 7 (by decide)).trans fW
             have kR := c72 8 (by decide)
             refine ⟨rfl, ?_, kX, kY, kW, fun f hf5 => by rw [b72 f hf5, hf3 f hf5], fun l l0 l1 => by rw [c72 l l0, hk3 l l0 l1]⟩
             rw [kX, kY, kW, kR, a72, b72 4 (by decide), h43, hr3]
             refine ⟨hE, by omega, fun h => by omega, fun j j0 j1 => hR3 j j0 (by omega), fun _ => ?_⟩
             rw [fX, fY, fW] at hu hl3 ht3
             rw [show ((r3 : Int) - 1).toNat = r3 - 1 by omega]
             refine Hull_of (k := r - 1) hl3 (by rw [show r3 - 1 + 1 = r3 by omega]; exact hu) ?_ hk0
             rw [ht3]
             rcases hl3.2.2.1 (P2 (M 5 (-1 + 1)) (M 6 (-1 + 1)) (M 7 (-1 + 1))) (OE_in hE (by omega) (by omega)) with q | q
             · exact q
             · exfalso
               rw [lq_1] at q
               have q0 := hl3.2.1 0 (by omega) (by omega)
               rw [← Lo_all hE] at q0
               obtain ⟨j, j0, j1, e⟩ := q0
               rw [e] at q
               by_cases hj : j = 0
               · rw [hj] at q; exact lx_ir q
               · exact lx_as q (OE_lt hE (by omega) (by omega) j1))
    · rw [Up_one]
      have e5 : r = (r - 1) + 1 := by omega
      have : CH (-1) (fun p => p = (P2 (M 5 ((M 4 4) - 1)) (M 6 ((M 4 4) - 1)) (M 7 ((M 4 4) - 1)))) (r - 1) ((r - 1) + 1) (cn (M1 5) (M1 6) (M1 7) (M1 8)) := CH_one htop
      rw [← e5] at this
      exact this
    · rw [htop, show (M 4 4) - 2 + 1 = (M 4 4) - 1 by omega]
    · rw [show r - 1 + 1 = r by omega]; exact hCH
set_option maxRecDepth 100000 in
set_option maxHeartbeats 4000000 in
theorem l_O_low (E : av_E) (d : Nat) (M : av_M) (S : pt → Prop) (hE : OE (M 29) (M 30) (M 31) (M 28 4) S) (hn : (M 28 4) ≤ 120) (Q : Option av_V → av_M → Prop)
    (hx : ∀ M1 : av_M, ((∀ f, f ≠ 5 → M1 28 f = M 28 f) ∧ (∀ k, k ≠ 28 → k ≠ 32 → M1 k = M k) ∧ ∃ r : Nat, M1 28 5 = r ∧ (r : Int) ≤ (M 28 4) ∧ (∀ j, 0 ≤ j → j < (r : Int) → 0 ≤ M1 32 j ∧ M1 32 j < (M 28 4)) ∧ ((M 28 4) = 0 → r = 0) ∧ (0 < (M 28 4) → CH 1 (Lo (M 29) (M 30) (M 31) ((M 28 4))) 0 r (cn (M1 29) (M1 30) (M1 31) (M1 32)) ∧ (cn (M1 29) (M1 30) (M1 31) (M1 32)) (r - 1) = (P2 (M 29 ((M 28 4) - 1)) (M 30 ((M 28 4) - 1)) (M 31 ((M 28 4) - 1))))) → av_S E (d + 2) mX4_wrap 27 [(0, vR 28), (1, vI (M 28 4))] [] M1 Q) :
    ∀ (t : Nat) (i : Int) (M1 : av_M), i + t = (M 28 4) → 0 ≤ i → ((∀ f, f ≠ 5 → M1 28 f = M 28 f) ∧ (∀ k, k ≠ 28 → k ≠ 32 → M1 k = M k) ∧ ∃ r : Nat, M1 28 5 = r ∧ (r : Int) ≤ i ∧ (∀ j, 0 ≤ j → j < (r : Int) → 0 ≤ M1 32 j ∧ M1 32 j < (M 28 4)) ∧ (i = 0 → r = 0) ∧ (0 < i → CH 1 (Lo (M 29) (M 30) (M 31) (i)) 0 r (cn (M1 29) (M1 30) (M1 31) (M1 32)) ∧ (cn (M1 29) (M1 30) (M1 31) (M1 32)) (r - 1) = (P2 (M 29 (i - 1)) (M 30 (i - 1)) (M 31 (i - 1))))) → av_S E (d + 2) mX4_wrap 7 [(0, vR 28), (1, vI i)] [] M1 Q := by
  intro t
  induction t with
  | zero =>
    intro i M1 hi h0 hinv
    have e : i = (M 28 4) := by omega
    subst e
    have h4 := hinv.1 4 (by decide)
    refine ax_iloadn rfl rfl ?_
    refine ax_aloadn rfl rfl ?_
    refine ax_getI (g := 4) rfl fX4_22 rfl rfl rfl rfl ?_
    refine ax_icmp_ge rfl (by omega) (by omega) (fun h12 => ?_) (fun h12 => ?_)
    · exact hx M1 hinv
    · omega
  | succ t ih =>
    intro i M1 hi h0 hinv
    obtain ⟨hf, hk, r, hr, hri, hR, hz, hc⟩ := hinv
    have h4 := hf 4 (by decide)
    have eX := hk 29 (by decide) (by decide)
    have eY := hk 30 (by decide) (by decide)
    have eW := hk 31 (by decide) (by decide)
    by_cases hi0 : i = 0
    · subst hi0
      have hr0 := hz rfl
      subst hr0
      refine ax_iloadn rfl rfl ?_
      refine ax_aloadn rfl rfl ?_
      refine ax_getI (g := 4) rfl fX4_22 rfl rfl rfl rfl ?_
      refine ax_icmp_ge rfl (by omega) (by omega) (fun h12 => ?_) (fun h12 => ?_)
      · omega
      · refine ax_aloadn rfl rfl ?_
        refine ax_iloadn rfl rfl ?_
        refine ax_iconst rfl ?_
        refine ax_callV (as := [_, _]) rfl vX4_39 hX4_extend rfl rfl rfl rfl rfl (c_O_ext0 E d M1 0 (by omega) (by rw [hr]; rfl)) (fun r18 M18 hr18 => ?_)
        obtain ⟨rfl, g2, g3, g4, g5, g6⟩ := hr18
        refine ax_iinc (ls' := [(0, _), (1, _)]) rfl rfl rfl rfl ?_
        refine ax_goto rfl ?_
        refine ih _ M18 (by omega) (by omega) ⟨fun f hf5 => by rw [g5 f hf5, hf f hf5], fun k k0 k1 => by rw [g6 k k0 k1, hk k k0 k1], 1, by rw [g2]; rfl, by omega, fun j j0 j1 => by rw [show j = 0 by omega, g3]; omega, fun h => by omega, fun _ => ?_⟩
        have gX := (g6 29 (by decide) (by decide)).trans eX
        have gY := (g6 30 (by decide) (by decide)).trans eY
        have gW := (g6 31 (by decide) (by decide)).trans eW
        have ec : (cn (M18 29) (M18 30) (M18 31) (M18 32)) 0 = (P2 (M 29 (0)) (M 30 (0)) (M 31 (0))) := by unfold cn; rw [show ((0 : Nat) : Int) = 0 by rfl, g3, gX, gY, gW]
        refine ⟨?_, ec⟩
        rw [show (0 : Int) + 1 = 1 by rfl, Lo_one]
        exact CH_one ec
    · obtain ⟨hCH, htop⟩ := hc (by omega)
      have eC : (cn (M1 29) (M1 30) (M1 31) (M1 32)) = cn (M 29) (M 30) (M 31) (M1 32) := by rw [eX, eY, eW]
      have hlow : ∀ s, Lo (M 29) (M 30) (M 31) i s → lq 1 s (P2 (M 29 (i)) (M 30 (i)) (M 31 (i))) := by
        rintro s ⟨j, j0, j1, rfl⟩
        exact lq_1.mpr (OE_lt hE j0 j1 (by omega))
      refine ax_iloadn rfl rfl ?_
      refine ax_aloadn rfl rfl ?_
      refine ax_getI (g := 4) rfl fX4_22 rfl rfl rfl rfl ?_
      refine ax_icmp_ge rfl (by omega) (by omega) (fun h12 => ?_) (fun h12 => ?_)
      · omega
      · refine ax_aloadn rfl rfl ?_
        refine ax_iloadn rfl rfl ?_
        refine ax_iconst rfl ?_
        refine ax_callV (as := [_, _]) rfl vX4_39 hX4_extend rfl rfl rfl rfl rfl (c_O_ext E d M1 1 (Or.inl rfl) (Lo (M 29) (M 30) (M 31) i) 0 r i (M 28 4) hn ⟨h0, by omega⟩ (fun r' a b _ => by omega) (by omega) (by rw [eX, eY, eW]; exact hE.2.1) (by rw [eX, eY, eW]; exact hlow) hR hr hCH (Or.inl (by
        rintro s ⟨j, j0, j1, rfl⟩
        rw [htop]
        by_cases hj : j = i - 1
        · rw [hj]; exact Or.inl rfl
        · exact Or.inr (lq_1.mpr (OE_lt hE j0 (by omega) (by omega)))))) (fun r18 M18 hr18 => ?_)
        obtain ⟨rfl, r', g1, g2, g3, g4, g5, g6, g7, g8, g9⟩ := hr18
        refine ax_iinc (ls' := [(0, _), (1, _)]) rfl rfl rfl rfl ?_
        refine ax_goto rfl ?_
        refine ih _ M18 (by omega) (by omega) ⟨fun f hf5 => by rw [g6 f hf5, hf f hf5], fun k k0 k1 => by rw [g7 k k0 k1, hk k k0 k1], r' + 1, by rw [g3]; rfl, by omega, fun j j0 j1 => ?_, fun h => by omega, fun _ => ?_⟩
        · by_cases hj : j = r'
          · rw [hj, g4]; omega
          · rw [g5 j hj]; exact hR j j0 (by omega)
        · have gX := (g7 29 (by decide) (by decide)).trans eX
          have gY := (g7 30 (by decide) (by decide)).trans eY
          have gW := (g7 31 (by decide) (by decide)).trans eW
          refine ⟨?_, ?_⟩
          · rw [eX, eY, eW, Lo_succ h0] at g8
            exact g8
          · unfold cn
            rw [show ((r' + 1 - 1 : Nat) : Int) = r' by omega, g4, gX, gY, gW, show i + 1 - 1 = i by omega]
set_option maxRecDepth 100000 in
set_option maxHeartbeats 4000000 in
theorem l_O_up (E : av_E) (d : Nat) (M : av_M) (S : pt → Prop) (hE : OE (M 29) (M 30) (M 31) (M 28 4) S) (hn : (M 28 4) ≤ 120) (k : Nat) (Q : Option av_V → av_M → Prop)
    (hx : ∀ M1 : av_M, ((∀ f, f ≠ 5 → M1 28 f = M 28 f) ∧ (∀ k, k ≠ 28 → k ≠ 32 → M1 k = M k) ∧ ∃ r : Nat, M1 28 5 = r ∧ (∀ j, 0 ≤ j → j < (r : Int) → 0 ≤ M1 32 j ∧ M1 32 j < (M 28 4)) ∧ CH (-1) (Up (M 29) (M 30) (M 31) (-1) (M 28 4)) k r (cn (M1 29) (M1 30) (M1 31) (M1 32)) ∧ (cn (M1 29) (M1 30) (M1 31) (M1 32)) (r - 1) = (P2 (M 29 (-1 + 1)) (M 30 (-1 + 1)) (M 31 (-1 + 1))) ∧ CH 1 S 0 (k + 1) (cn (M1 29) (M1 30) (M1 31) (M1 32)) ∧ (r : Int) ≤ (M 28 4) + 1) → av_S E (d + 2) mX4_wrap 57 [(0, vR 28), (1, vI (k + 2)), (2, vI (-1))] [] M1 Q) :
    ∀ (t : Nat) (i : Int) (M1 : av_M), i + 1 = t → i + 1 < (M 28 4) → ((∀ f, f ≠ 5 → M1 28 f = M 28 f) ∧ (∀ k, k ≠ 28 → k ≠ 32 → M1 k = M k) ∧ ∃ r : Nat, M1 28 5 = r ∧ (∀ j, 0 ≤ j → j < (r : Int) → 0 ≤ M1 32 j ∧ M1 32 j < (M 28 4)) ∧ CH (-1) (Up (M 29) (M 30) (M 31) (i) (M 28 4)) k r (cn (M1 29) (M1 30) (M1 31) (M1 32)) ∧ (cn (M1 29) (M1 30) (M1 31) (M1 32)) (r - 1) = (P2 (M 29 (i + 1)) (M 30 (i + 1)) (M 31 (i + 1))) ∧ CH 1 S 0 (k + 1) (cn (M1 29) (M1 30) (M1 31) (M1 32)) ∧ (r : Int) ≤ (M 28 4) + 1) → av_S E (d + 2) mX4_wrap 41 [(0, vR 28), (1, vI (k + 2)), (2, vI i)] [] M1 Q := by
  intro t
  induction t with
  | zero =>
    intro i M1 hi h0 hinv
    have e : i = -1 := by omega
    subst e
    refine ax_iloadn rfl rfl ?_
    refine ax_if_lt rfl (by omega) (fun h42 => ?_) (fun h42 => ?_)
    · exact hx M1 hinv
    · omega
  | succ t ih =>
    intro i M1 hi h0 hinv
    obtain ⟨hf, hk, r, hr, hR, hCH, htop, hlow, hrn⟩ := hinv
    have eX := hk 29 (by decide) (by decide)
    have eY := hk 30 (by decide) (by decide)
    have eW := hk 31 (by decide) (by decide)
    have hkr := hCH.1
    have hup : ∀ s, Up (M 29) (M 30) (M 31) i (M 28 4) s → lq (-1) s (P2 (M 29 (i)) (M 30 (i)) (M 31 (i))) := by
      rintro s ⟨j, j0, j1, rfl⟩
      exact lq_m.mpr (OE_lt hE (by omega) j0 j1)
    have hcap : ∀ r' : Nat, k < r' → r' ≤ r → (k + 1 = r' ∨ 0 < cr ((cn (M1 29) (M1 30) (M1 31) (M1 32)) (r' - 2)) ((cn (M1 29) (M1 30) (M1 31) (M1 32)) (r' - 1)) (P2 (M 29 (i)) (M 30 (i)) (M 31 (i)))) → (r' : Int) ≤ (M 28 4) := by
      intro r' a b c
      have := up_cap (n := (M 28 4).toNat) (R := fun j => (M1 32 j).toNat) hlow hCH (fun q hq => by
        obtain ⟨j, j0, j1, rfl⟩ := hq
        exact OE_in hE (by omega) j1) a b c (OE_in hE (by omega) (by omega)) hup (fun j hj => by have := hR j (by omega) (by omega); omega) (fun j l hj hl e => by
        have q1 := hR j (by omega) (by omega)
        have q2 := hR l (by omega) (by omega)
        have e' : M1 32 j = M1 32 l := by
          have e0 : (M1 32 j).toNat = (M1 32 l).toNat := e
          omega
        unfold cn; rw [e'])
      have := hE.1
      omega
    refine ax_iloadn rfl rfl ?_
    refine ax_if_lt rfl (by omega) (fun h42 => ?_) (fun h42 => ?_)
    · omega
    · refine ax_aloadn rfl rfl ?_
      refine ax_iloadn rfl rfl ?_
      refine ax_iloadn rfl rfl ?_
      refine ax_callV (as := [_, _]) rfl vX4_39 hX4_extend rfl rfl rfl rfl rfl (c_O_ext E d M1 (-1) (Or.inr rfl) (Up (M 29) (M 30) (M 31) i (M 28 4)) k r i (M 28 4) hn ⟨by omega, by omega⟩ (fun r' a b c => by rw [eX, eY, eW] at c; have := hcap r' a b (by rw [eX, eY, eW]; exact c); omega) (by omega) (by rw [eX, eY, eW]; exact hE.2.1) (by rw [eX, eY, eW]; exact hup) hR hr hCH (Or.inl (by
      rintro s ⟨j, j0, j1, rfl⟩
      rw [htop]
      by_cases hj : j = i + 1
      · rw [hj]; exact Or.inl rfl
      · exact Or.inr (lq_m.mpr (OE_lt hE (by omega) (by omega) (by omega)))))) (fun r48 M48 hr48 => ?_)
      obtain ⟨rfl, r', g1, g2, g3, g4, g5, g6, g7, g8, g9⟩ := hr48
      refine ax_iinc (ls' := [(0, _), (1, _), (2, _)]) rfl rfl rfl rfl ?_
      refine ax_goto rfl ?_
      refine ih _ M48 (by omega) (by omega) ⟨fun f hf5 => by rw [g6 f hf5, hf f hf5], fun l k0 k1 => by rw [g7 l k0 k1, hk l k0 k1], r' + 1, by rw [g3]; rfl, fun j j0 j1 => ?_, ?_, ?_, ?_, ?_⟩
      · by_cases hj : j = r'
        · rw [hj, g4]; omega
        · rw [g5 j hj]; exact hR j j0 (by omega)
      · rw [eX, eY, eW, Up_succ (by omega)] at g8
        exact g8
      · unfold cn
        rw [show ((r' + 1 - 1 : Nat) : Int) = r' by omega, g4, g7 29 (by decide) (by decide), g7 30 (by decide) (by decide), g7 31 (by decide) (by decide), eX, eY, eW, show i + -1 + 1 = i by omega]
      · refine CH_congr hlow (fun j hj => ?_)
        unfold cn
        rw [g5 j (by omega), g7 29 (by decide) (by decide), g7 30 (by decide) (by decide), g7 31 (by decide) (by decide)]
      · by_cases hrr : r' = r
        · have hc2 : (k + 1 = r' ∨ 0 < cr ((cn (M1 29) (M1 30) (M1 31) (M1 32)) (r' - 2)) ((cn (M1 29) (M1 30) (M1 31) (M1 32)) (r' - 1)) (P2 (M 29 (i)) (M 30 (i)) (M 31 (i)))) := by
            by_cases hk1 : k + 1 = r'
            · exact Or.inl hk1
            · right
              have q := g8.2.2.2.2 (r' - 2) (by omega) (by omega)
              rw [show r' - 2 + 1 = r' - 1 by omega, show r' - 2 + 2 = r' by omega] at q
              have w1 : (cn (M48 29) (M48 30) (M48 31) (M48 32)) (r' - 2) = (cn (M1 29) (M1 30) (M1 31) (M1 32)) (r' - 2) := by unfold cn; rw [g5 _ (by omega), g7 29 (by decide) (by decide), g7 30 (by decide) (by decide), g7 31 (by decide) (by decide)]
              have w2 : (cn (M48 29) (M48 30) (M48 31) (M48 32)) (r' - 1) = (cn (M1 29) (M1 30) (M1 31) (M1 32)) (r' - 1) := by unfold cn; rw [g5 _ (by omega), g7 29 (by decide) (by decide), g7 30 (by decide) (by decide), g7 31 (by decide) (by decide)]
              have w3 : (cn (M48 29) (M48 30) (M48 31) (M48 32)) r' = (P2 (M 29 (i)) (M 30 (i)) (M 31 (i))) := by unfold cn; rw [g4, g7 29 (by decide) (by decide), g7 30 (by decide) (by decide), g7 31 (by decide) (by decide), eX, eY, eW]
              rw [w1, w2, w3] at q
              exact q
          have := hcap r' g1 g2 hc2
          omega
        · omega
set_option maxRecDepth 100000 in
set_option maxHeartbeats 4000000 in
theorem c_O_wrap (E : av_E) (d : Nat) (M : av_M) (S : pt → Prop) (hE : OE (M 29) (M 30) (M 31) (M 28 4) S) (hn : (M 28 4) ≤ 120) : av_Mt E (d + 2) mX4_wrap [vR 28] M (fun res M' => res = none ∧ OO (M' 29) (M' 30) (M' 31) (M' 32) (M' 28 4) (M' 28 5) S ∧ M' 29 = M 29 ∧ M' 30 = M 30 ∧ M' 31 = M 31 ∧ (∀ f, f ≠ 5 → M' 28 f = M 28 f) ∧ (∀ k, k ≠ 28 → k ≠ 32 → M' k = M k)) := by
  have hn0 := hE.1
  refine av_enter hX4_wrap oX4_wrap rfl rfl ?_
  refine ax_aloadn rfl rfl ?_
  refine ax_iconst rfl ?_
  refine ax_putI' (g := 5) rfl gX4_36 rfl rfl rfl rfl (fun M2 a2 b2 c2 => ?_)
  refine ax_iconst rfl ?_
  refine ax_istoren (ls' := [(0, _), (1, _)]) rfl rfl rfl ?_
  have w4 : M2 28 4 = M 28 4 := b2 4 (by decide)
  refine l_O_low E d M S hE hn _ (fun M1 hinv => ?_) (M 28 4).toNat 0 M2 (by omega) (by omega) ⟨b2, fun k k0 k1 => c2 k k0, 0, by rw [a2]; rfl, by omega, fun j j0 j1 => by omega, fun _ => rfl, fun h => by omega⟩
  obtain ⟨hf, hk, r, hr, hri, hR, hz, hc⟩ := hinv
  have h4 := hf 4 (by decide)
  have eX := hk 29 (by decide) (by decide)
  have eY := hk 30 (by decide) (by decide)
  have eW := hk 31 (by decide) (by decide)
  by_cases hlt : (M 28 4) ≤ 1
  · refine ax_aloadn rfl rfl ?_
    refine ax_getI (g := 5) rfl fX4_36 rfl rfl rfl rfl ?_
    refine ax_iconst rfl ?_
    refine ax_iadd rfl ?_
    refine ax_istoren (ls' := [(0, _), (1, _)]) rfl rfl rfl ?_
    refine ax_aloadn rfl rfl ?_
    refine ax_getI (g := 4) rfl fX4_22 rfl rfl rfl rfl ?_
    refine ax_iconst rfl ?_
    refine ax_isub rfl ?_
    refine ax_istoren (ls' := [(0, _), (1, _), (2, _)]) rfl rfl rfl ?_
    refine ax_iloadn rfl rfl ?_
    refine ax_if_lt rfl (by omega) (fun h42 => ?_) (fun h42 => ?_)
    · refine ax_aloadn rfl rfl ?_
      refine ax_getI (g := 4) rfl fX4_22 rfl rfl rfl rfl ?_
      refine ax_iconst rfl ?_
      refine ax_icmp_le rfl (by omega) (by omega) (fun h62 => ?_) (fun h62 => ?_)
      · refine ax_vret rfl rfl ?_
        first
          | omega
          | (refine ⟨rfl, ?_, eX, eY, eW, hf, hk⟩
             rw [eX, eY, eW, h4, hr]
             refine ⟨hE, by omega, fun h => by have := hz h; omega, hR, fun h => ?_⟩
             have e1 : (M 28 4) = 1 := by omega
             obtain ⟨hCH, htop⟩ := hc h
             have hb := hCH.1
             have er : r = 1 := by omega
             subst er
             have hl := Lo_all hE
             rw [e1] at hCH
             rw [e1] at hl
             rw [hl, eX, eY, eW] at hCH
             have q := hCH.2.1 0 (by omega) (by omega)
             refine Hull_one q (fun p hp => ?_)
             rw [← hl, Lo_one] at hp
             rw [← hl, Lo_one] at q
             exact hp.trans q.symm)
      · refine ax_aloadn rfl rfl ?_
        refine ax_dup rfl rfl ?_
        refine ax_getI (g := 5) rfl fX4_36 rfl rfl rfl rfl ?_
        refine ax_iconst rfl ?_
        refine ax_isub rfl ?_
        refine ax_putI' (g := 5) rfl gX4_36 rfl rfl rfl rfl (fun M72 a72 b72 c72 => ?_)
        refine ax_vret rfl rfl ?_
        first
          | omega
          | (refine ⟨rfl, ?_, eX, eY, eW, hf, hk⟩
             rw [eX, eY, eW, h4, hr]
             refine ⟨hE, by omega, fun h => by have := hz h; omega, hR, fun h => ?_⟩
             have e1 : (M 28 4) = 1 := by omega
             obtain ⟨hCH, htop⟩ := hc h
             have hb := hCH.1
             have er : r = 1 := by omega
             subst er
             have hl := Lo_all hE
             rw [e1] at hCH
             rw [e1] at hl
             rw [hl, eX, eY, eW] at hCH
             have q := hCH.2.1 0 (by omega) (by omega)
             refine Hull_one q (fun p hp => ?_)
             rw [← hl, Lo_one] at hp
             rw [← hl, Lo_one] at q
             exact hp.trans q.symm)
    · omega
  · obtain ⟨hCH, htop⟩ := hc (by omega)
    rw [Lo_all hE] at hCH
    have hb := hCH.1
    have el : (r : Int) + 1 = ((r - 1 : Nat) : Int) + 2 := by omega
    have hk0 : 0 < r - 1 := by
      apply Classical.byContradiction
      intro hno
      have er : r = 1 := by omega
      subst er
      have q := hCH.2.2.1 (P2 (M 29 (0)) (M 30 (0)) (M 31 (0))) (OE_in hE (by omega) (by omega))
      have w : (cn (M1 29) (M1 30) (M1 31) (M1 32)) 0 = (P2 (M 29 ((M 28 4) - 1)) (M 30 ((M 28 4) - 1)) (M 31 ((M 28 4) - 1))) := htop
      rw [w] at q
      have l := OE_lt hE (i := 0) (j := (M 28 4) - 1) (by omega) (by omega) (by omega)
      rcases q with q | q
      · rw [← q] at l; exact lx_ir l
      · exact lx_as l (lq_1.mp q)
    refine ax_aloadn rfl rfl ?_
    refine ax_getI (g := 5) rfl fX4_36 rfl rfl rfl rfl ?_
    refine ax_iconst rfl ?_
    refine ax_iadd rfl ?_
    refine ax_istoren (ls' := [(0, _), (1, _)]) rfl rfl rfl ?_
    refine ax_aloadn rfl rfl ?_
    refine ax_getI (g := 4) rfl fX4_22 rfl rfl rfl rfl ?_
    refine ax_iconst rfl ?_
    refine ax_isub rfl ?_
    refine ax_istoren (ls' := [(0, _), (1, _), (2, _)]) rfl rfl rfl ?_
    rw [hr, h4, el]
    refine l_O_up E d M S hE hn (r - 1) _ (fun M3 hinv => ?_) ((M 28 4) - 1).toNat _ M1 (by omega) (by omega) ⟨hf, hk, r, hr, hR, ?_, ?_, ?_, by omega⟩
    · obtain ⟨hf3, hk3, r3, hr3, hR3, hu, ht3, hl3, hn3⟩ := hinv
      have h43 := hf3 4 (by decide)
      have fX := hk3 29 (by decide) (by decide)
      have fY := hk3 30 (by decide) (by decide)
      have fW := hk3 31 (by decide) (by decide)
      rw [Up_all hE] at hu
      have hb3 := hu.1
      refine ax_aloadn rfl rfl ?_
      refine ax_getI (g := 4) rfl fX4_22 rfl rfl rfl rfl ?_
      refine ax_iconst rfl ?_
      refine ax_icmp_le rfl (by omega) (by omega) (fun h62 => ?_) (fun h62 => ?_)
      · refine ax_vret rfl rfl ?_
        first
          | omega
          | (have kX := (c72 29 (by decide)).trans fX
             have kY := (c72 30 (by decide)).trans fY
             have kW := (c72 31 (by decide)).trans fW
             have kR := c72 32 (by decide)
             refine ⟨rfl, ?_, kX, kY, kW, fun f hf5 => by rw [b72 f hf5, hf3 f hf5], fun l l0 l1 => by rw [c72 l l0, hk3 l l0 l1]⟩
             rw [kX, kY, kW, kR, a72, b72 4 (by decide), h43, hr3]
             refine ⟨hE, by omega, fun h => by omega, fun j j0 j1 => hR3 j j0 (by omega), fun _ => ?_⟩
             rw [fX, fY, fW] at hu hl3 ht3
             rw [show ((r3 : Int) - 1).toNat = r3 - 1 by omega]
             refine Hull_of (k := r - 1) hl3 (by rw [show r3 - 1 + 1 = r3 by omega]; exact hu) ?_ hk0
             rw [ht3]
             rcases hl3.2.2.1 (P2 (M 29 (-1 + 1)) (M 30 (-1 + 1)) (M 31 (-1 + 1))) (OE_in hE (by omega) (by omega)) with q | q
             · exact q
             · exfalso
               rw [lq_1] at q
               have q0 := hl3.2.1 0 (by omega) (by omega)
               rw [← Lo_all hE] at q0
               obtain ⟨j, j0, j1, e⟩ := q0
               rw [e] at q
               by_cases hj : j = 0
               · rw [hj] at q; exact lx_ir q
               · exact lx_as q (OE_lt hE (by omega) (by omega) j1))
      · refine ax_aloadn rfl rfl ?_
        refine ax_dup rfl rfl ?_
        refine ax_getI (g := 5) rfl fX4_36 rfl rfl rfl rfl ?_
        refine ax_iconst rfl ?_
        refine ax_isub rfl ?_
        refine ax_putI' (g := 5) rfl gX4_36 rfl rfl rfl rfl (fun M72 a72 b72 c72 => ?_)
        refine ax_vret rfl rfl ?_
        first
          | omega
          | (have kX := (c72 29 (by decide)).trans fX
             have kY := (c72 30 (by decide)).trans fY
             have kW := (c72 31 (by decide)).trans fW
             have kR := c72 32 (by decide)
             refine ⟨rfl, ?_, kX, kY, kW, fun f hf5 => by rw [b72 f hf5, hf3 f hf5], fun l l0 l1 => by rw [c72 l l0, hk3 l l0 l1]⟩
             rw [kX, kY, kW, kR, a72, b72 4 (by decide), h43, hr3]
             refine ⟨hE, by omega, fun h => by omega, fun j j0 j1 => hR3 j j0 (by omega), fun _ => ?_⟩
             rw [fX, fY, fW] at hu hl3 ht3
             rw [show ((r3 : Int) - 1).toNat = r3 - 1 by omega]
             refine Hull_of (k := r - 1) hl3 (by rw [show r3 - 1 + 1 = r3 by omega]; exact hu) ?_ hk0
             rw [ht3]
             rcases hl3.2.2.1 (P2 (M 29 (-1 + 1)) (M 30 (-1 + 1)) (M 31 (-1 + 1))) (OE_in hE (by omega) (by omega)) with q | q
             · exact q
             · exfalso
               rw [lq_1] at q
               have q0 := hl3.2.1 0 (by omega) (by omega)
               rw [← Lo_all hE] at q0
               obtain ⟨j, j0, j1, e⟩ := q0
               rw [e] at q
               by_cases hj : j = 0
               · rw [hj] at q; exact lx_ir q
               · exact lx_as q (OE_lt hE (by omega) (by omega) j1))
    · rw [Up_one]
      have e5 : r = (r - 1) + 1 := by omega
      have : CH (-1) (fun p => p = (P2 (M 29 ((M 28 4) - 1)) (M 30 ((M 28 4) - 1)) (M 31 ((M 28 4) - 1)))) (r - 1) ((r - 1) + 1) (cn (M1 29) (M1 30) (M1 31) (M1 32)) := CH_one htop
      rw [← e5] at this
      exact this
    · rw [htop, show (M 28 4) - 2 + 1 = (M 28 4) - 1 by omega]
    · rw [show r - 1 + 1 = r by omega]; exact hCH
end
section
/-! ===== outlines: what is asked of them ===== -/
def HdM (X Y W R : Int → Int) (n h : Int) (p : pt) : Prop := 0 < n ∧ ¬ lx p (P2 (X 0) (Y 0) (W 0)) ∧ ¬ lx (P2 (X (n - 1)) (Y (n - 1)) (W (n - 1))) p ∧ Inn h.toNat (cn X Y W R) p
noncomputable def cntP (P : Nat → Prop) : Nat → Int
  | 0 => 0
  | n + 1 => cntP P n + b01 (P n)
theorem cntP_rng (P : Nat → Prop) : ∀ n, 0 ≤ cntP P n ∧ cntP P n ≤ n := by
  intro n
  induction n with
  | zero => exact ⟨Int.le_refl _, Int.le_refl _⟩
  | succ n ih =>
    show 0 ≤ cntP P n + b01 (P n) ∧ cntP P n + b01 (P n) ≤ ((n + 1 : Nat) : Int)
    have := b01_rng (P n)
    omega
theorem cn_nxt {X Y W R : Int → Int} {h i : Int} (h0 : 0 ≤ i) (h1 : i < h) : cn X Y W R (nxt h.toNat i.toNat) = P2 (X (R (if i + 1 < h then i + 1 else 0))) (Y (R (if i + 1 < h then i + 1 else 0))) (W (R (if i + 1 < h then i + 1 else 0))) := by
  have e : ((nxt h.toNat i.toNat : Nat) : Int) = if i + 1 < h then i + 1 else 0 := by
    unfold nxt
    split <;> split <;> omega
  unfold cn; rw [e]
theorem cn_at {X Y W R : Int → Int} {i : Int} (h0 : 0 ≤ i) : cn X Y W R i.toNat = P2 (X (R i)) (Y (R i)) (W (R i)) := by
  unfold cn; rw [show ((i.toNat : Nat) : Int) = i by omega]
theorem P2_o : P2 0 0 1 = ((0 : Rat), (0 : Rat)) := by unfold P2; refine Prod.ext ?_ ?_ <;> (show ((0 : Int) : Rat) / ((1 : Int) : Rat) = 0) <;> grind
set_option maxRecDepth 100000 in
set_option maxHeartbeats 400000 in
theorem c_H_holds (E : av_E) (d : Nat) (M : av_M) (S : pt → Prop) (px py pw : Int) (hp : BP px py pw) (hO : OO (M 5) (M 6) (M 7) (M 8) (M 4 4) (M 4 5)  S) (hn : M 4 4 ≤ 12) (hh : M 4 5 ≤ 14) : av_Mt E (d + 2) mX4_holds [vR 4, vI px, vI py, vI pw] M (av_X (some (vI (b01 (HdM (M 5) (M 6) (M 7) (M 8) (M 4 4) (M 4 5) (P2 px py pw))))) M) := by
  obtain ⟨hE, hh0, hz, hR, hH⟩ := hO
  have hn0 := hE.1
  have hB := hE.2.1
  have hp0 := hp.2.2.1
  have loop : 0 < (M 4 4) → ¬ lx (P2 px py pw) (P2 (M 5 0) (M 6 0) (M 7 0)) → ¬ lx (P2 (M 5 ((M 4 4) - 1)) (M 6 ((M 4 4) - 1)) (M 7 ((M 4 4) - 1))) (P2 px py pw) → ∀ (t : Nat) (i : Int), i + t = (M 4 5) → 0 ≤ i → (∀ j : Nat, (j : Int) < i → 0 ≤ cr ((cn (M 5) (M 6) (M 7) (M 8)) j) ((cn (M 5) (M 6) (M 7) (M 8)) (nxt (M 4 5).toNat j)) (P2 px py pw)) → av_S E (d + 2) mX4_holds 39 [(0, vR 4), (1, vI px), (2, vI py), (3, vI pw), (4, vI i)] [] M (av_X (some (vI (b01 (HdM (M 5) (M 6) (M 7) (M 8) (M 4 4) (M 4 5) (P2 px py pw))))) M) := by
    intro k0 k1 k2 t
    induction t with
    | zero =>
      intro i hi i0 hall
      refine ax_iload rfl rfl ?_
      refine ax_aloadn rfl rfl ?_
      refine ax_getI (g := 5) rfl fX4_36 rfl rfl rfl rfl ?_
      refine ax_icmp_ge rfl (by omega) (by omega) (fun h45 => ?_) (fun h45 => ?_)
      · refine ax_iconst rfl ?_
        refine ax_zret rfl rfl (by omega) ?_
        exact av_rI (b01_t ⟨k0, k1, k2, fun j hj => hall j (by omega)⟩).symm
      · omega
    | succ t ih =>
      intro i hi i0 hall
      refine ax_iload rfl rfl ?_
      refine ax_aloadn rfl rfl ?_
      refine ax_getI (g := 5) rfl fX4_36 rfl rfl rfl rfl ?_
      refine ax_icmp_ge rfl (by omega) (by omega) (fun h45 => ?_) (fun h45 => ?_)
      · omega
      · refine ax_aloadn rfl rfl ?_
        refine ax_aloadn rfl rfl ?_
        refine ax_getR rfl fX4_19 rfl rfl ?_
        refine ax_iload rfl rfl ?_
        refine ax_iald rfl rfl (by omega) ?_
        refine ax_aloadn rfl rfl ?_
        refine ax_getR rfl fX4_19 rfl rfl ?_
        refine ax_aloadn rfl rfl ?_
        refine ax_iload rfl rfl ?_
        refine ax_callV (as := [_]) rfl vX4_47 hX4_next rfl rfl rfl rfl rfl (c_H_next E (d + 1) M i (by omega) (by omega)) (av_Xk ?_)
        refine ax_iald rfl rfl (by have := hR (if i + 1 < (M 4 5) then i + 1 else 0) (by split <;> omega) (by split <;> omega); split <;> omega) ?_
        refine ax_iloadn rfl rfl ?_
        refine ax_iloadn rfl rfl ?_
        refine ax_iloadn rfl rfl ?_
        refine ax_callV (as := [_, _, _, _, _]) rfl vX4_43 hX4_turn rfl rfl rfl rfl rfl (c_H_turn E (d + 1) M _ _ _ _ _ (by have := hR i (by omega) (by omega); omega) (by have := hR (if i + 1 < (M 4 5) then i + 1 else 0) (by split <;> omega) (by split <;> omega); omega) (hB _ (hR i (by omega) (by omega)).1 (hR i (by omega) (by omega)).2) (hB _ (hR (if i + 1 < (M 4 5) then i + 1 else 0) (by split <;> omega) (by split <;> omega)).1 (hR (if i + 1 < (M 4 5) then i + 1 else 0) (by split <;> omega) (by split <;> omega)).2) (Or.inl hp)) (av_Xk ?_)
        refine ax_lconst (w := 0) rfl rfl ?_
        refine ax_lif_ge rfl rfl (by
  have q0 := hR i (by omega) (by omega)
  have q1 := hR (if i + 1 < (M 4 5) then i + 1 else 0) (by split <;> omega) (by split <;> omega)
  exact D3_rng (hB _ q0.1 q0.2) (hB _ q1.1 q1.2) (hp)) (by omega) (fun h74 => ?_) (fun h74 => ?_)
        · refine ax_iinc (ls' := [(0, _), (1, _), (2, _), (3, _), (4, _)]) rfl rfl rfl rfl ?_
          refine ax_goto rfl ?_
          refine ih _ (by omega) (by omega) (fun j hj => ?_)
          by_cases hji : (j : Int) = i
          · have q0 := hR i (by omega) (by omega)
            have q1 := hR (if i + 1 < (M 4 5) then i + 1 else 0) (by split <;> omega) (by split <;> omega)
            have w0 := (hB _ q0.1 q0.2).2.2.1
            have w1 := (hB _ q1.1 q1.2).2.2.1
            have e1 := cn_nxt (X := M 5) (Y := M 6) (W := M 7) (R := M 8) (h := (M 4 5)) i0 (by omega)
            have e2 := cn_at (X := M 5) (Y := M 6) (W := M 7) (R := M 8) i0
            rw [show i.toNat = j by omega] at e1 e2
            rw [e1, e2]
            exact (P2_nn w0 w1 hp0).mp (by omega)
          · exact hall j (by omega)
        · refine ax_iconst rfl ?_
          refine ax_zret rfl rfl (by omega) ?_
          refine av_rI (b01_f ?_).symm
          rintro ⟨-, -, -, hin⟩
          have q0 := hR i (by omega) (by omega)
          have q1 := hR (if i + 1 < (M 4 5) then i + 1 else 0) (by split <;> omega) (by split <;> omega)
          have w0 := (hB _ q0.1 q0.2).2.2.1
          have w1 := (hB _ q1.1 q1.2).2.2.1
          have := hin i.toNat (by omega)
          rw [cn_nxt i0 (by omega), cn_at i0] at this
          have := (P2_nn w0 w1 hp0).mpr this
          omega
  refine av_enter hX4_holds oX4_holds rfl rfl ?_
  refine ax_aloadn rfl rfl ?_
  refine ax_getI (g := 4) rfl fX4_22 rfl rfl rfl rfl ?_
  refine ax_if_eq rfl (by omega) (fun h4 => ?_) (fun h4 => ?_)
  · refine ax_iconst rfl ?_
    refine ax_zret rfl rfl (by omega) ?_
    refine av_rI (b01_f ?_).symm
    rintro ⟨k0, k1, k2, -⟩
    first
      | omega
      | (rw [← sd_pos (hB 0 (by omega) (by omega)).2.2.1 hp0] at k1; omega)
      | (rw [← sd_neg (hB ((M 4 4) - 1) (by omega) (by omega)).2.2.1 hp0] at k2; omega)
  · refine ax_aloadn rfl rfl ?_
    refine ax_iconst rfl ?_
    refine ax_iloadn rfl rfl ?_
    refine ax_iloadn rfl rfl ?_
    refine ax_iloadn rfl rfl ?_
    refine ax_callV (as := [_, _, _, _]) rfl vX4_26 hX4_side rfl rfl rfl rfl rfl (c_H_side E d M _ px py pw (by omega) (hB _ (by omega) (by omega)) hp) (av_Xk ?_)
    refine ax_if_gt rfl (by have := sd_rng (M 5 (0)) (M 6 (0)) (M 7 (0)) px py pw; omega) (fun h15 => ?_) (fun h15 => ?_)
    · refine ax_iconst rfl ?_
      refine ax_zret rfl rfl (by omega) ?_
      refine av_rI (b01_f ?_).symm
      rintro ⟨k0, k1, k2, -⟩
      first
        | omega
        | (rw [← sd_pos (hB 0 (by omega) (by omega)).2.2.1 hp0] at k1; omega)
        | (rw [← sd_neg (hB ((M 4 4) - 1) (by omega) (by omega)).2.2.1 hp0] at k2; omega)
    · refine ax_aloadn rfl rfl ?_
      refine ax_aloadn rfl rfl ?_
      refine ax_getI (g := 4) rfl fX4_22 rfl rfl rfl rfl ?_
      refine ax_iconst rfl ?_
      refine ax_isub rfl ?_
      refine ax_iloadn rfl rfl ?_
      refine ax_iloadn rfl rfl ?_
      refine ax_iloadn rfl rfl ?_
      refine ax_callV (as := [_, _, _, _]) rfl vX4_26 hX4_side rfl rfl rfl rfl rfl (c_H_side E d M _ px py pw (by omega) (hB _ (by omega) (by omega)) hp) (av_Xk ?_)
      refine ax_if_ge rfl (by have := sd_rng (M 5 ((M 4 4) - 1)) (M 6 ((M 4 4) - 1)) (M 7 ((M 4 4) - 1)) px py pw; omega) (fun h31 => ?_) (fun h31 => ?_)
      · refine ax_iconst rfl ?_
        refine ax_istore (ls' := [(0, _), (1, _), (2, _), (3, _), (4, _)]) rfl rfl rfl ?_
        refine loop (by omega) ?_ ?_ (M 4 5).toNat 0 (by omega) (by omega) (fun j hj => by omega)
        · rw [← sd_pos (hB 0 (by omega) (by omega)).2.2.1 hp0]; omega
        · rw [← sd_neg (hB ((M 4 4) - 1) (by omega) (by omega)).2.2.1 hp0]; omega
      · refine ax_iconst rfl ?_
        refine ax_zret rfl rfl (by omega) ?_
        refine av_rI (b01_f ?_).symm
        rintro ⟨k0, k1, k2, -⟩
        first
          | omega
          | (rw [← sd_pos (hB 0 (by omega) (by omega)).2.2.1 hp0] at k1; omega)
          | (rw [← sd_neg (hB ((M 4 4) - 1) (by omega) (by omega)).2.2.1 hp0] at k2; omega)
set_option maxRecDepth 100000 in
set_option maxHeartbeats 400000 in
theorem c_H_missing (E : av_E) (d : Nat) (M : av_M) (S S2 : pt → Prop) (hO : OO (M 5) (M 6) (M 7) (M 8) (M 4 4) (M 4 5)  S) (hn : M 4 4 ≤ 12) (hh : M 4 5 ≤ 14) (hO2 : OO (M 29) (M 30) (M 31) (M 32) (M 28 4) (M 28 5)  S2) (hn2 : M 28 4 ≤ 120) (hh2 : M 28 5 ≤ 122) : av_Mt E (d + 3) mX4_cornersMissing [vR 4, vR 28] M (av_X (some (vI (cntP (fun i : Nat => ¬ (HdM (M 5) (M 6) (M 7) (M 8) (M 4 4) (M 4 5) (cn (M 29) (M 30) (M 31) (M 32) i))) (M 28 5).toNat))) M) := by
  obtain ⟨hE2, hh20, hz2, hR2, hH2⟩ := hO2
  have hB2 := hE2.2.1
  have loop : ∀ (t : Nat) (i : Int), i + t = (M 28 5) → 0 ≤ i → av_S E (d + 3) mX4_cornersMissing 4 [(0, vR 4), (1, vR 28), (2, vI (cntP (fun i : Nat => ¬ (HdM (M 5) (M 6) (M 7) (M 8) (M 4 4) (M 4 5) (cn (M 29) (M 30) (M 31) (M 32) i))) i.toNat)), (3, vI i)] [] M (av_X (some (vI (cntP (fun i : Nat => ¬ (HdM (M 5) (M 6) (M 7) (M 8) (M 4 4) (M 4 5) (cn (M 29) (M 30) (M 31) (M 32) i))) (M 28 5).toNat))) M) := by
    intro t
    induction t with
    | zero =>
      intro i hi i0
      have e : i = (M 28 5) := by omega
      subst e
      refine ax_iloadn rfl rfl ?_
      refine ax_aloadn rfl rfl ?_
      refine ax_getI (g := 5) rfl fX4_36 rfl rfl rfl rfl ?_
      refine ax_icmp_ge rfl (by omega) (by omega) (fun h9 => ?_) (fun h9 => ?_)
      · refine ax_iloadn rfl rfl ?_
        refine ax_iret rfl rfl ?_
        exact av_rI rfl
      · omega
    | succ t ih =>
      intro i hi i0
      have q := hR2 i i0 (by omega)
      have hb := hB2 _ q.1 q.2
      have rc := cntP_rng (fun i : Nat => ¬ (HdM (M 5) (M 6) (M 7) (M 8) (M 4 4) (M 4 5) (cn (M 29) (M 30) (M 31) (M 32) i))) i.toNat
      have es : (i + 1).toNat = i.toNat + 1 := by omega
      have ec : cn (M 29) (M 30) (M 31) (M 32) i.toNat = P2 (M 29 (M 32 i)) (M 30 (M 32 i)) (M 31 (M 32 i)) := cn_at i0
      have eh : b01 ((fun i : Nat => ¬ (HdM (M 5) (M 6) (M 7) (M 8) (M 4 4) (M 4 5) (cn (M 29) (M 30) (M 31) (M 32) i))) i.toNat) = b01 (¬ (HdM (M 5) (M 6) (M 7) (M 8) (M 4 4) (M 4 5) (P2 (M 29 (M 32 i)) (M 30 (M 32 i)) (M 31 (M 32 i))))) := by
        show b01 (¬ (HdM (M 5) (M 6) (M 7) (M 8) (M 4 4) (M 4 5) (cn (M 29) (M 30) (M 31) (M 32) i.toNat))) = _
        rw [ec]
      have br := b01_rng (HdM (M 5) (M 6) (M 7) (M 8) (M 4 4) (M 4 5) (P2 (M 29 (M 32 i)) (M 30 (M 32 i)) (M 31 (M 32 i))))
      refine ax_iloadn rfl rfl ?_
      refine ax_aloadn rfl rfl ?_
      refine ax_getI (g := 5) rfl fX4_36 rfl rfl rfl rfl ?_
      refine ax_icmp_ge rfl (by omega) (by omega) (fun h9 => ?_) (fun h9 => ?_)
      · omega
      · refine ax_aloadn rfl rfl ?_
        refine ax_aloadn rfl rfl ?_
        refine ax_iloadn rfl rfl ?_
        refine ax_callV (as := [_]) rfl vX4_51 hX4_xOf rfl rfl rfl rfl rfl (c_O_xOf E (d + 2) M i (by omega) (by omega)) (av_Xk ?_)
        refine ax_aloadn rfl rfl ?_
        refine ax_iloadn rfl rfl ?_
        refine ax_callV (as := [_]) rfl vX4_54 hX4_yOf rfl rfl rfl rfl rfl (c_O_yOf E (d + 2) M i (by omega) (by omega)) (av_Xk ?_)
        refine ax_aloadn rfl rfl ?_
        refine ax_iloadn rfl rfl ?_
        refine ax_callV (as := [_]) rfl vX4_57 hX4_wOf rfl rfl rfl rfl rfl (c_O_wOf E (d + 2) M i (by omega) (by omega)) (av_Xk ?_)
        refine ax_callV (as := [_, _, _]) rfl vX4_60 hX4_holds rfl rfl rfl rfl rfl (c_H_holds E d M S _ _ _ hb hO hn hh) (av_Xk ?_)
        refine ax_if_ne rfl (by omega) (fun h31 => ?_) (fun h31 => ?_)
        · refine ax_iinc (ls' := [(0, _), (1, _), (2, _), (3, _)]) rfl rfl rfl rfl ?_
          refine ax_goto rfl ?_
          have := ih (i + 1) (by omega) (by omega)
          rw [es] at this
          have e2 : cntP (fun i : Nat => ¬ (HdM (M 5) (M 6) (M 7) (M 8) (M 4 4) (M 4 5) (cn (M 29) (M 30) (M 31) (M 32) i))) (i.toNat + 1) = cntP (fun i : Nat => ¬ (HdM (M 5) (M 6) (M 7) (M 8) (M 4 4) (M 4 5) (cn (M 29) (M 30) (M 31) (M 32) i))) i.toNat + b01 ((fun i : Nat => ¬ (HdM (M 5) (M 6) (M 7) (M 8) (M 4 4) (M 4 5) (cn (M 29) (M 30) (M 31) (M 32) i))) i.toNat) := rfl
          rw [e2, eh] at this
          first
            | (rw [b01_f (fun hn => hn (b01_ne h31)), Int.add_zero] at this; exact this)
            | (rw [b01_t (b01_eq (by omega))] at this; exact this)
        · refine ax_iinc (ls' := [(0, _), (1, _), (2, _), (3, _)]) rfl rfl rfl rfl ?_
          refine ax_iinc (ls' := [(0, _), (1, _), (2, _), (3, _)]) rfl rfl rfl rfl ?_
          refine ax_goto rfl ?_
          have := ih (i + 1) (by omega) (by omega)
          rw [es] at this
          have e2 : cntP (fun i : Nat => ¬ (HdM (M 5) (M 6) (M 7) (M 8) (M 4 4) (M 4 5) (cn (M 29) (M 30) (M 31) (M 32) i))) (i.toNat + 1) = cntP (fun i : Nat => ¬ (HdM (M 5) (M 6) (M 7) (M 8) (M 4 4) (M 4 5) (cn (M 29) (M 30) (M 31) (M 32) i))) i.toNat + b01 ((fun i : Nat => ¬ (HdM (M 5) (M 6) (M 7) (M 8) (M 4 4) (M 4 5) (cn (M 29) (M 30) (M 31) (M 32) i))) i.toNat) := rfl
          rw [e2, eh] at this
          first
            | (rw [b01_f (fun hn => hn (b01_ne h31)), Int.add_zero] at this; exact this)
            | (rw [b01_t (b01_eq (by omega))] at this; exact this)
  refine av_enter hX4_cornersMissing oX4_cornersMissing rfl rfl ?_
  refine ax_iconst rfl ?_
  refine ax_istoren (ls' := [(0, _), (1, _), (2, _)]) rfl rfl rfl ?_
  refine ax_iconst rfl ?_
  refine ax_istoren (ls' := [(0, _), (1, _), (2, _), (3, _)]) rfl rfl rfl ?_
  exact loop (M 28 5).toNat 0 (by omega) (by omega)
set_option maxRecDepth 100000 in
set_option maxHeartbeats 400000 in
theorem c_H_cornerAt (E : av_E) (d : Nat) (M : av_M) (S : pt → Prop) (px py pw : Int) (hp : BP px py pw) (hO : OO (M 5) (M 6) (M 7) (M 8) (M 4 4) (M 4 5)  S) (hn : M 4 4 ≤ 12) (hh : M 4 5 ≤ 14) : av_Mt E (d + 2) mX4_cornerAt [vR 4, vI px, vI py, vI pw] M (fun r M' => M' = M ∧ ∃ z : Int, r = some (vI z) ∧ ((0 ≤ z ∧ z < (M 4 5) ∧ (cn (M 5) (M 6) (M 7) (M 8)) z.toNat = P2 px py pw) ∨ (z = -1 ∧ ∀ j : Nat, (j : Int) < (M 4 5) → (cn (M 5) (M 6) (M 7) (M 8)) j ≠ P2 px py pw))) := by
  obtain ⟨hE, hh0, hz, hR, hH⟩ := hO
  have hn0 := hE.1
  have hB := hE.2.1
  have hp0 := hp.2.2.1
  have loop : ∀ (t : Nat) (i : Int), i + t = (M 4 5) → 0 ≤ i → (∀ j : Nat, (j : Int) < i → (cn (M 5) (M 6) (M 7) (M 8)) j ≠ P2 px py pw) → av_S E (d + 2) mX4_cornerAt 3 [(0, vR 4), (1, vI px), (2, vI py), (3, vI pw), (4, vI i)] [] M (fun r M' => M' = M ∧ ∃ z : Int, r = some (vI z) ∧ ((0 ≤ z ∧ z < (M 4 5) ∧ (cn (M 5) (M 6) (M 7) (M 8)) z.toNat = P2 px py pw) ∨ (z = -1 ∧ ∀ j : Nat, (j : Int) < (M 4 5) → (cn (M 5) (M 6) (M 7) (M 8)) j ≠ P2 px py pw))) := by
    intro t
    induction t with
    | zero =>
      intro i hi i0 hall
      refine ax_iload rfl rfl ?_
      refine ax_aloadn rfl rfl ?_
      refine ax_getI (g := 5) rfl fX4_36 rfl rfl rfl rfl ?_
      refine ax_icmp_ge rfl (by omega) (by omega) (fun h9 => ?_) (fun h9 => ?_)
      · refine ax_iconst rfl ?_
        refine ax_iret rfl rfl ?_
        exact ⟨rfl, _, rfl, Or.inr ⟨rfl, fun j hj => hall j (by omega)⟩⟩
      · omega
    | succ t ih =>
      intro i hi i0 hall
      have q := hR i i0 (by omega)
      have hb := hB _ q.1 q.2
      have hw := hb.2.2.1
      have ec : (cn (M 5) (M 6) (M 7) (M 8)) i.toNat = P2 (M 5 (M 8 i)) (M 6 (M 8 i)) (M 7 (M 8 i)) := cn_at i0
      have sr := sd_rng (M 5 (M 8 i)) (M 6 (M 8 i)) (M 7 (M 8 i)) px py pw
      refine ax_iload rfl rfl ?_
      refine ax_aloadn rfl rfl ?_
      refine ax_getI (g := 5) rfl fX4_36 rfl rfl rfl rfl ?_
      refine ax_icmp_ge rfl (by omega) (by omega) (fun h9 => ?_) (fun h9 => ?_)
      · omega
      · refine ax_aloadn rfl rfl ?_
        refine ax_aloadn rfl rfl ?_
        refine ax_getR rfl fX4_19 rfl rfl ?_
        refine ax_iload rfl rfl ?_
        refine ax_iald rfl rfl (by omega) ?_
        refine ax_iloadn rfl rfl ?_
        refine ax_iloadn rfl rfl ?_
        refine ax_iloadn rfl rfl ?_
        refine ax_callV (as := [_, _, _, _]) rfl vX4_26 hX4_side rfl rfl rfl rfl rfl (c_H_side E d M _ px py pw (by omega) hb hp) (av_Xk ?_)
        refine ax_if_ne rfl (by omega) (fun h26 => ?_) (fun h26 => ?_)
        · refine ax_iinc (ls' := [(0, _), (1, _), (2, _), (3, _), (4, _)]) rfl rfl rfl rfl ?_
          refine ax_goto rfl ?_
          refine ih _ (by omega) (by omega) (fun j hj => ?_)
          by_cases hji : (j : Int) = i
          · have ej : i.toNat = j := by omega
            rw [← ej, ec]
            intro e
            rw [← sd_zero hw hp0] at e
            omega
          · exact hall j (by omega)
        · refine ax_iload rfl rfl ?_
          refine ax_iret rfl rfl ?_
          first
            | exact ⟨rfl, i, rfl, Or.inl ⟨i0, by omega, by rw [ec]; exact (sd_zero hw hp0).mp (by omega)⟩⟩
            | omega
  refine av_enter hX4_cornerAt oX4_cornerAt rfl rfl ?_
  refine ax_iconst rfl ?_
  refine ax_istore (ls' := [(0, _), (1, _), (2, _), (3, _), (4, _)]) rfl rfl rfl ?_
  exact loop (M 4 5).toNat 0 (by omega) (by omega) (fun j hj => by omega)
set_option maxRecDepth 100000 in
set_option maxHeartbeats 400000 in
theorem c_O_holds (E : av_E) (d : Nat) (M : av_M) (S : pt → Prop) (px py pw : Int) (hp : BP px py pw) (hO : OO (M 29) (M 30) (M 31) (M 32) (M 28 4) (M 28 5)  S) (hn : M 28 4 ≤ 120) (hh : M 28 5 ≤ 122) : av_Mt E (d + 2) mX4_holds [vR 28, vI px, vI py, vI pw] M (av_X (some (vI (b01 (HdM (M 29) (M 30) (M 31) (M 32) (M 28 4) (M 28 5) (P2 px py pw))))) M) := by
  obtain ⟨hE, hh0, hz, hR, hH⟩ := hO
  have hn0 := hE.1
  have hB := hE.2.1
  have hp0 := hp.2.2.1
  have loop : 0 < (M 28 4) → ¬ lx (P2 px py pw) (P2 (M 29 0) (M 30 0) (M 31 0)) → ¬ lx (P2 (M 29 ((M 28 4) - 1)) (M 30 ((M 28 4) - 1)) (M 31 ((M 28 4) - 1))) (P2 px py pw) → ∀ (t : Nat) (i : Int), i + t = (M 28 5) → 0 ≤ i → (∀ j : Nat, (j : Int) < i → 0 ≤ cr ((cn (M 29) (M 30) (M 31) (M 32)) j) ((cn (M 29) (M 30) (M 31) (M 32)) (nxt (M 28 5).toNat j)) (P2 px py pw)) → av_S E (d + 2) mX4_holds 39 [(0, vR 28), (1, vI px), (2, vI py), (3, vI pw), (4, vI i)] [] M (av_X (some (vI (b01 (HdM (M 29) (M 30) (M 31) (M 32) (M 28 4) (M 28 5) (P2 px py pw))))) M) := by
    intro k0 k1 k2 t
    induction t with
    | zero =>
      intro i hi i0 hall
      refine ax_iload rfl rfl ?_
      refine ax_aloadn rfl rfl ?_
      refine ax_getI (g := 5) rfl fX4_36 rfl rfl rfl rfl ?_
      refine ax_icmp_ge rfl (by omega) (by omega) (fun h45 => ?_) (fun h45 => ?_)
      · refine ax_iconst rfl ?_
        refine ax_zret rfl rfl (by omega) ?_
        exact av_rI (b01_t ⟨k0, k1, k2, fun j hj => hall j (by omega)⟩).symm
      · omega
    | succ t ih =>
      intro i hi i0 hall
      refine ax_iload rfl rfl ?_
      refine ax_aloadn rfl rfl ?_
      refine ax_getI (g := 5) rfl fX4_36 rfl rfl rfl rfl ?_
      refine ax_icmp_ge rfl (by omega) (by omega) (fun h45 => ?_) (fun h45 => ?_)
      · omega
      · refine ax_aloadn rfl rfl ?_
        refine ax_aloadn rfl rfl ?_
        refine ax_getR rfl fX4_19 rfl rfl ?_
        refine ax_iload rfl rfl ?_
        refine ax_iald rfl rfl (by omega) ?_
        refine ax_aloadn rfl rfl ?_
        refine ax_getR rfl fX4_19 rfl rfl ?_
        refine ax_aloadn rfl rfl ?_
        refine ax_iload rfl rfl ?_
        refine ax_callV (as := [_]) rfl vX4_47 hX4_next rfl rfl rfl rfl rfl (c_O_next E (d + 1) M i (by omega) (by omega)) (av_Xk ?_)
        refine ax_iald rfl rfl (by have := hR (if i + 1 < (M 28 5) then i + 1 else 0) (by split <;> omega) (by split <;> omega); split <;> omega) ?_
        refine ax_iloadn rfl rfl ?_
        refine ax_iloadn rfl rfl ?_
        refine ax_iloadn rfl rfl ?_
        refine ax_callV (as := [_, _, _, _, _]) rfl vX4_43 hX4_turn rfl rfl rfl rfl rfl (c_O_turn E (d + 1) M _ _ _ _ _ (by have := hR i (by omega) (by omega); omega) (by have := hR (if i + 1 < (M 28 5) then i + 1 else 0) (by split <;> omega) (by split <;> omega); omega) (hB _ (hR i (by omega) (by omega)).1 (hR i (by omega) (by omega)).2) (hB _ (hR (if i + 1 < (M 28 5) then i + 1 else 0) (by split <;> omega) (by split <;> omega)).1 (hR (if i + 1 < (M 28 5) then i + 1 else 0) (by split <;> omega) (by split <;> omega)).2) (Or.inl hp)) (av_Xk ?_)
        refine ax_lconst (w := 0) rfl rfl ?_
        refine ax_lif_ge rfl rfl (by
  have q0 := hR i (by omega) (by omega)
  have q1 := hR (if i + 1 < (M 28 5) then i + 1 else 0) (by split <;> omega) (by split <;> omega)
  exact D3_rng (hB _ q0.1 q0.2) (hB _ q1.1 q1.2) (hp)) (by omega) (fun h74 => ?_) (fun h74 => ?_)
        · refine ax_iinc (ls' := [(0, _), (1, _), (2, _), (3, _), (4, _)]) rfl rfl rfl rfl ?_
          refine ax_goto rfl ?_
          refine ih _ (by omega) (by omega) (fun j hj => ?_)
          by_cases hji : (j : Int) = i
          · have q0 := hR i (by omega) (by omega)
            have q1 := hR (if i + 1 < (M 28 5) then i + 1 else 0) (by split <;> omega) (by split <;> omega)
            have w0 := (hB _ q0.1 q0.2).2.2.1
            have w1 := (hB _ q1.1 q1.2).2.2.1
            have e1 := cn_nxt (X := M 29) (Y := M 30) (W := M 31) (R := M 32) (h := (M 28 5)) i0 (by omega)
            have e2 := cn_at (X := M 29) (Y := M 30) (W := M 31) (R := M 32) i0
            rw [show i.toNat = j by omega] at e1 e2
            rw [e1, e2]
            exact (P2_nn w0 w1 hp0).mp (by omega)
          · exact hall j (by omega)
        · refine ax_iconst rfl ?_
          refine ax_zret rfl rfl (by omega) ?_
          refine av_rI (b01_f ?_).symm
          rintro ⟨-, -, -, hin⟩
          have q0 := hR i (by omega) (by omega)
          have q1 := hR (if i + 1 < (M 28 5) then i + 1 else 0) (by split <;> omega) (by split <;> omega)
          have w0 := (hB _ q0.1 q0.2).2.2.1
          have w1 := (hB _ q1.1 q1.2).2.2.1
          have := hin i.toNat (by omega)
          rw [cn_nxt i0 (by omega), cn_at i0] at this
          have := (P2_nn w0 w1 hp0).mpr this
          omega
  refine av_enter hX4_holds oX4_holds rfl rfl ?_
  refine ax_aloadn rfl rfl ?_
  refine ax_getI (g := 4) rfl fX4_22 rfl rfl rfl rfl ?_
  refine ax_if_eq rfl (by omega) (fun h4 => ?_) (fun h4 => ?_)
  · refine ax_iconst rfl ?_
    refine ax_zret rfl rfl (by omega) ?_
    refine av_rI (b01_f ?_).symm
    rintro ⟨k0, k1, k2, -⟩
    first
      | omega
      | (rw [← sd_pos (hB 0 (by omega) (by omega)).2.2.1 hp0] at k1; omega)
      | (rw [← sd_neg (hB ((M 28 4) - 1) (by omega) (by omega)).2.2.1 hp0] at k2; omega)
  · refine ax_aloadn rfl rfl ?_
    refine ax_iconst rfl ?_
    refine ax_iloadn rfl rfl ?_
    refine ax_iloadn rfl rfl ?_
    refine ax_iloadn rfl rfl ?_
    refine ax_callV (as := [_, _, _, _]) rfl vX4_26 hX4_side rfl rfl rfl rfl rfl (c_O_side E d M _ px py pw (by omega) (hB _ (by omega) (by omega)) hp) (av_Xk ?_)
    refine ax_if_gt rfl (by have := sd_rng (M 29 (0)) (M 30 (0)) (M 31 (0)) px py pw; omega) (fun h15 => ?_) (fun h15 => ?_)
    · refine ax_iconst rfl ?_
      refine ax_zret rfl rfl (by omega) ?_
      refine av_rI (b01_f ?_).symm
      rintro ⟨k0, k1, k2, -⟩
      first
        | omega
        | (rw [← sd_pos (hB 0 (by omega) (by omega)).2.2.1 hp0] at k1; omega)
        | (rw [← sd_neg (hB ((M 28 4) - 1) (by omega) (by omega)).2.2.1 hp0] at k2; omega)
    · refine ax_aloadn rfl rfl ?_
      refine ax_aloadn rfl rfl ?_
      refine ax_getI (g := 4) rfl fX4_22 rfl rfl rfl rfl ?_
      refine ax_iconst rfl ?_
      refine ax_isub rfl ?_
      refine ax_iloadn rfl rfl ?_
      refine ax_iloadn rfl rfl ?_
      refine ax_iloadn rfl rfl ?_
      refine ax_callV (as := [_, _, _, _]) rfl vX4_26 hX4_side rfl rfl rfl rfl rfl (c_O_side E d M _ px py pw (by omega) (hB _ (by omega) (by omega)) hp) (av_Xk ?_)
      refine ax_if_ge rfl (by have := sd_rng (M 29 ((M 28 4) - 1)) (M 30 ((M 28 4) - 1)) (M 31 ((M 28 4) - 1)) px py pw; omega) (fun h31 => ?_) (fun h31 => ?_)
      · refine ax_iconst rfl ?_
        refine ax_istore (ls' := [(0, _), (1, _), (2, _), (3, _), (4, _)]) rfl rfl rfl ?_
        refine loop (by omega) ?_ ?_ (M 28 5).toNat 0 (by omega) (by omega) (fun j hj => by omega)
        · rw [← sd_pos (hB 0 (by omega) (by omega)).2.2.1 hp0]; omega
        · rw [← sd_neg (hB ((M 28 4) - 1) (by omega) (by omega)).2.2.1 hp0]; omega
      · refine ax_iconst rfl ?_
        refine ax_zret rfl rfl (by omega) ?_
        refine av_rI (b01_f ?_).symm
        rintro ⟨k0, k1, k2, -⟩
        first
          | omega
          | (rw [← sd_pos (hB 0 (by omega) (by omega)).2.2.1 hp0] at k1; omega)
          | (rw [← sd_neg (hB ((M 28 4) - 1) (by omega) (by omega)).2.2.1 hp0] at k2; omega)
set_option maxRecDepth 100000 in
set_option maxHeartbeats 400000 in
theorem c_O_missing (E : av_E) (d : Nat) (M : av_M) (S S2 : pt → Prop) (hO : OO (M 29) (M 30) (M 31) (M 32) (M 28 4) (M 28 5)  S) (hn : M 28 4 ≤ 120) (hh : M 28 5 ≤ 122) (hO2 : OO (M 5) (M 6) (M 7) (M 8) (M 4 4) (M 4 5)  S2) (hn2 : M 4 4 ≤ 12) (hh2 : M 4 5 ≤ 14) : av_Mt E (d + 3) mX4_cornersMissing [vR 28, vR 4] M (av_X (some (vI (cntP (fun i : Nat => ¬ (HdM (M 29) (M 30) (M 31) (M 32) (M 28 4) (M 28 5) (cn (M 5) (M 6) (M 7) (M 8) i))) (M 4 5).toNat))) M) := by
  obtain ⟨hE2, hh20, hz2, hR2, hH2⟩ := hO2
  have hB2 := hE2.2.1
  have loop : ∀ (t : Nat) (i : Int), i + t = (M 4 5) → 0 ≤ i → av_S E (d + 3) mX4_cornersMissing 4 [(0, vR 28), (1, vR 4), (2, vI (cntP (fun i : Nat => ¬ (HdM (M 29) (M 30) (M 31) (M 32) (M 28 4) (M 28 5) (cn (M 5) (M 6) (M 7) (M 8) i))) i.toNat)), (3, vI i)] [] M (av_X (some (vI (cntP (fun i : Nat => ¬ (HdM (M 29) (M 30) (M 31) (M 32) (M 28 4) (M 28 5) (cn (M 5) (M 6) (M 7) (M 8) i))) (M 4 5).toNat))) M) := by
    intro t
    induction t with
    | zero =>
      intro i hi i0
      have e : i = (M 4 5) := by omega
      subst e
      refine ax_iloadn rfl rfl ?_
      refine ax_aloadn rfl rfl ?_
      refine ax_getI (g := 5) rfl fX4_36 rfl rfl rfl rfl ?_
      refine ax_icmp_ge rfl (by omega) (by omega) (fun h9 => ?_) (fun h9 => ?_)
      · refine ax_iloadn rfl rfl ?_
        refine ax_iret rfl rfl ?_
        exact av_rI rfl
      · omega
    | succ t ih =>
      intro i hi i0
      have q := hR2 i i0 (by omega)
      have hb := hB2 _ q.1 q.2
      have rc := cntP_rng (fun i : Nat => ¬ (HdM (M 29) (M 30) (M 31) (M 32) (M 28 4) (M 28 5) (cn (M 5) (M 6) (M 7) (M 8) i))) i.toNat
      have es : (i + 1).toNat = i.toNat + 1 := by omega
      have ec : cn (M 5) (M 6) (M 7) (M 8) i.toNat = P2 (M 5 (M 8 i)) (M 6 (M 8 i)) (M 7 (M 8 i)) := cn_at i0
      have eh : b01 ((fun i : Nat => ¬ (HdM (M 29) (M 30) (M 31) (M 32) (M 28 4) (M 28 5) (cn (M 5) (M 6) (M 7) (M 8) i))) i.toNat) = b01 (¬ (HdM (M 29) (M 30) (M 31) (M 32) (M 28 4) (M 28 5) (P2 (M 5 (M 8 i)) (M 6 (M 8 i)) (M 7 (M 8 i))))) := by
        show b01 (¬ (HdM (M 29) (M 30) (M 31) (M 32) (M 28 4) (M 28 5) (cn (M 5) (M 6) (M 7) (M 8) i.toNat))) = _
        rw [ec]
      have br := b01_rng (HdM (M 29) (M 30) (M 31) (M 32) (M 28 4) (M 28 5) (P2 (M 5 (M 8 i)) (M 6 (M 8 i)) (M 7 (M 8 i))))
      refine ax_iloadn rfl rfl ?_
      refine ax_aloadn rfl rfl ?_
      refine ax_getI (g := 5) rfl fX4_36 rfl rfl rfl rfl ?_
      refine ax_icmp_ge rfl (by omega) (by omega) (fun h9 => ?_) (fun h9 => ?_)
      · omega
      · refine ax_aloadn rfl rfl ?_
        refine ax_aloadn rfl rfl ?_
        refine ax_iloadn rfl rfl ?_
        refine ax_callV (as := [_]) rfl vX4_51 hX4_xOf rfl rfl rfl rfl rfl (c_H_xOf E (d + 2) M i (by omega) (by omega)) (av_Xk ?_)
        refine ax_aloadn rfl rfl ?_
        refine ax_iloadn rfl rfl ?_
        refine ax_callV (as := [_]) rfl vX4_54 hX4_yOf rfl rfl rfl rfl rfl (c_H_yOf E (d + 2) M i (by omega) (by omega)) (av_Xk ?_)
        refine ax_aloadn rfl rfl ?_
        refine ax_iloadn rfl rfl ?_
        refine ax_callV (as := [_]) rfl vX4_57 hX4_wOf rfl rfl rfl rfl rfl (c_H_wOf E (d + 2) M i (by omega) (by omega)) (av_Xk ?_)
        refine ax_callV (as := [_, _, _]) rfl vX4_60 hX4_holds rfl rfl rfl rfl rfl (c_O_holds E d M S _ _ _ hb hO hn hh) (av_Xk ?_)
        refine ax_if_ne rfl (by omega) (fun h31 => ?_) (fun h31 => ?_)
        · refine ax_iinc (ls' := [(0, _), (1, _), (2, _), (3, _)]) rfl rfl rfl rfl ?_
          refine ax_goto rfl ?_
          have := ih (i + 1) (by omega) (by omega)
          rw [es] at this
          have e2 : cntP (fun i : Nat => ¬ (HdM (M 29) (M 30) (M 31) (M 32) (M 28 4) (M 28 5) (cn (M 5) (M 6) (M 7) (M 8) i))) (i.toNat + 1) = cntP (fun i : Nat => ¬ (HdM (M 29) (M 30) (M 31) (M 32) (M 28 4) (M 28 5) (cn (M 5) (M 6) (M 7) (M 8) i))) i.toNat + b01 ((fun i : Nat => ¬ (HdM (M 29) (M 30) (M 31) (M 32) (M 28 4) (M 28 5) (cn (M 5) (M 6) (M 7) (M 8) i))) i.toNat) := rfl
          rw [e2, eh] at this
          first
            | (rw [b01_f (fun hn => hn (b01_ne h31)), Int.add_zero] at this; exact this)
            | (rw [b01_t (b01_eq (by omega))] at this; exact this)
        · refine ax_iinc (ls' := [(0, _), (1, _), (2, _), (3, _)]) rfl rfl rfl rfl ?_
          refine ax_iinc (ls' := [(0, _), (1, _), (2, _), (3, _)]) rfl rfl rfl rfl ?_
          refine ax_goto rfl ?_
          have := ih (i + 1) (by omega) (by omega)
          rw [es] at this
          have e2 : cntP (fun i : Nat => ¬ (HdM (M 29) (M 30) (M 31) (M 32) (M 28 4) (M 28 5) (cn (M 5) (M 6) (M 7) (M 8) i))) (i.toNat + 1) = cntP (fun i : Nat => ¬ (HdM (M 29) (M 30) (M 31) (M 32) (M 28 4) (M 28 5) (cn (M 5) (M 6) (M 7) (M 8) i))) i.toNat + b01 ((fun i : Nat => ¬ (HdM (M 29) (M 30) (M 31) (M 32) (M 28 4) (M 28 5) (cn (M 5) (M 6) (M 7) (M 8) i))) i.toNat) := rfl
          rw [e2, eh] at this
          first
            | (rw [b01_f (fun hn => hn (b01_ne h31)), Int.add_zero] at this; exact this)
            | (rw [b01_t (b01_eq (by omega))] at this; exact this)
  refine av_enter hX4_cornersMissing oX4_cornersMissing rfl rfl ?_
  refine ax_iconst rfl ?_
  refine ax_istoren (ls' := [(0, _), (1, _), (2, _)]) rfl rfl rfl ?_
  refine ax_iconst rfl ?_
  refine ax_istoren (ls' := [(0, _), (1, _), (2, _), (3, _)]) rfl rfl rfl ?_
  exact loop (M 4 5).toNat 0 (by omega) (by omega)
set_option maxRecDepth 100000 in
set_option maxHeartbeats 400000 in
theorem c_O_cornerAt (E : av_E) (d : Nat) (M : av_M) (S : pt → Prop) (px py pw : Int) (hp : BP px py pw) (hO : OO (M 29) (M 30) (M 31) (M 32) (M 28 4) (M 28 5)  S) (hn : M 28 4 ≤ 120) (hh : M 28 5 ≤ 122) : av_Mt E (d + 2) mX4_cornerAt [vR 28, vI px, vI py, vI pw] M (fun r M' => M' = M ∧ ∃ z : Int, r = some (vI z) ∧ ((0 ≤ z ∧ z < (M 28 5) ∧ (cn (M 29) (M 30) (M 31) (M 32)) z.toNat = P2 px py pw) ∨ (z = -1 ∧ ∀ j : Nat, (j : Int) < (M 28 5) → (cn (M 29) (M 30) (M 31) (M 32)) j ≠ P2 px py pw))) := by
  obtain ⟨hE, hh0, hz, hR, hH⟩ := hO
  have hn0 := hE.1
  have hB := hE.2.1
  have hp0 := hp.2.2.1
  have loop : ∀ (t : Nat) (i : Int), i + t = (M 28 5) → 0 ≤ i → (∀ j : Nat, (j : Int) < i → (cn (M 29) (M 30) (M 31) (M 32)) j ≠ P2 px py pw) → av_S E (d + 2) mX4_cornerAt 3 [(0, vR 28), (1, vI px), (2, vI py), (3, vI pw), (4, vI i)] [] M (fun r M' => M' = M ∧ ∃ z : Int, r = some (vI z) ∧ ((0 ≤ z ∧ z < (M 28 5) ∧ (cn (M 29) (M 30) (M 31) (M 32)) z.toNat = P2 px py pw) ∨ (z = -1 ∧ ∀ j : Nat, (j : Int) < (M 28 5) → (cn (M 29) (M 30) (M 31) (M 32)) j ≠ P2 px py pw))) := by
    intro t
    induction t with
    | zero =>
      intro i hi i0 hall
      refine ax_iload rfl rfl ?_
      refine ax_aloadn rfl rfl ?_
      refine ax_getI (g := 5) rfl fX4_36 rfl rfl rfl rfl ?_
      refine ax_icmp_ge rfl (by omega) (by omega) (fun h9 => ?_) (fun h9 => ?_)
      · refine ax_iconst rfl ?_
        refine ax_iret rfl rfl ?_
        exact ⟨rfl, _, rfl, Or.inr ⟨rfl, fun j hj => hall j (by omega)⟩⟩
      · omega
    | succ t ih =>
      intro i hi i0 hall
      have q := hR i i0 (by omega)
      have hb := hB _ q.1 q.2
      have hw := hb.2.2.1
      have ec : (cn (M 29) (M 30) (M 31) (M 32)) i.toNat = P2 (M 29 (M 32 i)) (M 30 (M 32 i)) (M 31 (M 32 i)) := cn_at i0
      have sr := sd_rng (M 29 (M 32 i)) (M 30 (M 32 i)) (M 31 (M 32 i)) px py pw
      refine ax_iload rfl rfl ?_
      refine ax_aloadn rfl rfl ?_
      refine ax_getI (g := 5) rfl fX4_36 rfl rfl rfl rfl ?_
      refine ax_icmp_ge rfl (by omega) (by omega) (fun h9 => ?_) (fun h9 => ?_)
      · omega
      · refine ax_aloadn rfl rfl ?_
        refine ax_aloadn rfl rfl ?_
        refine ax_getR rfl fX4_19 rfl rfl ?_
        refine ax_iload rfl rfl ?_
        refine ax_iald rfl rfl (by omega) ?_
        refine ax_iloadn rfl rfl ?_
        refine ax_iloadn rfl rfl ?_
        refine ax_iloadn rfl rfl ?_
        refine ax_callV (as := [_, _, _, _]) rfl vX4_26 hX4_side rfl rfl rfl rfl rfl (c_O_side E d M _ px py pw (by omega) hb hp) (av_Xk ?_)
        refine ax_if_ne rfl (by omega) (fun h26 => ?_) (fun h26 => ?_)
        · refine ax_iinc (ls' := [(0, _), (1, _), (2, _), (3, _), (4, _)]) rfl rfl rfl rfl ?_
          refine ax_goto rfl ?_
          refine ih _ (by omega) (by omega) (fun j hj => ?_)
          by_cases hji : (j : Int) = i
          · have ej : i.toNat = j := by omega
            rw [← ej, ec]
            intro e
            rw [← sd_zero hw hp0] at e
            omega
          · exact hall j (by omega)
        · refine ax_iload rfl rfl ?_
          refine ax_iret rfl rfl ?_
          first
            | exact ⟨rfl, i, rfl, Or.inl ⟨i0, by omega, by rw [ec]; exact (sd_zero hw hp0).mp (by omega)⟩⟩
            | omega
  refine av_enter hX4_cornerAt oX4_cornerAt rfl rfl ?_
  refine ax_iconst rfl ?_
  refine ax_istore (ls' := [(0, _), (1, _), (2, _), (3, _), (4, _)]) rfl rfl rfl ?_
  exact loop (M 28 5).toNat 0 (by omega) (by omega) (fun j hj => by omega)
set_option maxRecDepth 100000 in
set_option maxHeartbeats 400000 in
theorem c_O_round0 (E : av_E) (d : Nat) (M : av_M) (S : pt → Prop) (hO : OO (M 29) (M 30) (M 31) (M 32) (M 28 4) (M 28 5)  S) (hn : M 28 4 ≤ 120) (hh : M 28 5 ≤ 122) : av_Mt E (d + 2) mX4_isRoundOrigin [vR 28] M (av_X (some (vI (b01 (0 < (M 28 5) ∧ ∀ i : Nat, (i : Int) < (M 28 5) → 0 < cr ((cn (M 29) (M 30) (M 31) (M 32)) i) ((cn (M 29) (M 30) (M 31) (M 32)) (nxt (M 28 5).toNat i)) ((0 : Rat), (0 : Rat)))))) M) := by
  obtain ⟨hE, hh0, hz, hR, hH⟩ := hO
  have hn0 := hE.1
  have hB := hE.2.1
  have loop : ∀ (t : Nat) (i : Int), i + t = (M 28 5) → 0 ≤ i → (∀ j : Nat, (j : Int) < i → 0 < cr ((cn (M 29) (M 30) (M 31) (M 32)) j) ((cn (M 29) (M 30) (M 31) (M 32)) (nxt (M 28 5).toNat j)) ((0 : Rat), (0 : Rat))) → av_S E (d + 2) mX4_isRoundOrigin 2 [(0, vR 28), (1, vI i)] [] M (av_X (some (vI (b01 (0 < (M 28 5) ∧ ∀ i : Nat, (i : Int) < (M 28 5) → 0 < cr ((cn (M 29) (M 30) (M 31) (M 32)) i) ((cn (M 29) (M 30) (M 31) (M 32)) (nxt (M 28 5).toNat i)) ((0 : Rat), (0 : Rat)))))) M) := by
    intro t
    induction t with
    | zero =>
      intro i hi i0 hall
      refine ax_iloadn rfl rfl ?_
      refine ax_aloadn rfl rfl ?_
      refine ax_getI (g := 5) rfl fX4_36 rfl rfl rfl rfl ?_
      refine ax_icmp_ge rfl (by omega) (by omega) (fun h7 => ?_) (fun h7 => ?_)
      · refine ax_aloadn rfl rfl ?_
        refine ax_getI (g := 5) rfl fX4_36 rfl rfl rfl rfl ?_
        refine ax_if_le rfl (by omega) (fun h50 => ?_) (fun h50 => ?_)
        · refine ax_iconst rfl ?_
          refine ax_zret rfl rfl (by omega) ?_
          first
            | exact av_rI (b01_t ⟨by omega, fun j hj => hall j (by omega)⟩).symm
            | (refine av_rI (b01_f ?_).symm; rintro ⟨k, -⟩; omega)
        · refine ax_iconst rfl ?_
          refine ax_goto rfl ?_
          refine ax_zret rfl rfl (by omega) ?_
          first
            | exact av_rI (b01_t ⟨by omega, fun j hj => hall j (by omega)⟩).symm
            | (refine av_rI (b01_f ?_).symm; rintro ⟨k, -⟩; omega)
      · omega
    | succ t ih =>
      intro i hi i0 hall
      refine ax_iloadn rfl rfl ?_
      refine ax_aloadn rfl rfl ?_
      refine ax_getI (g := 5) rfl fX4_36 rfl rfl rfl rfl ?_
      refine ax_icmp_ge rfl (by omega) (by omega) (fun h7 => ?_) (fun h7 => ?_)
      · omega
      · refine ax_aloadn rfl rfl ?_
        refine ax_aloadn rfl rfl ?_
        refine ax_getR rfl fX4_19 rfl rfl ?_
        refine ax_iloadn rfl rfl ?_
        refine ax_iald rfl rfl (by omega) ?_
        refine ax_aloadn rfl rfl ?_
        refine ax_getR rfl fX4_19 rfl rfl ?_
        refine ax_aloadn rfl rfl ?_
        refine ax_iloadn rfl rfl ?_
        refine ax_callV (as := [_]) rfl vX4_47 hX4_next rfl rfl rfl rfl rfl (c_O_next E (d + 1) M i (by omega) (by omega)) (av_Xk ?_)
        refine ax_iald rfl rfl (by have := hR (if i + 1 < (M 28 5) then i + 1 else 0) (by split <;> omega) (by split <;> omega); split <;> omega) ?_
        refine ax_iconst rfl ?_
        refine ax_iconst rfl ?_
        refine ax_iconst rfl ?_
        refine ax_callV (as := [_, _, _, _, _]) rfl vX4_43 hX4_turn rfl rfl rfl rfl rfl (c_O_turn E (d + 1) M _ _ _ _ _ (by have := hR i (by omega) (by omega); omega) (by have := hR (if i + 1 < (M 28 5) then i + 1 else 0) (by split <;> omega) (by split <;> omega); omega) (hB _ (hR i (by omega) (by omega)).1 (hR i (by omega) (by omega)).2) (hB _ (hR (if i + 1 < (M 28 5) then i + 1 else 0) (by split <;> omega) (by split <;> omega)).1 (hR (if i + 1 < (M 28 5) then i + 1 else 0) (by split <;> omega) (by split <;> omega)).2) (Or.inr ⟨rfl, rfl, rfl⟩)) (av_Xk ?_)
        refine ax_lconst (w := 0) rfl rfl ?_
        refine ax_lif_gt rfl rfl (by
  have q0 := hR i (by omega) (by omega)
  have q1 := hR (if i + 1 < (M 28 5) then i + 1 else 0) (by split <;> omega) (by split <;> omega)
  exact D3_rng (hB _ q0.1 q0.2) (hB _ q1.1 q1.2) (by unfold BP; omega)) (by omega) (fun h34 => ?_) (fun h34 => ?_)
        · refine ax_iinc (ls' := [(0, _), (1, _)]) rfl rfl rfl rfl ?_
          refine ax_goto rfl ?_
          refine ih _ (by omega) (by omega) (fun j hj => ?_)
          by_cases hji : (j : Int) = i
          · have q0 := hR i (by omega) (by omega)
            have q1 := hR (if i + 1 < (M 28 5) then i + 1 else 0) (by split <;> omega) (by split <;> omega)
            have w0 := (hB _ q0.1 q0.2).2.2.1
            have w1 := (hB _ q1.1 q1.2).2.2.1
            have e1 := cn_nxt (X := M 29) (Y := M 30) (W := M 31) (R := M 32) (h := (M 28 5)) i0 (by omega)
            have e2 := cn_at (X := M 29) (Y := M 30) (W := M 31) (R := M 32) i0
            rw [show i.toNat = j by omega] at e1 e2
            rw [e1, e2, ← P2_o]
            exact (P2_pos w0 w1 (by omega)).mp (by omega)
          · exact hall j (by omega)
        · refine ax_iconst rfl ?_
          refine ax_zret rfl rfl (by omega) ?_
          refine av_rI (b01_f ?_).symm
          rintro ⟨-, hin⟩
          have q0 := hR i (by omega) (by omega)
          have q1 := hR (if i + 1 < (M 28 5) then i + 1 else 0) (by split <;> omega) (by split <;> omega)
          have w0 := (hB _ q0.1 q0.2).2.2.1
          have w1 := (hB _ q1.1 q1.2).2.2.1
          have := hin i.toNat (by omega)
          rw [cn_nxt i0 (by omega), cn_at i0, ← P2_o] at this
          have := (P2_pos w0 w1 (by omega)).mpr this
          omega
  refine av_enter hX4_isRoundOrigin oX4_isRoundOrigin rfl rfl ?_
  refine ax_iconst rfl ?_
  refine ax_istoren (ls' := [(0, _), (1, _)]) rfl rfl rfl ?_
  exact loop (M 28 5).toNat 0 (by omega) (by omega) (fun j hj => by omega)
end
section
/-! ===== the greatest common measure; fractions in least terms ===== -/
theorem gcd_step {x y : Int} : (Int.gcd y (x.tmod y) : Int) = Int.gcd x y := by
  rw [av_trem, Int.gcd_sub_mul_right_right, Int.gcd_comm]
theorem half_mod {x y : Int} (hy : 0 < y) (h : y < x) : 2 * x.tmod y ≤ x ∧ 0 ≤ x.tmod y ∧ x.tmod y < y := by
  have h1 := Int.tmod_lt_of_pos x hy
  have h2 : 0 ≤ x.tmod y := Int.tmod_nonneg y (by omega)
  have h3 := av_trem (x := x) (y := y)
  have h4 : 0 < x.tdiv y := by
    rw [Int.tdiv_eq_ediv_of_nonneg (by omega)]
    have := Int.le_ediv_of_mul_le hy (show 1 * y ≤ x by omega)
    omega
  have h5 : y ≤ x.tdiv y * y := by
    have := Int.mul_le_mul_of_nonneg_right (show (1 : Int) ≤ x.tdiv y by omega) (show 0 ≤ y by omega)
    omega
  omega
set_option maxRecDepth 100000 in
set_option maxHeartbeats 800000 in
theorem l_G_gcd (E : av_E) (d : Nat) (M : av_M) (a b g : Int) : ∀ (k : Nat) (i x y : Int), i + k = 128 → 0 ≤ i → (0 ≤ x ∧ x < 9223372036854775808) → (0 ≤ y ∧ y < 9223372036854775808) → x * y < 2 ^ k → (i = 0 ∨ y < x) → (Int.gcd x y : Int) = g → av_S E d mX7_gcd 15 [(0, vL a), (2, vL b), (4, vL x), (6, vL y), (8, vI i)] [] M (av_X (some (vL g)) M) := by
  intro k
  induction k with
  | zero =>
    intro i x y hi h0 hx hy hxy hor hg
    have hy0 : y = 0 := by
      apply Classical.byContradiction
      intro hne
      have := Int.mul_pos (show 0 < x by omega) (show 0 < y by omega)
      have e : (2 : Int) ^ 0 = 1 := by rfl
      omega
    refine ax_iload rfl rfl ?_
    refine ax_sipush rfl rfl ?_
    refine ax_icmp_ge rfl (by omega) (by omega) (fun h20 => ?_) (fun h20 => ?_)
    · refine ax_lload rfl rfl ?_
      refine ax_lret rfl rfl ?_
      refine av_rL ?_
      subst hy0
      rw [Int.gcd_zero_right] at hg
      omega
    · refine ax_lload rfl rfl ?_
      refine ax_lconst (w := 0) rfl rfl ?_
      refine ax_lif_eq rfl rfl (by omega) (by omega) (fun h26 => ?_) (fun h26 => ?_)
      · refine ax_lload rfl rfl ?_
        refine ax_lret rfl rfl ?_
        refine av_rL ?_
        subst hy0
        rw [Int.gcd_zero_right] at hg
        omega
      · omega
  | succ k ih =>
    intro i x y hi h0 hx hy hxy hor hg
    refine ax_iload rfl rfl ?_
    refine ax_sipush rfl rfl ?_
    refine ax_icmp_ge rfl (by omega) (by omega) (fun h20 => ?_) (fun h20 => ?_)
    · refine ax_lload rfl rfl ?_
      refine ax_lret rfl rfl ?_
      refine av_rL ?_
      first
        | omega
        | (have hy0 : y = 0 := by omega
           subst hy0
           rw [Int.gcd_zero_right] at hg
           omega)
    · refine ax_lload rfl rfl ?_
      refine ax_lconst (w := 0) rfl rfl ?_
      refine ax_lif_eq rfl rfl (by omega) (by omega) (fun h26 => ?_) (fun h26 => ?_)
      · refine ax_lload rfl rfl ?_
        refine ax_lret rfl rfl ?_
        refine av_rL ?_
        first
          | omega
          | (have hy0 : y = 0 := by omega
             subst hy0
             rw [Int.gcd_zero_right] at hg
             omega)
      · have hm1 := Int.tmod_lt_of_pos x (show 0 < y by omega)
        have hm2 := Int.tmod_nonneg y hx.1
        refine ax_lload rfl rfl ?_
        refine ax_lload rfl rfl ?_
        refine ax_lrem rfl (by omega) (by omega) (by omega) ?_
        refine ax_lstore (ls' := [(0, _), (2, _), (4, _), (6, _), (8, _), (9, _)]) rfl rfl rfl ?_
        refine ax_lload rfl rfl ?_
        refine ax_lstore (ls' := [(0, _), (2, _), (4, _), (6, _), (8, _), (9, _)]) rfl rfl rfl ?_
        refine ax_lload rfl rfl ?_
        refine ax_lstore (ls' := [(0, _), (2, _), (4, _), (6, _), (8, _), (9, _)]) rfl rfl rfl ?_
        refine ax_iinc (ls' := [(0, _), (2, _), (4, _), (6, _), (8, _), (9, _)]) rfl rfl rfl rfl ?_
        refine ax_goto rfl ?_
        refine ax_pick [0, 1, 2, 3, 4] rfl ?_
        refine ih _ _ _ (by omega) (by omega) (by omega) (by omega) ?_ (by omega) (by rw [← hg]; exact gcd_step)
        rcases hor with hi0 | hlt
        · have ek : k = 127 := by omega
          subst ek
          have p1 := mb (A := 9223372036854775808) (B := 9223372036854775808) (show -9223372036854775808 ≤ y ∧ y ≤ 9223372036854775808 by omega) (show -9223372036854775808 ≤ x.tmod y ∧ x.tmod y ≤ 9223372036854775808 by omega)
          have e : (2 : Int) ^ 127 = 170141183460469231731687303715884105728 := by rfl
          omega
        · have q := half_mod (show 0 < y by omega) hlt
          have p1 := Int.mul_le_mul_of_nonneg_left q.1 hy.1
          have e1 : y * (2 * x.tmod y) = 2 * (y * x.tmod y) := by grind
          have e2 : y * x = x * y := Int.mul_comm _ _
          have e3 : (2 : Int) ^ (k + 1) = 2 * 2 ^ k := by rw [Int.pow_succ]; omega
          omega
set_option maxRecDepth 100000 in
set_option maxHeartbeats 800000 in
theorem c_G_gcd (E : av_E) (d : Nat) (M : av_M) (a b : Int) (ha : -9223372036854775808 < a ∧ a < 9223372036854775808) (hb : -9223372036854775808 < b ∧ b < 9223372036854775808) : av_Mt E (d + 1) mX7_gcd [vL a, vL b] M (av_X (some (vL (Int.gcd a b))) M) := by
  refine av_enter hX7_gcd oX7_gcd rfl rfl ?_
  refine ax_lloadn rfl rfl ?_
  refine ax_labs rfl (av_in (by decide +kernel) rfl) rfl (by omega) ?_
  refine ax_lstore (ls' := [(0, _), (2, _), (4, _)]) rfl rfl rfl ?_
  refine ax_lloadn rfl rfl ?_
  refine ax_labs rfl (av_in (by decide +kernel) rfl) rfl (by omega) ?_
  refine ax_lstore (ls' := [(0, _), (2, _), (4, _), (6, _)]) rfl rfl rfl ?_
  refine ax_iconst rfl ?_
  refine ax_istore (ls' := [(0, _), (2, _), (4, _), (6, _), (8, _)]) rfl rfl rfl ?_
  have ha2 : 0 ≤ (if 0 < a then a else -a) ∧ (if 0 < a then a else -a) < 9223372036854775808 := by split <;> omega
  have hb2 : 0 ≤ (if 0 < b then b else -b) ∧ (if 0 < b then b else -b) < 9223372036854775808 := by split <;> omega
  have p1 := mb (A := 9223372036854775808) (B := 9223372036854775808) (show -9223372036854775808 ≤ (if 0 < a then a else -a) ∧ (if 0 < a then a else -a) ≤ 9223372036854775808 by omega) (show -9223372036854775808 ≤ (if 0 < b then b else -b) ∧ (if 0 < b then b else -b) ≤ 9223372036854775808 by omega)
  have e : (2 : Int) ^ 128 = 340282366920938463463374607431768211456 := by rfl
  refine l_G_gcd E (d + 1) M a b _ 128 0 _ _ (by omega) (by omega) ha2 hb2 (by omega) (Or.inl rfl) ?_
  split <;> split <;> simp [Int.gcd_neg, Int.neg_gcd]
/-- the upper or the lower number of a fraction -/
def tl (q : Rat) (u : Int) : Int := if u = 0 then (q.den : Int) else q.num
theorem tdiv_nat {x : Int} {g : Nat} (h : (g : Int) ∣ x) : x.tdiv g = x / g := by
  rw [Int.tdiv_eq_ediv_of_dvd h]
theorem tl_of {x w : Int} (h : 0 < w) (u : Int) : (if u = 0 then w else x).tdiv (Int.gcd x w) = tl ((x : Rat) / (w : Rat)) u := by
  obtain ⟨n, rfl⟩ := Int.eq_ofNat_of_zero_le (Int.le_of_lt h)
  have hn : n ≠ 0 := by omega
  have e : (x : Rat) / ((n : Int) : Rat) = mkRat x n := by rw [Rat.mkRat_eq_div]; rfl
  unfold tl
  rw [e, Rat.num_mkRat, Rat.den_mkRat, if_neg hn, if_neg hn]
  have eg : Int.gcd x (n : Int) = n.gcd x.natAbs := by rw [Int.gcd_comm]; rfl
  rw [eg]
  have d1 : ((n.gcd x.natAbs : Nat) : Int) ∣ x := by
    rw [← eg]; exact Int.gcd_dvd_left ..
  have d2 : ((n.gcd x.natAbs : Nat) : Int) ∣ (n : Int) := by
    rw [← eg]; exact Int.gcd_dvd_right ..
  split
  · rw [tdiv_nat d2]; rfl
  · rw [tdiv_nat d1]
set_option maxRecDepth 100000 in
set_option maxHeartbeats 800000 in
theorem c_G_told (E : av_E) (d : Nat) (M : av_M) (x w u : Int) (hx : -9223372036854775808 < x ∧ x < 9223372036854775808) (hw : 0 < w ∧ w < 9223372036854775808) (hu : -2147483648 ≤ u ∧ u < 2147483648) : av_Mt E (d + 2) mX7_told [vL x, vL w, vI u] M (av_X (some (vL (tl ((x : Rat) / (w : Rat)) u))) M) := by
  have hg0 : (Int.gcd x w : Int) ≠ 0 := by
    intro h
    have : Int.gcd x w = 0 := by omega
    rw [Int.gcd_eq_zero_iff] at this
    omega
  have hg1 : (Int.gcd x w : Int) ≤ w := Int.le_of_dvd hw.1 (Int.gcd_dvd_right ..)
  have hg2 : (0 : Int) ≤ Int.gcd x w := by omega
  have ht := tl_of (x := x) hw.1 u
  refine av_enter hX7_told oX7_told rfl rfl ?_
  refine ax_lloadn rfl rfl ?_
  refine ax_lloadn rfl rfl ?_
  refine ax_callS (as := [_, _]) rfl sX7_244 hX7_gcd rfl rfl rfl rfl (c_G_gcd E d M x w (by omega) (by omega)) (av_Xk ?_)
  refine ax_lstore (ls' := [(0, _), (2, _), (4, _), (5, _)]) rfl rfl rfl ?_
  refine ax_lload rfl rfl ?_
  refine ax_lconst (w := 0) rfl rfl ?_
  refine ax_lif_ne rfl rfl (by omega) (by omega) (fun h10 => ?_) (fun h10 => ?_)
  · refine ax_iload rfl rfl ?_
    refine ax_if_eq rfl (by omega) (fun h18 => ?_) (fun h18 => ?_)
    · refine ax_lloadn rfl rfl ?_
      refine ax_lload rfl rfl ?_
      refine ax_ldiv rfl (by omega) (by omega) (by omega) ?_
      refine ax_lret rfl rfl ?_
      first
        | (refine av_rL ?_
           first
             | (rw [if_pos (by omega)] at ht; exact ht)
             | (rw [if_neg (by omega)] at ht; exact ht))
    · refine ax_lloadn rfl rfl ?_
      refine ax_goto rfl ?_
      refine ax_lload rfl rfl ?_
      refine ax_ldiv rfl (by omega) (by omega) (by omega) ?_
      refine ax_lret rfl rfl ?_
      first
        | (refine av_rL ?_
           first
             | (rw [if_pos (by omega)] at ht; exact ht)
             | (rw [if_neg (by omega)] at ht; exact ht))
  · refine ax_lconst (w := 0) rfl rfl ?_
    refine ax_lret rfl rfl ?_
    omega
end
section
/-! ===== the figure and the tables: what is asked, and the class's contracts ===== -/
def nxI (h e : Int) : Int := if e + 1 < h then e + 1 else 0
theorem nxI_rng {h e : Int} (h0 : 0 ≤ e) (h1 : e < h) : 0 ≤ nxI h e ∧ nxI h e < h := by unfold nxI; split <;> omega
def wP (x0 y0 x1 y1 w : Int) : Int :=
  if (Int.gcd (x1 - x0) (y1 - y0) : Int) = 0 then 0
  else if w = 0 then (y1 - y0).tdiv (Int.gcd (x1 - x0) (y1 - y0))
  else if w = 1 then (-(x1 - x0)).tdiv (Int.gcd (x1 - x0) (y1 - y0))
  else (y1 - y0).tdiv (Int.gcd (x1 - x0) (y1 - y0)) * x0 + (-(x1 - x0)).tdiv (Int.gcd (x1 - x0) (y1 - y0)) * y0
def wq (h : Int) (fx fy : Int → Int) (e w : Int) : Int := wP (fx e) (fy e) (fx (nxI h e)) (fy (nxI h e)) w
def gp (h : Int) (fx fy : Int → Int) (e c : Int) : Int := wq h fx fy e 2 - wq h fx fy e 0 * fx c - wq h fx fy e 1 * fy c
def isum (f : Int → Int) : Nat → Int
  | 0 => 0
  | n + 1 => isum f n + f n
def opS (h : Int) (fx fy : Int → Int) (e : Int) : Nat → Int := isum (fun c => if 0 < gp h fx fy e c then 1 else 0)
def arS (h : Int) (fx fy : Int → Int) : Nat → Int := isum (fun e => fx e * fy (nxI h e) - fy e * fx (nxI h e))
def mxI (f : Int → Int) : Nat → Int
  | 0 => f 0
  | n + 1 => max (mxI f n) (f (n + 1 : Nat))
theorem gcd_le {a b : Int} {A : Nat} (ha : a.natAbs ≤ A) (hb : b.natAbs ≤ A) : Int.gcd a b ≤ A := by
  show Nat.gcd a.natAbs b.natAbs ≤ A
  rcases Nat.eq_zero_or_pos a.natAbs with z | z
  · rw [z, Nat.gcd_zero_left]; exact hb
  · exact Nat.le_trans (Nat.gcd_le_left _ z) ha
theorem tdiv_rng {x g A : Int} (h : -A ≤ x ∧ x ≤ A) : -A ≤ x.tdiv g ∧ x.tdiv g ≤ A := by
  have h1 : (x.tdiv g).natAbs ≤ x.natAbs := by rw [Int.natAbs_tdiv]; exact Nat.div_le_self _ _
  omega
theorem wP_rng {x0 y0 x1 y1 w : Int} (h0 : -50 ≤ x0 ∧ x0 ≤ 50) (h1 : -50 ≤ y0 ∧ y0 ≤ 50) (h2 : -50 ≤ x1 ∧ x1 ≤ 50) (h3 : -50 ≤ y1 ∧ y1 ≤ 50) : -10000 ≤ wP x0 y0 x1 y1 w ∧ wP x0 y0 x1 y1 w ≤ 10000 := by
  have a := tdiv_rng (x := y1 - y0) (g := (Int.gcd (x1 - x0) (y1 - y0) : Int)) (A := 100) (by omega)
  have b := tdiv_rng (x := -(x1 - x0)) (g := (Int.gcd (x1 - x0) (y1 - y0) : Int)) (A := 100) (by omega)
  have c := mb a h0
  have e := mb b h1
  unfold wP
  (repeat' split) <;> omega
theorem wP_rng' {x0 y0 x1 y1 w : Int} (hw : w = 0 ∨ w = 1) (h0 : -50 ≤ x0 ∧ x0 ≤ 50) (h1 : -50 ≤ y0 ∧ y0 ≤ 50) (h2 : -50 ≤ x1 ∧ x1 ≤ 50) (h3 : -50 ≤ y1 ∧ y1 ≤ 50) : -100 ≤ wP x0 y0 x1 y1 w ∧ wP x0 y0 x1 y1 w ≤ 100 := by
  have a := tdiv_rng (x := y1 - y0) (g := (Int.gcd (x1 - x0) (y1 - y0) : Int)) (A := 100) (by omega)
  have b := tdiv_rng (x := -(x1 - x0)) (g := (Int.gcd (x1 - x0) (y1 - y0) : Int)) (A := 100) (by omega)
  unfold wP
  rcases hw with rfl | rfl
  · (repeat' split) <;> omega
  · (repeat' split) <;> omega
def Fb (h : Int) (fx fy : Int → Int) : Prop := 0 ≤ h ∧ h ≤ 12 ∧ ∀ k, 0 ≤ k → k < h → (-50 ≤ fx k ∧ fx k ≤ 50) ∧ (-50 ≤ fy k ∧ fy k ≤ 50)
theorem gp_rng {h : Int} {fx fy : Int → Int} (hb : Fb h fx fy) {e c : Int} (h0 : 0 ≤ e ∧ e < h) (h1 : 0 ≤ c ∧ c < h) : -20000 ≤ gp h fx fy e c ∧ gp h fx fy e c ≤ 20000 := by
  have n := nxI_rng h0.1 h0.2
  have b0 := hb.2.2 e h0.1 h0.2
  have b1 := hb.2.2 _ n.1 n.2
  have b2 := hb.2.2 c h1.1 h1.2
  have q2 := wP_rng (w := 2) b0.1 b0.2 b1.1 b1.2
  have q0 := wP_rng' (w := 0) (Or.inl rfl) b0.1 b0.2 b1.1 b1.2
  have q1 := wP_rng' (w := 1) (Or.inr rfl) b0.1 b0.2 b1.1 b1.2
  have m0 := mb q0 b2.1
  have m1 := mb q1 b2.2
  unfold gp wq
  omega
/-- the first pair that is not as it should be -/
def FW (ok : Int → Int → Prop) (h r : Int) : Prop := (∃ i j, 0 ≤ i ∧ i < h ∧ 0 ≤ j ∧ j < h ∧ ¬ ok i j ∧ (∀ a b, 0 ≤ a → a < h → 0 ≤ b → b < h → (a < i ∨ (a = i ∧ b < j)) → ok a b) ∧ r = 100 * i + j) ∨ ((∀ a b, 0 ≤ a → a < h → 0 ≤ b → b < h → ok a b) ∧ r = -900000009)
theorem FW_un {ok : Int → Int → Prop} {h r r' : Int} (h1 : FW ok h r) (h2 : FW ok h r') : r = r' := by
  rcases h1 with ⟨i, j, i0, i1, j0, j1, hn, hl, e⟩ | ⟨ha, e⟩
  · rcases h2 with ⟨i', j', i0', i1', j0', j1', hn', hl', e'⟩ | ⟨ha', e'⟩
    · have a : ¬ (i < i' ∨ (i = i' ∧ j < j')) := fun q => hn (hl' i j i0 i1 j0 j1 q)
      have b : ¬ (i' < i ∨ (i' = i ∧ j' < j)) := fun q => hn' (hl i' j' i0' i1' j0' j1' q)
      omega
    · exact absurd (ha' i j i0 i1 j0 j1) hn
  · rcases h2 with ⟨i', j', i0', i1', j0', j1', hn', hl', e'⟩ | ⟨ha', e'⟩
    · exact absurd (ha i' j' i0' i1' j0' j1') hn'
    · omega
theorem FW_congr {ok ok' : Int → Int → Prop} {h r : Int} (e : ∀ a b, 0 ≤ a → a < h → 0 ≤ b → b < h → (ok a b ↔ ok' a b)) (hw : FW ok h r) : FW ok' h r := by
  rcases hw with ⟨i, j, i0, i1, j0, j1, hn, hl, er⟩ | ⟨ha, er⟩
  · exact Or.inl ⟨i, j, i0, i1, j0, j1, fun q => hn ((e i j i0 i1 j0 j1).mpr q), fun a b a0 a1 b0 b1 c => (e a b a0 a1 b0 b1).mp (hl a b a0 a1 b0 b1 c), er⟩
  · exact Or.inr ⟨fun a b a0 a1 b0 b1 => (e a b a0 a1 b0 b1).mp (ha a b a0 a1 b0 b1), er⟩
/-- the outline of a figure of whole places -/
def FS (n : Int) (px py : Int → Int) : pt → Prop := fun p => ∃ j : Int, 0 ≤ j ∧ j < n ∧ p = P2 (px j) (py j) 1
def FO (X Y W R : Int → Int) (n h : Int) (S : pt → Prop) : Prop := OO X Y W R n h S ∧ n ≤ 12 ∧ ∀ j, 0 ≤ j → j < n → (-50 ≤ X j ∧ X j ≤ 50) ∧ (-50 ≤ Y j ∧ Y j ≤ 50) ∧ W j = 1
theorem OO_le {X Y W R : Int → Int} {n h : Int} {S : pt → Prop} (hO : OO X Y W R n h S) : h ≤ n := by
  obtain ⟨hE, h0, hz, hR, hH⟩ := hO
  by_cases hn : 0 < n
  · have := pigeon n.toNat h.toNat (fun i => (R i).toNat) (fun i hi => by have := hR i (by omega) (by omega); omega) (fun i j hi hj e => by
      refine Hull_inj (hH hn) i j hi hj ?_
      have q1 := hR i (by omega) (by omega)
      have q2 := hR j (by omega) (by omega)
      have e0 : (R i).toNat = (R j).toNat := e
      unfold cn
      rw [show R i = R j by omega])
    omega
  · have h1 := hE.1
    have := hz (by omega)
    omega
theorem FO_fb {X Y W R : Int → Int} {n h : Int} {S : pt → Prop} (hF : FO X Y W R n h S) : Fb h (fun k => X (R k)) (fun k => Y (R k)) := by
  have := OO_le hF.1
  refine ⟨hF.1.2.1, by have := hF.2.1; omega, fun k k0 k1 => ?_⟩
  have q := hF.1.2.2.2.1 k k0 k1
  have r := hF.2.2 _ q.1 q.2
  exact ⟨r.1, r.2.1⟩
theorem FS_succ {i : Int} {px py : Int → Int} (h0 : 0 ≤ i) : (fun q => FS i px py q ∨ q = P2 (px i) (py i) 1) = FS (i + 1) px py := by
  funext p
  apply propext
  constructor
  · rintro (⟨j, a, b, e⟩ | e)
    · exact ⟨j, a, by omega, e⟩
    · exact ⟨i, h0, by omega, e⟩
  · rintro ⟨j, a, b, e⟩
    by_cases hj : j = i
    · exact Or.inr (by rw [e, hj])
    · exact Or.inl ⟨j, a, by omega, e⟩
theorem FS_zero (px py : Int → Int) : (fun _ => False) = FS 0 px py := by
  funext p
  apply propext
  exact ⟨fun h => h.elim, fun ⟨j, a, b, _⟩ => by omega⟩
theorem FS_congr {n : Int} {px py px' py' : Int → Int} (e : ∀ j, 0 ≤ j → j < n → px' j = px j ∧ py' j = py j) : FS n px' py' = FS n px py := by
  funext p
  apply propext
  constructor
  · rintro ⟨j, a, b, c⟩; obtain ⟨e1, e2⟩ := e j a b; exact ⟨j, a, b, by rw [c, e1, e2]⟩
  · rintro ⟨j, a, b, c⟩; obtain ⟨e1, e2⟩ := e j a b; exact ⟨j, a, b, by rw [c, e1, e2]⟩
set_option maxRecDepth 100000 in
set_option maxHeartbeats 800000 in
theorem c_X2_size (E : av_E) (d : Nat) (M : av_M)  : av_Mt E (d) mX2_size [vR 1] M (av_X (some (vI (M 1 3))) M) := by
  refine av_enter hX2_size oX2_size rfl rfl ?_
  refine ax_aloadn rfl rfl ?_
  refine ax_getI (g := 3) rfl fX2_27 rfl rfl rfl rfl ?_
  refine ax_iret rfl rfl ?_
  exact av_rI rfl
set_option maxRecDepth 100000 in
set_option maxHeartbeats 800000 in
theorem c_X2_hull (E : av_E) (d : Nat) (M : av_M) : av_Mt E d mX2_hull [vR 1] M (av_X (some (vR 4)) M) := by
  refine av_enter hX2_hull oX2_hull rfl rfl ?_
  refine ax_aloadn rfl rfl ?_
  refine ax_getR rfl fX2_23 rfl rfl ?_
  refine ax_aret rfl rfl ?_
  exact ⟨rfl, rfl⟩
set_option maxRecDepth 100000 in
set_option maxHeartbeats 800000 in
theorem c_X2_isFlat (E : av_E) (d : Nat) (M : av_M) (hh : 0 ≤ M 4 5 ∧ M 4 5 ≤ 1000) : av_Mt E (d + 1) mX2_isFlat [vR 1] M (av_X (some (vI (b01 (M 4 5 < 3)))) M) := by
  refine av_enter hX2_isFlat oX2_isFlat rfl rfl ?_
  refine ax_aloadn rfl rfl ?_
  refine ax_getR rfl fX2_23 rfl rfl ?_
  refine ax_callV (as := []) rfl vX2_31 hX4_size rfl rfl rfl rfl rfl (c_H_size E d M) (av_Xk ?_)
  refine ax_iconst rfl ?_
  refine ax_icmp_ge rfl (by omega) (by omega) (fun h8 => ?_) (fun h8 => ?_)
  · refine ax_iconst rfl ?_
    refine ax_zret rfl rfl (by omega) ?_
    first | exact av_rI (b01_t (by omega)).symm | exact av_rI (b01_f (by omega)).symm
  · refine ax_iconst rfl ?_
    refine ax_goto rfl ?_
    refine ax_zret rfl rfl (by omega) ?_
    first | exact av_rI (b01_t (by omega)).symm | exact av_rI (b01_f (by omega)).symm
set_option maxRecDepth 100000 in
set_option maxHeartbeats 800000 in
theorem c_X2_wallPart (E : av_E) (d : Nat) (M : av_M) (S : pt → Prop) (e w : Int) (hF : FO (M 5) (M 6) (M 7) (M 8) (M 4 4) (M 4 5) S) (he : 0 ≤ e ∧ e < (M 4 5)) (hw : 0 ≤ w ∧ w ≤ 2) : av_Mt E (d + 2) mX2_wallPart [vR 1, vI e, vI w] M (av_X (some (vI (wq (M 4 5) (fun k => M 5 (M 8 k)) (fun k => M 6 (M 8 k)) e w))) M) := by
  have hfb := FO_fb hF
  have hR := hF.1.2.2.2.1
  have n12 := hF.2.1
  have nx := nxI_rng he.1 he.2
  have q0 := hR e he.1 he.2
  have q1 := hR _ nx.1 nx.2
  have b0 : (-50 ≤ M 5 (M 8 e) ∧ M 5 (M 8 e) ≤ 50) ∧ (-50 ≤ M 6 (M 8 e) ∧ M 6 (M 8 e) ≤ 50) := hfb.2.2 e he.1 he.2
  have b1 : (-50 ≤ M 5 (M 8 (nxI (M 4 5) e)) ∧ M 5 (M 8 (nxI (M 4 5) e)) ≤ 50) ∧ (-50 ≤ M 6 (M 8 (nxI (M 4 5) e)) ∧ M 6 (M 8 (nxI (M 4 5) e)) ≤ 50) := hfb.2.2 _ nx.1 nx.2
  have h12 := hfb.2.1
  have hg : (Int.gcd (M 5 (M 8 (nxI (M 4 5) e)) - M 5 (M 8 e)) (M 6 (M 8 (nxI (M 4 5) e)) - M 6 (M 8 e)) : Int) ≤ 200 := by
    have g1 := gcd_le (a := M 5 (M 8 (nxI (M 4 5) e)) - M 5 (M 8 e)) (b := M 6 (M 8 (nxI (M 4 5) e)) - M 6 (M 8 e)) (A := 200) (by omega) (by omega)
    omega
  refine av_enter hX2_wallPart oX2_wallPart rfl rfl ?_
  refine ax_aloadn rfl rfl ?_
  refine ax_getR rfl fX2_23 rfl rfl ?_
  refine ax_iloadn rfl rfl ?_
  refine ax_callV (as := [_]) rfl vX2_51 hX4_next rfl rfl rfl rfl rfl (c_H_next E (d + 1) M e (by omega) (by omega)) (av_Xk ?_)
  refine (show av_S E (d + 2) mX2_wallPart 8 _ [vI (nxI (M 4 5) e)] M _ from ?_)
  refine ax_istoren (ls' := [(0, _), (1, _), (2, _), (3, _)]) rfl rfl rfl ?_
  refine ax_aloadn rfl rfl ?_
  refine ax_getR rfl fX2_23 rfl rfl ?_
  refine ax_iloadn rfl rfl ?_
  refine ax_callV (as := [_]) rfl vX2_55 hX4_xOf rfl rfl rfl rfl rfl (c_H_xOf E (d + 1) M (nxI (M 4 5) e) (by omega) (by omega)) (av_Xk ?_)
  refine ax_aloadn rfl rfl ?_
  refine ax_getR rfl fX2_23 rfl rfl ?_
  refine ax_iloadn rfl rfl ?_
  refine ax_callV (as := [_]) rfl vX2_55 hX4_xOf rfl rfl rfl rfl rfl (c_H_xOf E (d + 1) M e (by omega) (by omega)) (av_Xk ?_)
  refine ax_isub rfl ?_
  refine ax_istore (ls' := [(0, _), (1, _), (2, _), (3, _), (4, _)]) rfl rfl rfl ?_
  refine ax_aloadn rfl rfl ?_
  refine ax_getR rfl fX2_23 rfl rfl ?_
  refine ax_iloadn rfl rfl ?_
  refine ax_callV (as := [_]) rfl vX2_58 hX4_yOf rfl rfl rfl rfl rfl (c_H_yOf E (d + 1) M (nxI (M 4 5) e) (by omega) (by omega)) (av_Xk ?_)
  refine ax_aloadn rfl rfl ?_
  refine ax_getR rfl fX2_23 rfl rfl ?_
  refine ax_iloadn rfl rfl ?_
  refine ax_callV (as := [_]) rfl vX2_58 hX4_yOf rfl rfl rfl rfl rfl (c_H_yOf E (d + 1) M e (by omega) (by omega)) (av_Xk ?_)
  refine ax_isub rfl ?_
  refine ax_istore (ls' := [(0, _), (1, _), (2, _), (3, _), (4, _), (5, _)]) rfl rfl rfl ?_
  refine ax_iload rfl rfl ?_
  refine ax_i2l rfl (by omega) ?_
  refine ax_iload rfl rfl ?_
  refine ax_i2l rfl (by omega) ?_
  refine ax_callS (as := [_, _]) rfl sX2_61 hX7_gcd rfl rfl rfl rfl (c_G_gcd E d M _ _ (by omega) (by omega)) (av_Xk ?_)
  refine ax_l2i rfl ?_
  refine ax_istore (ls' := [(0, _), (1, _), (2, _), (3, _), (4, _), (5, _), (6, _)]) rfl rfl rfl ?_
  refine ax_iload rfl rfl ?_
  refine ax_if_ne rfl (by omega) (fun h61 => ?_) (fun h61 => ?_)
  · refine ax_iload rfl rfl ?_
    refine ax_iload rfl rfl ?_
    refine ax_idiv rfl (by omega) (by omega) (by omega) ?_
    refine ax_istore (ls' := [(0, _), (1, _), (2, _), (3, _), (4, _), (5, _), (6, _), (7, _)]) rfl rfl rfl ?_
    refine ax_iload rfl rfl ?_
    refine ax_ineg rfl ?_
    refine ax_iload rfl rfl ?_
    refine ax_idiv rfl (by omega) (by omega) (by omega) ?_
    refine ax_istore (ls' := [(0, _), (1, _), (2, _), (3, _), (4, _), (5, _), (6, _), (7, _), (8, _)]) rfl rfl rfl ?_
    refine ax_iloadn rfl rfl ?_
    refine ax_if_ne rfl (by omega) (fun h82 => ?_) (fun h82 => ?_)
    · refine ax_iloadn rfl rfl ?_
      refine ax_iconst rfl ?_
      refine ax_icmp_ne rfl (by omega) (by omega) (fun h90 => ?_) (fun h90 => ?_)
      · refine ax_iload rfl rfl ?_
        refine ax_aloadn rfl rfl ?_
        refine ax_getR rfl fX2_23 rfl rfl ?_
        refine ax_iloadn rfl rfl ?_
        refine ax_callV (as := [_]) rfl vX2_55 hX4_xOf rfl rfl rfl rfl rfl (c_H_xOf E (d + 1) M e (by omega) (by omega)) (av_Xk ?_)
        refine ax_imul rfl ?_
        refine ax_iload rfl rfl ?_
        refine ax_aloadn rfl rfl ?_
        refine ax_getR rfl fX2_23 rfl rfl ?_
        refine ax_iloadn rfl rfl ?_
        refine ax_callV (as := [_]) rfl vX2_58 hX4_yOf rfl rfl rfl rfl rfl (c_H_yOf E (d + 1) M e (by omega) (by omega)) (av_Xk ?_)
        refine ax_imul rfl ?_
        refine ax_iadd rfl ?_
        refine ax_iret rfl rfl ?_
        refine av_rI ?_
        unfold wq wP
        dsimp only
        (repeat' split) <;> first | rfl | omega
      · refine ax_iload rfl rfl ?_
        refine ax_goto rfl ?_
        refine ax_iret rfl rfl ?_
        refine av_rI ?_
        unfold wq wP
        dsimp only
        (repeat' split) <;> first | rfl | omega
    · refine ax_iload rfl rfl ?_
      refine ax_iret rfl rfl ?_
      refine av_rI ?_
      unfold wq wP
      dsimp only
      (repeat' split) <;> first | rfl | omega
  · refine ax_iconst rfl ?_
    refine ax_iret rfl rfl ?_
    refine av_rI ?_
    unfold wq wP
    dsimp only
    (repeat' split) <;> first | rfl | omega
set_option maxRecDepth 100000 in
set_option maxHeartbeats 800000 in
theorem c_X2_gap (E : av_E) (d : Nat) (M : av_M) (S : pt → Prop) (e c : Int) (hF : FO (M 5) (M 6) (M 7) (M 8) (M 4 4) (M 4 5) S) (he : 0 ≤ e ∧ e < (M 4 5)) (hc : 0 ≤ c ∧ c < (M 4 5)) : av_Mt E (d + 3) mX2_gap [vR 1, vI e, vI c] M (av_X (some (vI (gp (M 4 5) (fun k => M 5 (M 8 k)) (fun k => M 6 (M 8 k)) e c))) M) := by
  have hfb := FO_fb hF
  have q0 := hF.1.2.2.2.1 c hc.1 hc.2
  have n12 := hF.2.1
  have h12 := hfb.2.1
  refine av_enter hX2_gap oX2_gap rfl rfl ?_
  refine ax_aloadn rfl rfl ?_
  refine ax_iloadn rfl rfl ?_
  refine ax_iconst rfl ?_
  refine ax_callV (as := [_, _]) rfl vX2_65 hX2_wallPart rfl rfl rfl rfl rfl (c_X2_wallPart E d M S e 2 hF he (by omega)) (av_Xk ?_)
  refine ax_aloadn rfl rfl ?_
  refine ax_iloadn rfl rfl ?_
  refine ax_iconst rfl ?_
  refine ax_callV (as := [_, _]) rfl vX2_65 hX2_wallPart rfl rfl rfl rfl rfl (c_X2_wallPart E d M S e 0 hF he (by omega)) (av_Xk ?_)
  refine ax_aloadn rfl rfl ?_
  refine ax_getR rfl fX2_23 rfl rfl ?_
  refine ax_iloadn rfl rfl ?_
  refine ax_callV (as := [_]) rfl vX2_55 hX4_xOf rfl rfl rfl rfl rfl (c_H_xOf E (d + 2) M c (by omega) (by omega)) (av_Xk ?_)
  refine ax_imul rfl ?_
  refine ax_isub rfl ?_
  refine ax_aloadn rfl rfl ?_
  refine ax_iloadn rfl rfl ?_
  refine ax_iconst rfl ?_
  refine ax_callV (as := [_, _]) rfl vX2_65 hX2_wallPart rfl rfl rfl rfl rfl (c_X2_wallPart E d M S e 1 hF he (by omega)) (av_Xk ?_)
  refine ax_aloadn rfl rfl ?_
  refine ax_getR rfl fX2_23 rfl rfl ?_
  refine ax_iloadn rfl rfl ?_
  refine ax_callV (as := [_]) rfl vX2_58 hX4_yOf rfl rfl rfl rfl rfl (c_H_yOf E (d + 2) M c (by omega) (by omega)) (av_Xk ?_)
  refine ax_imul rfl ?_
  refine ax_isub rfl ?_
  refine ax_iret rfl rfl ?_
  exact av_rI rfl
set_option maxRecDepth 100000 in
set_option maxHeartbeats 800000 in
theorem c_X2_openPairs (E : av_E) (d : Nat) (M : av_M) (S : pt → Prop) (hF : FO (M 5) (M 6) (M 7) (M 8) (M 4 4) (M 4 5) S) : av_Mt E (d + 4) mX2_openPairs [vR 1] M (av_X (some (vI (isum (fun e => opS (M 4 5) (fun k => M 5 (M 8 k)) (fun k => M 6 (M 8 k)) e (M 4 5).toNat) (M 4 5).toNat))) M) := by
  have hfb := FO_fb hF
  have h0 := hfb.1
  have h12 := hfb.2.1
  have inner : ∀ (e : Int) (base : Int) (Q : Option av_V → av_M → Prop), 0 ≤ e → e < (M 4 5) → av_S E (d + 4) mX2_openPairs 46 [(0, vR 1), (1, vI (base + opS (M 4 5) (fun k => M 5 (M 8 k)) (fun k => M 6 (M 8 k)) e (M 4 5).toNat)), (2, vI e), (3, vI (M 4 5))] [] M Q → ∀ (t : Nat) (c : Int), c + t = (M 4 5) → 0 ≤ c → av_S E (d + 4) mX2_openPairs 17 [(0, vR 1), (1, vI (base + opS (M 4 5) (fun k => M 5 (M 8 k)) (fun k => M 6 (M 8 k)) e c.toNat)), (2, vI e), (3, vI c)] [] M Q := by
    intro e base Q e0 e1 hx t
    induction t with
    | zero =>
      intro c hc c0
      have ec : c = (M 4 5) := by omega
      subst ec
      refine ax_iloadn rfl rfl ?_
      refine ax_aloadn rfl rfl ?_
      refine ax_getR rfl fX2_23 rfl rfl ?_
      refine ax_callV (as := []) rfl vX2_31 hX4_size rfl rfl rfl rfl rfl (c_H_size E (d + 3) M) (av_Xk ?_)
      refine ax_icmp_ge rfl (by omega) (by omega) (fun h25 => ?_) (fun h25 => ?_)
      · exact hx
      · omega
    | succ t ih =>
      intro c hc c0
      have es : (c + 1).toNat = c.toNat + 1 := by omega
      have eo : opS (M 4 5) (fun k => M 5 (M 8 k)) (fun k => M 6 (M 8 k)) e (c.toNat + 1) = opS (M 4 5) (fun k => M 5 (M 8 k)) (fun k => M 6 (M 8 k)) e c.toNat + (if 0 < gp (M 4 5) (fun k => M 5 (M 8 k)) (fun k => M 6 (M 8 k)) e (c.toNat : Nat) then 1 else 0) := rfl
      rw [show ((c.toNat : Nat) : Int) = c by omega] at eo
      have rg := gp_rng hfb ⟨e0, e1⟩ ⟨c0, show c < (M 4 5) by omega⟩
      have := ih (c + 1) (by omega) (by omega)
      rw [es, eo, ← Int.add_assoc] at this
      refine ax_iloadn rfl rfl ?_
      refine ax_aloadn rfl rfl ?_
      refine ax_getR rfl fX2_23 rfl rfl ?_
      refine ax_callV (as := []) rfl vX2_31 hX4_size rfl rfl rfl rfl rfl (c_H_size E (d + 3) M) (av_Xk ?_)
      refine ax_icmp_ge rfl (by omega) (by omega) (fun h25 => ?_) (fun h25 => ?_)
      · omega
      · refine ax_aloadn rfl rfl ?_
        refine ax_iloadn rfl rfl ?_
        refine ax_iloadn rfl rfl ?_
        refine ax_callV (as := [_, _]) rfl vX2_69 hX2_gap rfl rfl rfl rfl rfl (c_X2_gap E d M S e c hF ⟨e0, e1⟩ ⟨c0, by omega⟩) (av_Xk ?_)
        refine ax_if_le rfl (by omega) (fun h34 => ?_) (fun h34 => ?_)
        · refine ax_iinc (ls' := [(0, _), (1, _), (2, _), (3, _)]) rfl rfl rfl rfl ?_
          refine ax_goto rfl ?_
          first
            | (rw [if_neg (by omega), Int.add_zero] at this; exact this)
            | (rw [if_pos (by omega)] at this; exact this)
        · refine ax_iinc (ls' := [(0, _), (1, _), (2, _), (3, _)]) rfl rfl rfl rfl ?_
          refine ax_iinc (ls' := [(0, _), (1, _), (2, _), (3, _)]) rfl rfl rfl rfl ?_
          refine ax_goto rfl ?_
          first
            | (rw [if_neg (by omega), Int.add_zero] at this; exact this)
            | (rw [if_pos (by omega)] at this; exact this)
  have outer : ∀ (t : Nat) (e : Int) (_u : Unit), e + t = (M 4 5) → 0 ≤ e → av_S E (d + 4) mX2_openPairs 4 [(0, vR 1), (1, vI (isum (fun e => opS (M 4 5) (fun k => M 5 (M 8 k)) (fun k => M 6 (M 8 k)) e (M 4 5).toNat) e.toNat)), (2, vI e)] [] M (av_X (some (vI (isum (fun e => opS (M 4 5) (fun k => M 5 (M 8 k)) (fun k => M 6 (M 8 k)) e (M 4 5).toNat) (M 4 5).toNat))) M) := by
    intro t
    induction t with
    | zero =>
      intro e _ he e0
      have ee : e = (M 4 5) := by omega
      subst ee
      refine ax_iloadn rfl rfl ?_
      refine ax_aloadn rfl rfl ?_
      refine ax_getR rfl fX2_23 rfl rfl ?_
      refine ax_callV (as := []) rfl vX2_31 hX4_size rfl rfl rfl rfl rfl (c_H_size E (d + 3) M) (av_Xk ?_)
      refine ax_icmp_ge rfl (by omega) (by omega) (fun h12 => ?_) (fun h12 => ?_)
      · refine ax_iloadn rfl rfl ?_
        refine ax_iret rfl rfl ?_
        exact av_rI rfl
      · omega
    | succ t ih =>
      intro e _ he e0
      have es : (e + 1).toNat = e.toNat + 1 := by omega
      have eo : isum (fun e => opS (M 4 5) (fun k => M 5 (M 8 k)) (fun k => M 6 (M 8 k)) e (M 4 5).toNat) (e.toNat + 1) = isum (fun e => opS (M 4 5) (fun k => M 5 (M 8 k)) (fun k => M 6 (M 8 k)) e (M 4 5).toNat) e.toNat + opS (M 4 5) (fun k => M 5 (M 8 k)) (fun k => M 6 (M 8 k)) (e.toNat : Nat) (M 4 5).toNat := rfl
      rw [show ((e.toNat : Nat) : Int) = e by omega] at eo
      have ih2 := ih (e + 1) () (by omega) (by omega)
      rw [es, eo] at ih2
      refine ax_iloadn rfl rfl ?_
      refine ax_aloadn rfl rfl ?_
      refine ax_getR rfl fX2_23 rfl rfl ?_
      refine ax_callV (as := []) rfl vX2_31 hX4_size rfl rfl rfl rfl rfl (c_H_size E (d + 3) M) (av_Xk ?_)
      refine ax_icmp_ge rfl (by omega) (by omega) (fun h12 => ?_) (fun h12 => ?_)
      · omega
      · refine ax_iconst rfl ?_
        refine ax_istoren (ls' := [(0, _), (1, _), (2, _), (3, _)]) rfl rfl rfl ?_
        have := inner e (isum (fun e => opS (M 4 5) (fun k => M 5 (M 8 k)) (fun k => M 6 (M 8 k)) e (M 4 5).toNat) e.toNat) (av_X (some (vI (isum (fun e => opS (M 4 5) (fun k => M 5 (M 8 k)) (fun k => M 6 (M 8 k)) e (M 4 5).toNat) (M 4 5).toNat))) M) e0 (by omega) (by
          refine ax_iinc (ls' := [(0, _), (1, _), (2, _), (3, _)]) rfl rfl rfl rfl ?_
          refine ax_goto rfl ?_
          refine ax_pick [0, 1, 2] rfl ?_
          exact ih2
          ) (M 4 5).toNat 0 (by omega) (by omega)
        simpa [opS, isum] using this
  refine av_enter hX2_openPairs oX2_openPairs rfl rfl ?_
  refine ax_iconst rfl ?_
  refine ax_istoren (ls' := [(0, _), (1, _)]) rfl rfl rfl ?_
  refine ax_iconst rfl ?_
  refine ax_istoren (ls' := [(0, _), (1, _), (2, _)]) rfl rfl rfl ?_
  exact outer (M 4 5).toNat 0 () (by omega) (by omega)
set_option maxRecDepth 100000 in
set_option maxHeartbeats 800000 in
theorem c_X2_twiceArea (E : av_E) (d : Nat) (M : av_M) (S : pt → Prop) (hF : FO (M 5) (M 6) (M 7) (M 8) (M 4 4) (M 4 5) S) : av_Mt E (d + 1) mX2_twiceArea [vR 1] M (av_X (some (vI (arS (M 4 5) (fun k => M 5 (M 8 k)) (fun k => M 6 (M 8 k)) (M 4 5).toNat))) M) := by
  have hfb := FO_fb hF
  have h0 := hfb.1
  have h12 := hfb.2.1
  have n12 := hF.2.1
  have hR := hF.1.2.2.2.1
  have loop : ∀ (t : Nat) (e : Int), e + t = (M 4 5) → 0 ≤ e → av_S E (d + 1) mX2_twiceArea 4 [(0, vR 1), (1, vI (arS (M 4 5) (fun k => M 5 (M 8 k)) (fun k => M 6 (M 8 k)) e.toNat)), (2, vI e)] [] M (av_X (some (vI (arS (M 4 5) (fun k => M 5 (M 8 k)) (fun k => M 6 (M 8 k)) (M 4 5).toNat))) M) := by
    intro t
    induction t with
    | zero =>
      intro e he e0
      have ee : e = (M 4 5) := by omega
      subst ee
      refine ax_iloadn rfl rfl ?_
      refine ax_aloadn rfl rfl ?_
      refine ax_getR rfl fX2_23 rfl rfl ?_
      refine ax_callV (as := []) rfl vX2_31 hX4_size rfl rfl rfl rfl rfl (c_H_size E d M) (av_Xk ?_)
      refine ax_icmp_ge rfl (by omega) (by omega) (fun h12 => ?_) (fun h12 => ?_)
      · refine ax_iloadn rfl rfl ?_
        refine ax_iret rfl rfl ?_
        exact av_rI rfl
      · omega
    | succ t ih =>
      intro e he e0
      have es : (e + 1).toNat = e.toNat + 1 := by omega
      have eo : arS (M 4 5) (fun k => M 5 (M 8 k)) (fun k => M 6 (M 8 k)) (e.toNat + 1) = arS (M 4 5) (fun k => M 5 (M 8 k)) (fun k => M 6 (M 8 k)) e.toNat + (M 5 (M 8 (e.toNat : Nat)) * M 6 (M 8 (nxI (M 4 5) (e.toNat : Nat))) - M 6 (M 8 (e.toNat : Nat)) * M 5 (M 8 (nxI (M 4 5) (e.toNat : Nat)))) := rfl
      rw [show ((e.toNat : Nat) : Int) = e by omega] at eo
      have ih2 := ih (e + 1) (by omega) (by omega)
      rw [es, eo] at ih2
      have nx := nxI_rng e0 (show e < (M 4 5) by omega)
      have q0 := hR e e0 (by omega)
      have q1 := hR _ nx.1 nx.2
      refine ax_iloadn rfl rfl ?_
      refine ax_aloadn rfl rfl ?_
      refine ax_getR rfl fX2_23 rfl rfl ?_
      refine ax_callV (as := []) rfl vX2_31 hX4_size rfl rfl rfl rfl rfl (c_H_size E d M) (av_Xk ?_)
      refine ax_icmp_ge rfl (by omega) (by omega) (fun h12 => ?_) (fun h12 => ?_)
      · omega
      · refine ax_aloadn rfl rfl ?_
        refine ax_getR rfl fX2_23 rfl rfl ?_
        refine ax_iloadn rfl rfl ?_
        refine ax_callV (as := [_]) rfl vX2_51 hX4_next rfl rfl rfl rfl rfl (c_H_next E d M e (by omega) (by omega)) (av_Xk ?_)
        refine (show av_S E (d + 1) mX2_twiceArea 23 _ [vI (nxI (M 4 5) e)] M _ from ?_)
        refine ax_istoren (ls' := [(0, _), (1, _), (2, _), (3, _)]) rfl rfl rfl ?_
        refine ax_iloadn rfl rfl ?_
        refine ax_aloadn rfl rfl ?_
        refine ax_getR rfl fX2_23 rfl rfl ?_
        refine ax_iloadn rfl rfl ?_
        refine ax_callV (as := [_]) rfl vX2_55 hX4_xOf rfl rfl rfl rfl rfl (c_H_xOf E d M e (by omega) (by omega)) (av_Xk ?_)
        refine ax_aloadn rfl rfl ?_
        refine ax_getR rfl fX2_23 rfl rfl ?_
        refine ax_iloadn rfl rfl ?_
        refine ax_callV (as := [_]) rfl vX2_58 hX4_yOf rfl rfl rfl rfl rfl (c_H_yOf E d M (nxI (M 4 5) e) (by omega) (by omega)) (av_Xk ?_)
        refine ax_imul rfl ?_
        refine ax_aloadn rfl rfl ?_
        refine ax_getR rfl fX2_23 rfl rfl ?_
        refine ax_iloadn rfl rfl ?_
        refine ax_callV (as := [_]) rfl vX2_58 hX4_yOf rfl rfl rfl rfl rfl (c_H_yOf E d M e (by omega) (by omega)) (av_Xk ?_)
        refine ax_aloadn rfl rfl ?_
        refine ax_getR rfl fX2_23 rfl rfl ?_
        refine ax_iloadn rfl rfl ?_
        refine ax_callV (as := [_]) rfl vX2_55 hX4_xOf rfl rfl rfl rfl rfl (c_H_xOf E d M (nxI (M 4 5) e) (by omega) (by omega)) (av_Xk ?_)
        refine ax_imul rfl ?_
        refine ax_isub rfl ?_
        refine ax_iadd rfl ?_
        refine ax_istoren (ls' := [(0, _), (1, _), (2, _), (3, _)]) rfl rfl rfl ?_
        refine ax_iinc (ls' := [(0, _), (1, _), (2, _), (3, _)]) rfl rfl rfl rfl ?_
        refine ax_goto rfl ?_
        refine ax_pick [0, 1, 2] rfl ?_
        exact ih2
  refine av_enter hX2_twiceArea oX2_twiceArea rfl rfl ?_
  refine ax_iconst rfl ?_
  refine ax_istoren (ls' := [(0, _), (1, _)]) rfl rfl rfl ?_
  refine ax_iconst rfl ?_
  refine ax_istoren (ls' := [(0, _), (1, _), (2, _)]) rfl rfl rfl ?_
  exact loop (M 4 5).toNat 0 (by omega) (by omega)
set_option maxRecDepth 100000 in
set_option maxHeartbeats 800000 in
theorem c_X2_greatest (E : av_E) (d : Nat) (M : av_M) (p q : Int) (hp : -99 ≤ p ∧ p ≤ 99) (hq : -99 ≤ q ∧ q ≤ 99) (hn : 1 ≤ M 1 3 ∧ M 1 3 ≤ 12) (hb : ∀ j, 0 ≤ j → j < M 1 3 → (-50 ≤ M 2 j ∧ M 2 j ≤ 50) ∧ (-50 ≤ M 3 j ∧ M 3 j ≤ 50)) : av_Mt E (d + 1) mX2_greatest [vR 1, vI p, vI q] M (av_X (some (vI (mxI (fun i => p * M 2 i + q * M 3 i) (M 1 3 - 1).toNat))) M) := by
  have one : ∀ j, 0 ≤ j → j < M 1 3 → -10000 ≤ p * M 2 j + q * M 3 j ∧ p * M 2 j + q * M 3 j ≤ 10000 := by
    intro j j0 j1
    have b := hb j j0 j1
    have m1 := mb hp b.1
    have m2 := mb hq b.2
    omega
  have all : ∀ k : Nat, (k : Int) < M 1 3 → -10000 ≤ mxI (fun i => p * M 2 i + q * M 3 i) k ∧ mxI (fun i => p * M 2 i + q * M 3 i) k ≤ 10000 := by
    intro k
    induction k with
    | zero => intro hk; exact one 0 (by omega) hk
    | succ k ih =>
      intro hk
      have a := ih (by omega)
      have b : -10000 ≤ (fun i => p * M 2 i + q * M 3 i) ((k + 1 : Nat) : Int) ∧ (fun i => p * M 2 i + q * M 3 i) ((k + 1 : Nat) : Int) ≤ 10000 := one _ (by omega) hk
      show -10000 ≤ max (mxI (fun i => p * M 2 i + q * M 3 i) k) ((fun i => p * M 2 i + q * M 3 i) ((k + 1 : Nat) : Int)) ∧ max (mxI (fun i => p * M 2 i + q * M 3 i) k) ((fun i => p * M 2 i + q * M 3 i) ((k + 1 : Nat) : Int)) ≤ 10000
      omega
  have loop : ∀ (t : Nat) (i : Int), i + t = M 1 3 → 1 ≤ i → av_S E (d + 1) mX2_greatest 21 [(0, vR 1), (1, vI p), (2, vI q), (3, vI (mxI (fun i => p * M 2 i + q * M 3 i) (i - 1).toNat)), (4, vI i)] [] M (av_X (some (vI (mxI (fun i => p * M 2 i + q * M 3 i) (M 1 3 - 1).toNat))) M) := by
    intro t
    induction t with
    | zero =>
      intro i hi i0
      have ei : i = M 1 3 := by omega
      subst ei
      refine ax_iload rfl rfl ?_
      refine ax_aloadn rfl rfl ?_
      refine ax_getI (g := 3) rfl fX2_27 rfl rfl rfl rfl ?_
      refine ax_icmp_ge rfl (by omega) (by omega) (fun h27 => ?_) (fun h27 => ?_)
      · refine ax_iloadn rfl rfl ?_
        refine ax_iret rfl rfl ?_
        exact av_rI rfl
      · omega
    | succ t ih =>
      intro i hi i0
      have ih2 := ih (i + 1) (by omega) (by omega)
      have es : (i + 1 - 1).toNat = (i - 1).toNat + 1 := by omega
      have eo : mxI (fun i => p * M 2 i + q * M 3 i) ((i - 1).toNat + 1) = max (mxI (fun i => p * M 2 i + q * M 3 i) (i - 1).toNat) (p * M 2 (((i - 1).toNat + 1 : Nat) : Int) + q * M 3 (((i - 1).toNat + 1 : Nat) : Int)) := rfl
      rw [show (((i - 1).toNat + 1 : Nat) : Int) = i by omega] at eo
      rw [es, eo] at ih2
      have r1 := one i (by omega) (by omega)
      have r2 := all (i - 1).toNat (by omega)
      refine ax_iload rfl rfl ?_
      refine ax_aloadn rfl rfl ?_
      refine ax_getI (g := 3) rfl fX2_27 rfl rfl rfl rfl ?_
      refine ax_icmp_ge rfl (by omega) (by omega) (fun h27 => ?_) (fun h27 => ?_)
      · omega
      · refine ax_iloadn rfl rfl ?_
        refine ax_iloadn rfl rfl ?_
        refine ax_aloadn rfl rfl ?_
        refine ax_getR rfl fX2_9 rfl rfl ?_
        refine ax_iload rfl rfl ?_
        refine ax_iald rfl rfl (by omega) ?_
        refine ax_imul rfl ?_
        refine ax_iloadn rfl rfl ?_
        refine ax_aloadn rfl rfl ?_
        refine ax_getR rfl fX2_15 rfl rfl ?_
        refine ax_iload rfl rfl ?_
        refine ax_iald rfl rfl (by omega) ?_
        refine ax_imul rfl ?_
        refine ax_iadd rfl ?_
        refine ax_max rfl (av_in (by decide +kernel) rfl) rfl (by omega) (by omega) ?_
        refine ax_istoren (ls' := [(0, _), (1, _), (2, _), (3, _), (4, _)]) rfl rfl rfl ?_
        refine ax_iinc (ls' := [(0, _), (1, _), (2, _), (3, _), (4, _)]) rfl rfl rfl rfl ?_
        refine ax_goto rfl ?_
        exact ih2
  refine av_enter hX2_greatest oX2_greatest rfl rfl ?_
  refine ax_iloadn rfl rfl ?_
  refine ax_aloadn rfl rfl ?_
  refine ax_getR rfl fX2_9 rfl rfl ?_
  refine ax_iconst rfl ?_
  refine ax_iald rfl rfl (by omega) ?_
  refine ax_imul rfl ?_
  refine ax_iloadn rfl rfl ?_
  refine ax_aloadn rfl rfl ?_
  refine ax_getR rfl fX2_15 rfl rfl ?_
  refine ax_iconst rfl ?_
  refine ax_iald rfl rfl (by omega) ?_
  refine ax_imul rfl ?_
  refine ax_iadd rfl ?_
  refine ax_istoren (ls' := [(0, _), (1, _), (2, _), (3, _)]) rfl rfl rfl ?_
  refine ax_iconst rfl ?_
  refine ax_istore (ls' := [(0, _), (1, _), (2, _), (3, _), (4, _)]) rfl rfl rfl ?_
  exact loop (M 1 3 - 1).toNat 1 (by omega) (by omega)
end
section
/-! ===== the figure drawn anew; the tables ===== -/
set_option maxRecDepth 100000 in
set_option maxHeartbeats 800000 in
theorem l_X2_draw (E : av_E) (d : Nat) (M : av_M) (hn : 0 ≤ M 1 3 ∧ M 1 3 ≤ 12) (hb : ∀ j, 0 ≤ j → j < M 1 3 → (-50 ≤ M 2 j ∧ M 2 j ≤ 50) ∧ (-50 ≤ M 3 j ∧ M 3 j ≤ 50)) : ∀ (t : Nat) (i : Int) (M1 : av_M), i + t = M 1 3 → 0 ≤ i → (OE (M1 5) (M1 6) (M1 7) (M1 4 4) (FS (i) (M 2) (M 3)) ∧ M1 4 4 ≤ i ∧ (∀ j, 0 ≤ j → j < M1 4 4 → (-50 ≤ M1 5 j ∧ M1 5 j ≤ 50) ∧ (-50 ≤ M1 6 j ∧ M1 6 j ≤ 50) ∧ M1 7 j = 1) ∧ (∀ k, k ≠ 4 → k ≠ 5 → k ≠ 6 → k ≠ 7 → k ≠ 8 → M1 k = M k)) → av_S E (d + 3) mX2_draw 9 [(0, vR 1), (1, vI i)] [] M1 (fun res M' => res = none ∧ FO (M' 5) (M' 6) (M' 7) (M' 8) (M' 4 4) (M' 4 5) (FS (M 1 3) (M 2) (M 3)) ∧ (∀ k, k ≠ 4 → k ≠ 5 → k ≠ 6 → k ≠ 7 → k ≠ 8 → M' k = M k)) := by
  intro t
  induction t with
  | zero =>
    intro i M1 hi i0 hinv
    have ei : i = M 1 3 := by omega
    subst ei
    obtain ⟨hE, hle, hT, hf⟩ := hinv
    have f1 := hf 1 (by decide) (by decide) (by decide) (by decide) (by decide)
    refine ax_iloadn rfl rfl ?_
    refine ax_aloadn rfl rfl ?_
    refine ax_getI (g := 3) rfl fX2_27 rfl rfl rfl rfl ?_
    refine ax_icmp_ge rfl (by omega) (by rw [f1]; omega) (fun h14 => ?_) (fun h14 => ?_)
    · refine ax_aloadn rfl rfl ?_
      refine ax_getR rfl fX2_23 rfl rfl ?_
      refine ax_callV (as := []) rfl vX2_48 hX4_wrap rfl rfl rfl rfl rfl (c_H_wrap E d M1 _ hE (by omega)) (fun r47 M47 hr47 => ?_)
      obtain ⟨rfl, g1, g2, g3, g4, g5, g6⟩ := hr47
      refine ax_vret rfl rfl ?_
      refine ⟨rfl, ⟨g1, by rw [g5 4 (by decide)]; omega, fun j j0 j1 => ?_⟩, fun k k0 k1 k2 k3 k4 => by rw [g6 k k0 k4, hf k k0 k1 k2 k3 k4]⟩
      rw [g2, g3, g4]
      exact hT j j0 (by rw [g5 4 (by decide)] at j1; exact j1)
    · rw [f1] at h14; omega
  | succ t ih =>
    intro i M1 hi i0 hinv
    obtain ⟨hE, hle, hT, hf⟩ := hinv
    have f1 := hf 1 (by decide) (by decide) (by decide) (by decide) (by decide)
    have f2 := hf 2 (by decide) (by decide) (by decide) (by decide) (by decide)
    have f3 := hf 3 (by decide) (by decide) (by decide) (by decide) (by decide)
    have b := hb i i0 (by omega)
    have hBP : BP (M1 2 i) (M1 3 i) 1 := by rw [f2, f3]; unfold BP; omega
    refine ax_iloadn rfl rfl ?_
    refine ax_aloadn rfl rfl ?_
    refine ax_getI (g := 3) rfl fX2_27 rfl rfl rfl rfl ?_
    refine ax_icmp_ge rfl (by omega) (by rw [f1]; omega) (fun h14 => ?_) (fun h14 => ?_)
    · rw [f1] at h14; omega
    · refine ax_aloadn rfl rfl ?_
      refine ax_getR rfl fX2_23 rfl rfl ?_
      refine ax_aloadn rfl rfl ?_
      refine ax_getR rfl fX2_9 rfl rfl ?_
      refine ax_iloadn rfl rfl ?_
      refine ax_iald rfl rfl (by omega) ?_
      refine ax_aloadn rfl rfl ?_
      refine ax_getR rfl fX2_15 rfl rfl ?_
      refine ax_iloadn rfl rfl ?_
      refine ax_iald rfl rfl (by omega) ?_
      refine ax_iconst rfl ?_
      refine ax_callV (as := [_, _, _]) rfl vX2_45 hX4_add rfl rfl rfl rfl rfl (c_H_add E d M1 _ _ _ _ hBP hE (by omega)) (fun r34 M34 hr34 => ?_)
      obtain ⟨rfl, g1, g2, g3, g4, g5, g6⟩ := hr34
      refine ax_iinc (ls' := [(0, _), (1, _)]) rfl rfl rfl rfl ?_
      refine ax_goto rfl ?_
      refine ih _ M34 (by omega) (by omega) ⟨?_, by omega, fun j j0 j1 => ?_, fun k k0 k1 k2 k3 k4 => by rw [g5 k k0 k1 k2 k3, hf k k0 k1 k2 k3 k4]⟩
      · rw [f2, f3, FS_succ i0] at g3; exact g3
      · exact g6 (fun x y w => (-50 ≤ x ∧ x ≤ 50) ∧ (-50 ≤ y ∧ y ≤ 50) ∧ w = 1) hT (by rw [f2, f3]; omega) j j0 j1
set_option maxRecDepth 100000 in
set_option maxHeartbeats 800000 in
theorem c_X2_draw (E : av_E) (d : Nat) (M : av_M) (hn : 0 ≤ M 1 3 ∧ M 1 3 ≤ 12) (hb : ∀ j, 0 ≤ j → j < M 1 3 → (-50 ≤ M 2 j ∧ M 2 j ≤ 50) ∧ (-50 ≤ M 3 j ∧ M 3 j ≤ 50)) : av_Mt E (d + 3) mX2_draw [vR 1] M (fun res M' => res = none ∧ FO (M' 5) (M' 6) (M' 7) (M' 8) (M' 4 4) (M' 4 5) (FS (M 1 3) (M 2) (M 3)) ∧ (∀ k, k ≠ 4 → k ≠ 5 → k ≠ 6 → k ≠ 7 → k ≠ 8 → M' k = M k)) := by
  refine av_enter hX2_draw oX2_draw rfl rfl ?_
  refine ax_aloadn rfl rfl ?_
  refine ax_getR rfl fX2_23 rfl rfl ?_
  refine ax_callV (as := []) rfl vX2_42 hX4_empty rfl rfl rfl rfl rfl (c_H_empty E (d + 2) M) (fun r4 M4 hr4 => ?_)
  obtain ⟨rfl, e1, e2, e3⟩ := hr4
  refine ax_iconst rfl ?_
  refine ax_istoren (ls' := [(0, _), (1, _)]) rfl rfl rfl ?_
  refine l_X2_draw E d M hn hb (M 1 3).toNat 0 M4 (by omega) (by omega) ⟨?_, by omega, fun j j0 j1 => by omega, fun k k0 k1 k2 k3 k4 => e3 k k0⟩
  rw [e1, ← FS_zero]
  exact OE_nil _ _ _
set_option maxRecDepth 100000 in
set_option maxHeartbeats 800000 in
theorem c_X2_put (E : av_E) (d : Nat) (M : av_M) (i x y : Int) (hx : -50 ≤ x ∧ x ≤ 50) (hy : -50 ≤ y ∧ y ≤ 50) (hi : 0 ≤ i ∧ i < 12) (hn : 0 ≤ M 1 3 ∧ M 1 3 ≤ 12) (hb : ∀ j, 0 ≤ j → j < M 1 3 → j ≠ i → (-50 ≤ M 2 j ∧ M 2 j ≤ 50) ∧ (-50 ≤ M 3 j ∧ M 3 j ≤ 50)) : av_Mt E (d + 4) mX2_put [vR 1, vI i, vI x, vI y] M (fun res M' => res = none ∧ M' 2 i = x ∧ (∀ j, j ≠ i → M' 2 j = M 2 j) ∧ M' 3 i = y ∧ (∀ j, j ≠ i → M' 3 j = M 3 j) ∧ FO (M' 5) (M' 6) (M' 7) (M' 8) (M' 4 4) (M' 4 5) (FS (M 1 3) (M' 2) (M' 3)) ∧ (∀ k, k ≠ 2 → k ≠ 3 → k ≠ 4 → k ≠ 5 → k ≠ 6 → k ≠ 7 → k ≠ 8 → M' k = M k)) := by
  refine av_enter hX2_put oX2_put rfl rfl ?_
  refine ax_aloadn rfl rfl ?_
  refine ax_getR rfl fX2_9 rfl rfl ?_
  refine ax_iloadn rfl rfl ?_
  refine ax_iloadn rfl rfl ?_
  refine ax_iast' rfl rfl (by omega) (fun M6 a6 b6 c6 => ?_)
  refine ax_aloadn rfl rfl ?_
  refine ax_getR rfl fX2_15 rfl rfl ?_
  refine ax_iloadn rfl rfl ?_
  refine ax_iloadn rfl rfl ?_
  refine ax_iast' rfl rfl (by omega) (fun M13 a13 b13 c13 => ?_)
  refine ax_aloadn rfl rfl ?_
  refine ax_callV (as := []) rfl vX2_39 hX2_draw rfl rfl rfl rfl rfl (c_X2_draw E d M13 (by rw [c13 1 (by decide), c6 1 (by decide)]; exact hn) (fun j j0 j1 => by
    rw [c13 1 (by decide), c6 1 (by decide)] at j1
    rw [c13 2 (by decide)]
    by_cases hj : j = i
    · rw [hj, a6, a13]; exact ⟨hx, hy⟩
    · rw [b6 j hj, b13 j hj, c6 3 (by decide)]; exact hb j j0 j1 hj)) (fun r15 M15 hr15 => ?_)
  obtain ⟨rfl, g1, g2⟩ := hr15
  refine ax_vret rfl rfl ?_
  have e2 : M15 2 = M6 2 := by rw [g2 2 (by decide) (by decide) (by decide) (by decide) (by decide), c13 2 (by decide)]
  have e3 : M15 3 = M13 3 := g2 3 (by decide) (by decide) (by decide) (by decide) (by decide)
  have e1 : M13 1 = M 1 := by rw [c13 1 (by decide), c6 1 (by decide)]
  refine ⟨rfl, by rw [e2]; exact a6, fun j hj => by rw [e2]; exact b6 j hj, by rw [e3]; exact a13, fun j hj => by rw [e3, b13 j hj, c6 3 (by decide)], ?_, fun k k2 k3 k4 k5 k6 k7 k8 => by rw [g2 k k4 k5 k6 k7 k8, c13 k k3, c6 k k2]⟩
  rw [e2, e3]
  rw [e1, c13 2 (by decide)] at g1
  exact g1
set_option maxRecDepth 100000 in
set_option maxHeartbeats 800000 in
theorem c_X2_add (E : av_E) (d : Nat) (M : av_M) (x y : Int) (hx : -50 ≤ x ∧ x ≤ 50) (hy : -50 ≤ y ∧ y ≤ 50) (hn : 0 ≤ M 1 3 ∧ M 1 3 < 12) (hb : ∀ j, 0 ≤ j → j < M 1 3 → (-50 ≤ M 2 j ∧ M 2 j ≤ 50) ∧ (-50 ≤ M 3 j ∧ M 3 j ≤ 50)) : av_Mt E (d + 5) mX2_add [vR 1, vI x, vI y] M (fun res M' => res = some (vI (M 1 3)) ∧ M' 1 3 = M 1 3 + 1 ∧ M' 2 (M 1 3) = x ∧ (∀ j, j ≠ M 1 3 → M' 2 j = M 2 j) ∧ M' 3 (M 1 3) = y ∧ (∀ j, j ≠ M 1 3 → M' 3 j = M 3 j) ∧ FO (M' 5) (M' 6) (M' 7) (M' 8) (M' 4 4) (M' 4 5) (FS (M' 1 3) (M' 2) (M' 3)) ∧ (∀ k, k ≠ 1 → k ≠ 2 → k ≠ 3 → k ≠ 4 → k ≠ 5 → k ≠ 6 → k ≠ 7 → k ≠ 8 → M' k = M k)) := by
  refine av_enter hX2_add oX2_add rfl rfl ?_
  refine ax_aloadn rfl rfl ?_
  refine ax_getI (g := 3) rfl fX2_27 rfl rfl rfl rfl ?_
  refine ax_istoren (ls' := [(0, _), (1, _), (2, _), (3, _)]) rfl rfl rfl ?_
  refine ax_aloadn rfl rfl ?_
  refine ax_dup rfl rfl ?_
  refine ax_getI (g := 3) rfl fX2_27 rfl rfl rfl rfl ?_
  refine ax_iconst rfl ?_
  refine ax_iadd rfl ?_
  refine ax_putI' (g := 3) rfl gX2_27 rfl rfl rfl rfl (fun M12 a12 b12 c12 => ?_)
  refine ax_aloadn rfl rfl ?_
  refine ax_iloadn rfl rfl ?_
  refine ax_iloadn rfl rfl ?_
  refine ax_iloadn rfl rfl ?_
  refine ax_callV (as := [_, _, _]) rfl vX2_35 hX2_put rfl rfl rfl rfl rfl (c_X2_put E d M12 (M 1 3) x y hx hy (by omega) (by omega) (fun j j0 j1 hj => by rw [c12 2 (by decide), c12 3 (by decide)]; exact hb j j0 (by omega))) (fun r19 M19 hr19 => ?_)
  obtain ⟨rfl, g1, g2, g3, g4, g5, g6⟩ := hr19
  refine ax_iloadn rfl rfl ?_
  refine ax_iret rfl rfl ?_
  have e1 : M19 1 = M12 1 := g6 1 (by decide) (by decide) (by decide) (by decide) (by decide) (by decide) (by decide)
  refine ⟨rfl, by rw [e1]; exact a12, g1, fun j hj => by rw [g2 j hj, c12 2 (by decide)], g3, fun j hj => by rw [g4 j hj, c12 3 (by decide)], by rw [e1]; exact g5, fun k k1 k2 k3 k4 k5 k6 k7 k8 => by rw [g6 k k2 k3 k4 k5 k6 k7 k8, c12 k k1]⟩
set_option maxRecDepth 100000 in
set_option maxHeartbeats 800000 in
theorem c_X2_drop (E : av_E) (d : Nat) (M : av_M) : av_Mt E (d + 4) mX2_drop [vR 1] M (fun res M' => res = some (vI (M 1 3)) ∧ M' 1 3 = 0 ∧ FO (M' 5) (M' 6) (M' 7) (M' 8) (M' 4 4) (M' 4 5) (FS (M' 1 3) (M' 2) (M' 3)) ∧ (∀ k, k ≠ 1 → k ≠ 4 → k ≠ 5 → k ≠ 6 → k ≠ 7 → k ≠ 8 → M' k = M k)) := by
  refine av_enter hX2_drop oX2_drop rfl rfl ?_
  refine ax_aloadn rfl rfl ?_
  refine ax_getI (g := 3) rfl fX2_27 rfl rfl rfl rfl ?_
  refine ax_istoren (ls' := [(0, _), (1, _)]) rfl rfl rfl ?_
  refine ax_aloadn rfl rfl ?_
  refine ax_iconst rfl ?_
  refine ax_putI' (g := 3) rfl gX2_27 rfl rfl rfl rfl (fun M7 a7 b7 c7 => ?_)
  refine ax_aloadn rfl rfl ?_
  refine ax_callV (as := []) rfl vX2_39 hX2_draw rfl rfl rfl rfl rfl (c_X2_draw E d M7 (by omega) (fun j j0 j1 => by omega)) (fun r11 M11 hr11 => ?_)
  obtain ⟨rfl, g1, g2⟩ := hr11
  refine ax_iloadn rfl rfl ?_
  refine ax_iret rfl rfl ?_
  have e1 : M11 1 = M7 1 := g2 1 (by decide) (by decide) (by decide) (by decide) (by decide)
  have e2 : M11 2 = M7 2 := g2 2 (by decide) (by decide) (by decide) (by decide) (by decide)
  have e3 : M11 3 = M7 3 := g2 3 (by decide) (by decide) (by decide) (by decide) (by decide)
  refine ⟨rfl, by rw [e1]; exact a7, by rw [e1, e2, e3]; exact g1, fun k k1 k4 k5 k6 k7 k8 => by rw [g2 k k4 k5 k6 k7 k8, c7 k k1]⟩
set_option maxRecDepth 100000 in
set_option maxHeartbeats 800000 in
theorem c_X5_inner (E : av_E) (d : Nat) (M : av_M)  : av_Mt E (d) mX5_inner [vR 9] M (av_X (some (vI (M 9 2))) M) := by
  refine av_enter hX5_inner oX5_inner rfl rfl ?_
  refine ax_aloadn rfl rfl ?_
  refine ax_getI (g := 2) rfl fX5_18 rfl rfl rfl rfl ?_
  refine ax_iret rfl rfl ?_
  exact av_rI rfl
set_option maxRecDepth 100000 in
set_option maxHeartbeats 800000 in
theorem c_X5_scale (E : av_E) (d : Nat) (M : av_M)  : av_Mt E (d) mX5_scale [vR 9] M (av_X (some (vI (M 9 3))) M) := by
  refine av_enter hX5_scale oX5_scale rfl rfl ?_
  refine ax_aloadn rfl rfl ?_
  refine ax_getI (g := 3) rfl fX5_22 rfl rfl rfl rfl ?_
  refine ax_iret rfl rfl ?_
  exact av_rI rfl
set_option maxRecDepth 100000 in
set_option maxHeartbeats 800000 in
theorem c_X5_resize (E : av_E) (d : Nat) (M : av_M) (r s : Int) : av_Mt E d mX5_resize [vR 9, vI r, vI s] M (fun res M' => res = some (vI (M 9 2)) ∧ M' 9 2 = r ∧ M' 9 3 = s ∧ (∀ k, k ≠ 9 → M' k = M k)) := by
  refine av_enter hX5_resize oX5_resize rfl rfl ?_
  refine ax_aloadn rfl rfl ?_
  refine ax_getI (g := 2) rfl fX5_18 rfl rfl rfl rfl ?_
  refine ax_istoren (ls' := [(0, _), (1, _), (2, _), (3, _)]) rfl rfl rfl ?_
  refine ax_aloadn rfl rfl ?_
  refine ax_iloadn rfl rfl ?_
  refine ax_putI' (g := 2) rfl gX5_18 rfl rfl rfl rfl (fun M7 a7 b7 c7 => ?_)
  refine ax_aloadn rfl rfl ?_
  refine ax_iloadn rfl rfl ?_
  refine ax_putI' (g := 3) rfl gX5_22 rfl rfl rfl rfl (fun M12 a12 b12 c12 => ?_)
  refine ax_iloadn rfl rfl ?_
  refine ax_iret rfl rfl ?_
  exact ⟨rfl, by rw [b12 2 (by decide)]; exact a7, a12, fun k hk => by rw [c12 k hk, c7 k hk]⟩
set_option maxRecDepth 100000 in
set_option maxHeartbeats 800000 in
theorem c_X5_put (E : av_E) (d : Nat) (M : av_M) (l s v : Int) (hl : l = 0 ∨ l = 1) (hs : 0 ≤ s ∧ s < 96) : av_Mt E d mX5_put [vR 9, vI l, vI s, vI v] M (fun res M' => (l = 0 → res = some (vI (M 11 s)) ∧ M' 11 s = v ∧ (∀ j, j ≠ s → M' 11 j = M 11 j) ∧ ∀ k, k ≠ 11 → M' k = M k) ∧ (l = 1 → res = some (vI (M 10 s)) ∧ M' 10 s = v ∧ (∀ j, j ≠ s → M' 10 j = M 10 j) ∧ ∀ k, k ≠ 10 → M' k = M k)) := by
  refine av_enter hX5_put oX5_put rfl rfl ?_
  refine ax_iloadn rfl rfl ?_
  refine ax_if_eq rfl (by omega) (fun h1 => ?_) (fun h1 => ?_)
  · refine ax_aloadn rfl rfl ?_
    refine ax_getR rfl fX5_15 rfl rfl ?_
    refine ax_astore (ls' := [(0, _), (1, _), (2, _), (3, _), (4, _)]) rfl rfl rfl ?_
    refine ax_aload rfl rfl ?_
    refine ax_iloadn rfl rfl ?_
    refine ax_iald rfl rfl (by omega) ?_
    refine ax_istore (ls' := [(0, _), (1, _), (2, _), (3, _), (4, _), (5, _)]) rfl rfl rfl ?_
    refine ax_aload rfl rfl ?_
    refine ax_iloadn rfl rfl ?_
    refine ax_iloadn rfl rfl ?_
    refine ax_iast' rfl rfl (by omega) (fun M27 a27 b27 c27 => ?_)
    refine ax_iload rfl rfl ?_
    refine ax_iret rfl rfl ?_
    exact ⟨fun h => by first | (exfalso; omega) | exact ⟨rfl, a27, b27, c27⟩, fun h => by first | (exfalso; omega) | exact ⟨rfl, a27, b27, c27⟩⟩
  · refine ax_aloadn rfl rfl ?_
    refine ax_getR rfl fX5_9 rfl rfl ?_
    refine ax_goto rfl ?_
    refine ax_astore (ls' := [(0, _), (1, _), (2, _), (3, _), (4, _)]) rfl rfl rfl ?_
    refine ax_aload rfl rfl ?_
    refine ax_iloadn rfl rfl ?_
    refine ax_iald rfl rfl (by omega) ?_
    refine ax_istore (ls' := [(0, _), (1, _), (2, _), (3, _), (4, _), (5, _)]) rfl rfl rfl ?_
    refine ax_aload rfl rfl ?_
    refine ax_iloadn rfl rfl ?_
    refine ax_iloadn rfl rfl ?_
    refine ax_iast' rfl rfl (by omega) (fun M27 a27 b27 c27 => ?_)
    refine ax_iload rfl rfl ?_
    refine ax_iret rfl rfl ?_
    exact ⟨fun h => by first | (exfalso; omega) | exact ⟨rfl, a27, b27, c27⟩, fun h => by first | (exfalso; omega) | exact ⟨rfl, a27, b27, c27⟩⟩
set_option maxRecDepth 100000 in
set_option maxHeartbeats 800000 in
theorem c_X5_product (E : av_E) (d : Nat) (M : av_M) (i c : Int) (ht : (1 ≤ M 9 2 ∧ M 9 2 ≤ 8) ∧ (1 ≤ M 9 3 ∧ M 9 3 ≤ 999) ∧ (∀ j, 0 ≤ j → j < 96 → 0 ≤ M 10 j ∧ M 10 j ≤ 9999) ∧ (∀ j, 0 ≤ j → j < 96 → 0 ≤ M 11 j ∧ M 11 j ≤ 9999)) (hi : 0 ≤ i ∧ i < 12) (hc : 0 ≤ c ∧ c < 12) : av_Mt E d mX5_product [vR 9, vI i, vI c] M (av_X (some (vI (isum (fun k => M 10 (i * 8 + k) * M 11 (k * 12 + c)) (M 9 2).toNat))) M) := by
  have loop : ∀ (t : Nat) (k : Int), k + t = M 9 2 → 0 ≤ k → av_S E d mX5_product 5 [(0, vR 9), (1, vI i), (2, vI c), (3, vI (isum (fun k => M 10 (i * 8 + k) * M 11 (k * 12 + c)) k.toNat)), (4, vI k)] [] M (av_X (some (vI (isum (fun k => M 10 (i * 8 + k) * M 11 (k * 12 + c)) (M 9 2).toNat))) M) := by
    intro t
    induction t with
    | zero =>
      intro k hk k0
      have ek : k = M 9 2 := by omega
      subst ek
      refine ax_iload rfl rfl ?_
      refine ax_aloadn rfl rfl ?_
      refine ax_getI (g := 2) rfl fX5_18 rfl rfl rfl rfl ?_
      refine ax_icmp_ge rfl (by omega) (by omega) (fun h11 => ?_) (fun h11 => ?_)
      · refine ax_iloadn rfl rfl ?_
        refine ax_iret rfl rfl ?_
        exact av_rI rfl
      · omega
    | succ t ih =>
      intro k hk k0
      have ih2 := ih (k + 1) (by omega) (by omega)
      have es : (k + 1).toNat = k.toNat + 1 := by omega
      have eo : isum (fun k => M 10 (i * 8 + k) * M 11 (k * 12 + c)) (k.toNat + 1) = isum (fun k => M 10 (i * 8 + k) * M 11 (k * 12 + c)) k.toNat + M 10 (i * 8 + (k.toNat : Nat)) * M 11 ((k.toNat : Nat) * 12 + c) := rfl
      rw [show ((k.toNat : Nat) : Int) = k by omega] at eo
      rw [es, eo] at ih2
      refine ax_iload rfl rfl ?_
      refine ax_aloadn rfl rfl ?_
      refine ax_getI (g := 2) rfl fX5_18 rfl rfl rfl rfl ?_
      refine ax_icmp_ge rfl (by omega) (by omega) (fun h11 => ?_) (fun h11 => ?_)
      · omega
      · refine ax_iloadn rfl rfl ?_
        refine ax_aloadn rfl rfl ?_
        refine ax_getR rfl fX5_9 rfl rfl ?_
        refine ax_iloadn rfl rfl ?_
        refine ax_bipush rfl rfl ?_
        refine ax_imul rfl ?_
        refine ax_iload rfl rfl ?_
        refine ax_iadd rfl ?_
        refine ax_iald rfl rfl (by omega) ?_
        refine ax_aloadn rfl rfl ?_
        refine ax_getR rfl fX5_15 rfl rfl ?_
        refine ax_iload rfl rfl ?_
        refine ax_bipush rfl rfl ?_
        refine ax_imul rfl ?_
        refine ax_iloadn rfl rfl ?_
        refine ax_iadd rfl ?_
        refine ax_iald rfl rfl (by omega) ?_
        refine ax_imul rfl ?_
        refine ax_iadd rfl ?_
        refine ax_istoren (ls' := [(0, _), (1, _), (2, _), (3, _), (4, _)]) rfl rfl rfl ?_
        refine ax_iinc (ls' := [(0, _), (1, _), (2, _), (3, _), (4, _)]) rfl rfl rfl rfl ?_
        refine ax_goto rfl ?_
        exact ih2
  refine av_enter hX5_product oX5_product rfl rfl ?_
  refine ax_iconst rfl ?_
  refine ax_istoren (ls' := [(0, _), (1, _), (2, _), (3, _)]) rfl rfl rfl ?_
  refine ax_iconst rfl ?_
  refine ax_istore (ls' := [(0, _), (1, _), (2, _), (3, _), (4, _)]) rfl rfl rfl ?_
  exact loop (M 9 2).toNat 0 (by omega) (by omega)
theorem isum_rng {f : Int → Int} {A : Int} : ∀ n : Nat, (∀ k : Nat, k < n → -A ≤ f k ∧ f k ≤ A) → -(A * n) ≤ isum f n ∧ isum f n ≤ A * n := by
  intro n
  induction n with
  | zero => intro _; show -(A * ((0 : Nat) : Int)) ≤ 0 ∧ 0 ≤ A * ((0 : Nat) : Int); rw [show ((0 : Nat) : Int) = 0 by rfl, Int.mul_zero]; omega
  | succ n ih =>
    intro h
    have a := ih (fun k hk => h k (by omega))
    have b := h n (by omega)
    have e : A * ((n + 1 : Nat) : Int) = A * (n : Int) + A := by rw [show ((n + 1 : Nat) : Int) = (n : Int) + 1 by omega, Int.mul_add, Int.mul_one]
    rw [e]
    show -(A * (n : Int) + A) ≤ isum f n + f n ∧ isum f n + f n ≤ A * (n : Int) + A
    omega
set_option maxRecDepth 100000 in
set_option maxHeartbeats 800000 in
theorem c_X5_firstWrong (E : av_E) (d : Nat) (M : av_M) (S : pt → Prop) (ht : (1 ≤ M 9 2 ∧ M 9 2 ≤ 8) ∧ (1 ≤ M 9 3 ∧ M 9 3 ≤ 999) ∧ (∀ j, 0 ≤ j → j < 96 → 0 ≤ M 10 j ∧ M 10 j ≤ 9999) ∧ (∀ j, 0 ≤ j → j < 96 → 0 ≤ M 11 j ∧ M 11 j ≤ 9999)) (hF : FO (M 5) (M 6) (M 7) (M 8) (M 4 4) (M 4 5) S) : av_Mt E (d + 4) mX5_firstWrong [vR 9, vR 1] M (fun res M' => M' = M ∧ ∃ r, res = some (vI r) ∧ FW (fun i c => isum (fun k => M 10 (i * 8 + k) * M 11 (k * 12 + c)) (M 9 2).toNat = M 9 3 * gp (M 4 5) (fun k => M 5 (M 8 k)) (fun k => M 6 (M 8 k)) i c) (M 4 5) r) := by
  have hfb := FO_fb hF
  have h0 := hfb.1
  have h12 := hfb.2.1
  have rngP : ∀ i c : Int, 0 ≤ i ∧ i < 12 → 0 ≤ c ∧ c < 12 → -2147483648 ≤ isum (fun k => M 10 (i * 8 + k) * M 11 (k * 12 + c)) (M 9 2).toNat ∧ isum (fun k => M 10 (i * 8 + k) * M 11 (k * 12 + c)) (M 9 2).toNat < 2147483648 := by
    intro i c hi hc
    have := isum_rng (f := fun k => M 10 (i * 8 + k) * M 11 (k * 12 + c)) (A := 99980001) (M 9 2).toNat (fun k hk => by
      have a := ht.2.2.1 (i * 8 + k) (by omega) (by omega)
      have b := ht.2.2.2 (k * 12 + c) (by omega) (by omega)
      have := mb (x := M 10 (i * 8 + k)) (y := M 11 (k * 12 + c)) (A := 9999) (B := 9999) (by omega) (by omega)
      omega)
    have e : (99980001 : Int) * ((M 9 2).toNat : Int) ≤ 99980001 * 8 := by omega
    omega
  have rngG : ∀ i c : Int, 0 ≤ i ∧ i < (M 4 5) → 0 ≤ c ∧ c < (M 4 5) → -2147483648 ≤ M 9 3 * gp (M 4 5) (fun k => M 5 (M 8 k)) (fun k => M 6 (M 8 k)) i c ∧ M 9 3 * gp (M 4 5) (fun k => M 5 (M 8 k)) (fun k => M 6 (M 8 k)) i c < 2147483648 := by
    intro i c hi hc
    have := mb (x := M 9 3) (A := 999) (by omega) (gp_rng hfb hi hc)
    omega
  have inner : ∀ (i : Int), 0 ≤ i → i < (M 4 5) → (∀ a b, 0 ≤ a → a < i → 0 ≤ b → b < (M 4 5) → (fun i c => isum (fun k => M 10 (i * 8 + k) * M 11 (k * 12 + c)) (M 9 2).toNat = M 9 3 * gp (M 4 5) (fun k => M 5 (M 8 k)) (fun k => M 6 (M 8 k)) i c) a b) → ((∀ b, 0 ≤ b → b < (M 4 5) → (fun i c => isum (fun k => M 10 (i * 8 + k) * M 11 (k * 12 + c)) (M 9 2).toNat = M 9 3 * gp (M 4 5) (fun k => M 5 (M 8 k)) (fun k => M 6 (M 8 k)) i c) i b) → av_S E (d + 4) mX5_firstWrong 60 [(0, vR 9), (1, vR 1), (2, vI (M 4 5)), (3, vI i), (4, vI (M 4 5))] [] M (fun res M' => M' = M ∧ ∃ r, res = some (vI r) ∧ FW (fun i c => isum (fun k => M 10 (i * 8 + k) * M 11 (k * 12 + c)) (M 9 2).toNat = M 9 3 * gp (M 4 5) (fun k => M 5 (M 8 k)) (fun k => M 6 (M 8 k)) i c) (M 4 5) r)) → ∀ (t : Nat) (c : Int), c + t = (M 4 5) → 0 ≤ c → (∀ b, 0 ≤ b → b < c → (fun i c => isum (fun k => M 10 (i * 8 + k) * M 11 (k * 12 + c)) (M 9 2).toNat = M 9 3 * gp (M 4 5) (fun k => M 5 (M 8 k)) (fun k => M 6 (M 8 k)) i c) i b) → av_S E (d + 4) mX5_firstWrong 18 [(0, vR 9), (1, vR 1), (2, vI (M 4 5)), (3, vI i), (4, vI c)] [] M (fun res M' => M' = M ∧ ∃ r, res = some (vI r) ∧ FW (fun i c => isum (fun k => M 10 (i * 8 + k) * M 11 (k * 12 + c)) (M 9 2).toNat = M 9 3 * gp (M 4 5) (fun k => M 5 (M 8 k)) (fun k => M 6 (M 8 k)) i c) (M 4 5) r) := by
    intro i i0 i1 hbef hx t
    induction t with
    | zero =>
      intro c hc c0 hall
      have ec : c = (M 4 5) := by omega
      subst ec
      refine ax_iload rfl rfl ?_
      refine ax_iloadn rfl rfl ?_
      refine ax_icmp_ge rfl (by omega) (by omega) (fun h21 => ?_) (fun h21 => ?_)
      · exact hx hall
      · omega
    | succ t ih =>
      intro c hc c0 hall
      have r1 := rngP i c (by omega) (by omega)
      have r2 := rngG i c (by omega) (by omega)
      refine ax_iload rfl rfl ?_
      refine ax_iloadn rfl rfl ?_
      refine ax_icmp_ge rfl (by omega) (by omega) (fun h21 => ?_) (fun h21 => ?_)
      · omega
      · refine ax_aloadn rfl rfl ?_
        refine ax_iloadn rfl rfl ?_
        refine ax_iload rfl rfl ?_
        refine ax_callV (as := [_, _]) rfl vX5_37 hX5_product rfl rfl rfl rfl rfl (c_X5_product E (d + 3) M i c ht (by omega) (by omega)) (av_Xk ?_)
        refine ax_aloadn rfl rfl ?_
        refine ax_getI (g := 3) rfl fX5_22 rfl rfl rfl rfl ?_
        refine ax_aloadn rfl rfl ?_
        refine ax_iloadn rfl rfl ?_
        refine ax_iload rfl rfl ?_
        refine ax_callV (as := [_, _]) rfl vX5_41 hX2_gap rfl rfl rfl rfl rfl (c_X2_gap E d M S i c hF (by omega) (by omega)) (av_Xk ?_)
        refine ax_imul rfl ?_
        refine ax_icmp_eq rfl (by omega) (by omega) (fun h43 => ?_) (fun h43 => ?_)
        · refine ax_iinc (ls' := [(0, _), (1, _), (2, _), (3, _), (4, _)]) rfl rfl rfl rfl ?_
          refine ax_goto rfl ?_
          refine ih _ (by omega) (by omega) (fun b b0 b1 => ?_)
          by_cases hb : b = c
          · rw [hb]; exact h43
          · exact hall b b0 (by omega)
        · refine ax_bipush rfl rfl ?_
          refine ax_iloadn rfl rfl ?_
          refine ax_imul rfl ?_
          refine ax_iload rfl rfl ?_
          refine ax_iadd rfl ?_
          refine ax_iret rfl rfl ?_
          refine ⟨rfl, _, rfl, Or.inl ⟨i, c, i0, i1, c0, by omega, h43, fun a b a0 a1 b0 b1 hab => ?_, rfl⟩⟩
          rcases hab with hab | hab
          · exact hbef a b a0 hab b0 b1
          · rw [hab.1]; exact hall b b0 hab.2
  have outer : ∀ (t : Nat) (i : Int), i + t = (M 4 5) → 0 ≤ i → (∀ a b, 0 ≤ a → a < i → 0 ≤ b → b < (M 4 5) → (fun i c => isum (fun k => M 10 (i * 8 + k) * M 11 (k * 12 + c)) (M 9 2).toNat = M 9 3 * gp (M 4 5) (fun k => M 5 (M 8 k)) (fun k => M 6 (M 8 k)) i c) a b) → av_S E (d + 4) mX5_firstWrong 10 [(0, vR 9), (1, vR 1), (2, vI (M 4 5)), (3, vI i)] [] M (fun res M' => M' = M ∧ ∃ r, res = some (vI r) ∧ FW (fun i c => isum (fun k => M 10 (i * 8 + k) * M 11 (k * 12 + c)) (M 9 2).toNat = M 9 3 * gp (M 4 5) (fun k => M 5 (M 8 k)) (fun k => M 6 (M 8 k)) i c) (M 4 5) r) := by
    intro t
    induction t with
    | zero =>
      intro i hi i0 hall
      have ei : i = (M 4 5) := by omega
      subst ei
      refine ax_iloadn rfl rfl ?_
      refine ax_iloadn rfl rfl ?_
      refine ax_icmp_ge rfl (by omega) (by omega) (fun h12 => ?_) (fun h12 => ?_)
      · refine ax_ldc (z := (-900000009)) rfl kX5_44 rfl ?_
        refine ax_iret rfl rfl ?_
        exact ⟨rfl, _, rfl, Or.inr ⟨hall, rfl⟩⟩
      · omega
    | succ t ih =>
      intro i hi i0 hall
      refine ax_iloadn rfl rfl ?_
      refine ax_iloadn rfl rfl ?_
      refine ax_icmp_ge rfl (by omega) (by omega) (fun h12 => ?_) (fun h12 => ?_)
      · omega
      · refine ax_iconst rfl ?_
        refine ax_istore (ls' := [(0, _), (1, _), (2, _), (3, _), (4, _)]) rfl rfl rfl ?_
        refine inner i i0 (by omega) hall (fun hrow => ?_) (M 4 5).toNat 0 (by omega) (by omega) (fun b b0 b1 => by omega)
        refine ax_iinc (ls' := [(0, _), (1, _), (2, _), (3, _), (4, _)]) rfl rfl rfl rfl ?_
        refine ax_goto rfl ?_
        refine ax_pick [0, 1, 2, 3] rfl ?_
        refine ih _ (by omega) (by omega) (fun a b a0 a1 b0 b1 => ?_)
        by_cases ha : a = i
        · rw [ha]; exact hrow b b0 b1
        · exact hall a b a0 (by omega) b0 b1
  refine av_enter hX5_firstWrong oX5_firstWrong rfl rfl ?_
  refine ax_aloadn rfl rfl ?_
  refine ax_callV (as := []) rfl vX5_25 hX2_hull rfl rfl rfl rfl rfl (c_X2_hull E (d + 3) M) (av_Xk ?_)
  refine ax_callV (as := []) rfl vX5_31 hX4_size rfl rfl rfl rfl rfl (c_H_size E (d + 3) M) (av_Xk ?_)
  refine ax_istoren (ls' := [(0, _), (1, _), (2, _)]) rfl rfl rfl ?_
  refine ax_iconst rfl ?_
  refine ax_istoren (ls' := [(0, _), (1, _), (2, _), (3, _)]) rfl rfl rfl ?_
  exact outer (M 4 5).toNat 0 (by omega) (by omega) (fun a b a0 a1 b0 b1 => by omega)
end
section
/-! ===== where walls meet: the lists that the class keeps ===== -/
def WI (A B C D : Int → Int) (s on : Int) : Prop := 0 ≤ s ∧ s ≤ 10 ∧ (∀ j, 0 ≤ j → j < s → (-9 ≤ A j ∧ A j ≤ 9) ∧ (-9 ≤ B j ∧ B j ≤ 9) ∧ (-9 ≤ C j ∧ C j ≤ 9) ∧ (-99 ≤ D j ∧ D j ≤ 99) ∧ ¬ (A j = 0 ∧ B j = 0 ∧ C j = 0)) ∧ 0 ≤ on ∧ on < 1024 ∧ ∀ j : Nat, on.toNat.testBit j = true → (j : Int) < s
def vol (P Q R : Int → Int) (i j k : Int) : Int := P i * (Q j * R k - Q k * R j) - P j * (Q i * R k - Q k * R i) + P k * (Q i * R j - Q j * R i)
def exI (A B C D : Int → Int) (n x y z w : Int) : Int := A n * x + B n * y + C n * z - D n * w
def bset (P : Nat → Prop) (s v : Int) : Prop := 0 ≤ v ∧ v < 1024 ∧ ∀ j : Nat, v.toNat.testBit j = true ↔ ((j : Int) < s ∧ P j)
def MA (A B C D : Int → Int) (s : Int) (X Y Z W MK BR TO : Int → Int) (m i j k : Int) : Prop :=
  (0 ≤ i ∧ i < j ∧ j < k ∧ k < s) ∧ vol A B C i j k ≠ 0 ∧ ((-50000 ≤ X m ∧ X m ≤ 50000) ∧ (-50000 ≤ Y m ∧ Y m ≤ 50000) ∧ (-50000 ≤ Z m ∧ Z m ≤ 50000) ∧ 0 < W m ∧ W m ≤ 5000) ∧
  bset (fun t => (t : Int) = i ∨ (t : Int) = j ∨ (t : Int) = k) 10 (MK m) ∧ (exI A B C D i (X m) (Y m) (Z m) (W m) = 0 ∧ exI A B C D j (X m) (Y m) (Z m) (W m) = 0 ∧ exI A B C D k (X m) (Y m) (Z m) (W m) = 0) ∧
  bset (fun t => 0 < exI A B C D t (X m) (Y m) (Z m) (W m)) s (BR m) ∧ bset (fun t => exI A B C D t (X m) (Y m) (Z m) (W m) = 0) s (TO m)
def MI (A B C D : Int → Int) (s : Int) (X Y Z W MK BR TO : Int → Int) (sz : Int) (cov : Int → Int → Int → Prop) : Prop :=
  0 ≤ sz ∧ (∀ m, 0 ≤ m → m < sz → ∃ i j k, MA A B C D s X Y Z W MK BR TO m i j k) ∧ ∀ i j k, 0 ≤ i → i < j → j < k → k < s → vol A B C i j k ≠ 0 → cov i j k → ∃ m, 0 ≤ m ∧ m < sz ∧ MA A B C D s X Y Z W MK BR TO m i j k
def RA (A B C : Int → Int) (s : Int) (RB : Int → Int) (r i j : Int) : Prop :=
  (0 ≤ i ∧ i < s ∧ 0 ≤ j ∧ j < s) ∧ ¬ (B i * C j - C i * B j = 0 ∧ C i * A j - A i * C j = 0 ∧ A i * B j - B i * A j = 0) ∧
  bset (fun t => 0 < A t * (B i * C j - C i * B j) + B t * (C i * A j - A i * C j) + C t * (A i * B j - B i * A j)) s (RB r)
def RI (A B C : Int → Int) (s : Int) (RB : Int → Int) (rz : Int) (cov : Int → Int → Prop) : Prop :=
  0 ≤ rz ∧ (∀ r, 0 ≤ r → r < rz → ∃ i j, RA A B C s RB r i j) ∧ ∀ i j, 0 ≤ i → i < s → 0 ≤ j → j < s → ¬ (B i * C j - C i * B j = 0 ∧ C i * A j - A i * C j = 0 ∧ A i * B j - B i * A j = 0) → cov i j → ∃ r, 0 ≤ r ∧ r < rz ∧ RA A B C s RB r i j
theorem MA_congr {A B C D : Int → Int} {s : Int} {X Y Z W MK BR TO X' Y' Z' W' MK' BR' TO' : Int → Int} {m i j k : Int} (h : MA A B C D s X Y Z W MK BR TO m i j k) (e : X' m = X m ∧ Y' m = Y m ∧ Z' m = Z m ∧ W' m = W m ∧ MK' m = MK m ∧ BR' m = BR m ∧ TO' m = TO m) : MA A B C D s X' Y' Z' W' MK' BR' TO' m i j k := by
  obtain ⟨e1, e2, e3, e4, e5, e6, e7⟩ := e
  unfold MA
  rw [e1, e2, e3, e4, e5, e6, e7]
  exact h
theorem RA_congr {A B C : Int → Int} {s : Int} {RB RB' : Int → Int} {r i j : Int} (h : RA A B C s RB r i j) (e : RB' r = RB r) : RA A B C s RB' r i j := by
  unfold RA
  rw [e]
  exact h
theorem vol_rng {P Q R : Int → Int} {i j k U V T : Int} (hP : ∀ n, n = i ∨ n = j ∨ n = k → -U ≤ P n ∧ P n ≤ U) (hQ : ∀ n, n = i ∨ n = j ∨ n = k → -V ≤ Q n ∧ Q n ≤ V) (hR : ∀ n, n = i ∨ n = j ∨ n = k → -T ≤ R n ∧ R n ≤ T) : -(6 * (U * (V * T))) ≤ vol P Q R i j k ∧ vol P Q R i j k ≤ 6 * (U * (V * T)) := by
  have a1 := mb3 (hP i (by omega)) (hQ j (by omega)) (hR k (by omega))
  have a2 := mb3 (hP i (by omega)) (hQ k (by omega)) (hR j (by omega))
  have a3 := mb3 (hP j (by omega)) (hQ i (by omega)) (hR k (by omega))
  have a4 := mb3 (hP j (by omega)) (hQ k (by omega)) (hR i (by omega))
  have a5 := mb3 (hP k (by omega)) (hQ i (by omega)) (hR j (by omega))
  have a6 := mb3 (hP k (by omega)) (hQ j (by omega)) (hR i (by omega))
  have e : vol P Q R i j k = P i * (Q j * R k) - P i * (Q k * R j) - P j * (Q i * R k) + P j * (Q k * R i) + P k * (Q i * R j) - P k * (Q j * R i) := by unfold vol; grind
  omega
theorem p1024 : (2 : Nat) ^ 10 = 1024 := by rfl
theorem tb_or1 {a k j : Nat} : (a ||| 2 ^ k).testBit j = (a.testBit j || decide (k = j)) := by
  rw [Nat.testBit_or, tb_pow]
theorem bit_set {on w : Int} (h0 : 0 ≤ on) (h1 : on < 1024) (hw : 0 ≤ w ∧ w < 10) : ∃ r : Int, bi_or on (bi_shl 1 w) = r ∧ 0 ≤ r ∧ r < 1024 ∧ ∀ j : Nat, r.toNat.testBit j = (on.toNat.testBit j || decide ((j : Int) = w)) := by
  obtain ⟨n, rfl⟩ := Int.eq_ofNat_of_zero_le h0
  obtain ⟨k, rfl⟩ := Int.eq_ofNat_of_zero_le hw.1
  have hk : k < 10 := by omega
  have hp : (2 : Nat) ^ k < 2 ^ 10 := Nat.pow_lt_pow_right (by omega) hk
  have h10 := p1024
  rw [bi_n_shl1 (by omega), bi_n_or (by omega) (by omega)]
  have hlt : n ||| 2 ^ k < 2 ^ 10 := Nat.or_lt_two_pow (by omega) hp
  refine ⟨_, rfl, by omega, by omega, fun j => ?_⟩
  rw [Int.toNat_natCast, Int.toNat_natCast, tb_or1]
  congr 1
  by_cases h : k = j
  · simp [h]
  · have : ¬ (j : Int) = (k : Int) := by omega
    simp [h, this]
theorem bit_clr {on w : Int} (h0 : 0 ≤ on) (h1 : on < 1024) (hw : 0 ≤ w ∧ w < 10) : ∃ r : Int, bi_and on (bi_xor (bi_shl 1 w) (-1)) = r ∧ 0 ≤ r ∧ r < 1024 ∧ ∀ j : Nat, r.toNat.testBit j = (on.toNat.testBit j && !decide ((j : Int) = w)) := by
  obtain ⟨n, rfl⟩ := Int.eq_ofNat_of_zero_le h0
  obtain ⟨k, rfl⟩ := Int.eq_ofNat_of_zero_le hw.1
  have hk : k < 10 := by omega
  have hp : (2 : Nat) ^ k < 2 ^ 10 := Nat.pow_lt_pow_right (by omega) hk
  have h10 := p1024
  rw [bi_n_shl1 (by omega), bi_n_andn (by omega)]
  have hle : n &&& 2 ^ k ≤ n := Nat.and_le_left
  have hlt : n ^^^ (n &&& 2 ^ k) < 2 ^ 10 := Nat.xor_lt_two_pow (by omega) (by omega)
  refine ⟨_, rfl, by omega, by omega, fun j => ?_⟩
  rw [Int.toNat_natCast, Int.toNat_natCast, tb_andn, tb_pow]
  congr 2
  by_cases h : k = j
  · simp [h]
  · have : ¬ (j : Int) = (k : Int) := by omega
    simp [h, this]
theorem bit_at {on w : Int} (h0 : 0 ≤ on) (h1 : on < 2147483648) (hw : 0 ≤ w ∧ w < 31) : bi_and (bi_shr on w) 1 = if on.toNat.testBit w.toNat = true then 1 else 0 := by
  obtain ⟨n, rfl⟩ := Int.eq_ofNat_of_zero_le h0
  obtain ⟨k, rfl⟩ := Int.eq_ofNat_of_zero_le hw.1
  rw [bi_n_bit (by omega) (by omega)]
  rw [Int.toNat_natCast, Int.toNat_natCast]
theorem bset_nil {P : Nat → Prop} {s : Int} (h : s ≤ 0) : bset P s 0 := ⟨by omega, by omega, fun j => by
  rw [show (0 : Int).toNat = 0 by rfl, Nat.zero_testBit]
  constructor
  · intro h; cases h
  · intro h; omega⟩
theorem bset_in {P : Nat → Prop} {n v : Int} (h : bset P n v) (hn : 0 ≤ n ∧ n < 10) (hP : P n.toNat) : ∃ r, bi_or v (bi_shl 1 n) = r ∧ bset P (n + 1) r := by
  obtain ⟨r, e, r0, r1, hr⟩ := bit_set h.1 h.2.1 hn
  refine ⟨r, e, r0, r1, fun j => ?_⟩
  rw [hr j, Bool.or_eq_true, h.2.2 j, decide_eq_true_eq]
  constructor
  · rintro (⟨a, b⟩ | a)
    · exact ⟨by omega, b⟩
    · exact ⟨by omega, by rw [show j = n.toNat by omega]; exact hP⟩
  · rintro ⟨a, b⟩
    by_cases hj : (j : Int) = n
    · exact Or.inr hj
    · exact Or.inl ⟨by omega, b⟩
theorem bset_out {P : Nat → Prop} {n v : Int} (h : bset P n v) (hn : 0 ≤ n) (hP : ¬ P n.toNat) : bset P (n + 1) v := by
  refine ⟨h.1, h.2.1, fun j => ?_⟩
  rw [h.2.2 j]
  constructor
  · rintro ⟨a, b⟩; exact ⟨by omega, b⟩
  · rintro ⟨a, b⟩
    by_cases hj : (j : Int) = n
    · exact absurd (by rw [show n.toNat = j by omega]; exact b) hP
    · exact ⟨by omega, b⟩
theorem bset_congr {P P' : Nat → Prop} {s v : Int} (h : bset P s v) (e : ∀ j : Nat, (j : Int) < s → (P j ↔ P' j)) : bset P' s v := by
  refine ⟨h.1, h.2.1, fun j => ?_⟩
  rw [h.2.2 j]
  constructor
  · rintro ⟨a, b⟩; exact ⟨a, (e j a).mp b⟩
  · rintro ⟨a, b⟩; exact ⟨a, (e j a).mpr b⟩
theorem shl1_rng {k : Int} (hk : 0 ≤ k ∧ k < 10) : 0 ≤ bi_shl 1 k ∧ bi_shl 1 k < 1024 ∧ ∀ j : Nat, (bi_shl 1 k).toNat.testBit j = decide ((j : Int) = k) := by
  obtain ⟨n, rfl⟩ := Int.eq_ofNat_of_zero_le hk.1
  have hp : (2 : Nat) ^ n < 2 ^ 10 := Nat.pow_lt_pow_right (by omega) (by omega)
  have h10 := p1024
  rw [bi_n_shl1 (by omega)]
  refine ⟨Int.natCast_nonneg _, Int.ofNat_lt.mpr (show 2 ^ n < 1024 by omega), fun j => ?_⟩
  rw [Int.toNat_natCast, tb_pow]
  by_cases h : n = j
  · simp [h]
  · have : ¬ (j : Int) = (n : Int) := by omega
    simp [h, this]
theorem makers_of {i j k : Int} (h : 0 ≤ i ∧ i < j ∧ j < k ∧ k < 10) : bset (fun t => (t : Int) = i ∨ (t : Int) = j ∨ (t : Int) = k) 10 (bi_or (bi_or (bi_shl 1 i) (bi_shl 1 j)) (bi_shl 1 k)) := by
  obtain ⟨a0, a1, a2⟩ := shl1_rng (k := i) (by omega)
  obtain ⟨r, e1, r0, r1, hr⟩ := bit_set a0 a1 (w := j) (by omega)
  rw [e1]
  obtain ⟨q, e2, q0, q1, hq⟩ := bit_set r0 r1 (w := k) (by omega)
  rw [e2]
  refine ⟨q0, q1, fun t => ?_⟩
  rw [hq t, hr t, a2 t]
  simp only [Bool.or_eq_true, decide_eq_true_eq]
  constructor
  · intro h; omega
  · intro h; omega
theorem MA_mk {A B C D : Int → Int} {s on : Int} (hW : WI A B C D s on) {i j k : Int} (ho : 0 ≤ i ∧ i < j ∧ j < k ∧ k < s) {sg : Int} (hsg : sg = 1 ∨ sg = -1) (hv : 0 < sg * vol A B C i j k) {X Y Z W MK BR TO : Int → Int} {m : Int}
    (hx : X m = sg * vol D B C i j k) (hy : Y m = sg * vol A D C i j k) (hz : Z m = sg * vol A B D i j k) (hw : W m = sg * vol A B C i j k) (hmk : MK m = bi_or (bi_or (bi_shl 1 i) (bi_shl 1 j)) (bi_shl 1 k))
    (hbr : bset (fun t => 0 < exI A B C D t (X m) (Y m) (Z m) (W m)) s (BR m)) (hto : bset (fun t => exI A B C D t (X m) (Y m) (Z m) (W m) = 0) s (TO m)) : MA A B C D s X Y Z W MK BR TO m i j k := by
  obtain ⟨s0, s1, hw9, -⟩ := hW
  have bi := hw9 i (by omega) (by omega)
  have bj := hw9 j (by omega) (by omega)
  have bk := hw9 k (by omega) (by omega)
  have fA : ∀ n, n = i ∨ n = j ∨ n = k → -9 ≤ A n ∧ A n ≤ 9 := fun n hn => by rcases hn with rfl | rfl | rfl <;> omega
  have fB : ∀ n, n = i ∨ n = j ∨ n = k → -9 ≤ B n ∧ B n ≤ 9 := fun n hn => by rcases hn with rfl | rfl | rfl <;> omega
  have fC : ∀ n, n = i ∨ n = j ∨ n = k → -9 ≤ C n ∧ C n ≤ 9 := fun n hn => by rcases hn with rfl | rfl | rfl <;> omega
  have fD : ∀ n, n = i ∨ n = j ∨ n = k → -99 ≤ D n ∧ D n ≤ 99 := fun n hn => by rcases hn with rfl | rfl | rfl <;> omega
  have v0 := vol_rng fA fB fC
  have v1 := vol_rng fD fB fC
  have v2 := vol_rng fA fD fC
  have v3 := vol_rng fA fB fD
  refine ⟨ho, fun q => ?_, ?_, by rw [hmk]; exact makers_of (by omega), ?_, hbr, hto⟩
  · rw [q] at hv; omega
  · rw [hx, hy, hz, hw]
    rcases hsg with rfl | rfl <;> omega
  · rw [hx, hy, hz, hw]
    unfold exI vol
    rcases hsg with rfl | rfl
    · refine ⟨?_, ?_, ?_⟩ <;> grind
    · refine ⟨?_, ?_, ?_⟩ <;> grind
/-- how many threes come before (i, j, k), at most -/
def cj (i : Nat) : Nat → Nat
  | 0 => 0
  | j + 1 => cj i j + (if i < j then 9 - j else 0)
def ci : Nat → Nat
  | 0 => 0
  | i + 1 => ci i + cj i 10
def ri : Nat → Nat
  | 0 => 0
  | i + 1 => ri i + (9 - i)
theorem cnt3 : ∀ i, i < 10 → ∀ j, j < 10 → i < j → ∀ k, k < 10 → j < k → ci i + cj i j + (k - j - 1) < 120 := by decide +kernel
theorem cnt2 : ∀ i, i < 10 → ∀ j, j < 10 → i < j → ri i + (j - i - 1) < 45 := by decide +kernel
theorem cj_mono : ∀ i, i < 10 → ∀ j, j ≤ 10 → cj i j ≤ cj i 10 := by decide +kernel
theorem cj_succ (i j : Nat) (h : i < j) : cj i (j + 1) = cj i j + (9 - j) := by
  show cj i j + (if i < j then 9 - j else 0) = _
  rw [if_pos h]
def covM (i j k : Int) : Int → Int → Int → Prop := fun a b c => a < i ∨ (a = i ∧ (b < j ∨ (b = j ∧ c < k)))
def covR (i j : Int) : Int → Int → Prop := fun a b => (a < b ∧ (a < i ∨ (a = i ∧ b < j))) ∨ (b < a ∧ (b < i ∨ (b = i ∧ a < j)))
end
section
/-! ===== the walls ===== -/

set_option maxRecDepth 100000 in
set_option maxHeartbeats 800000 in
theorem c_X6_size (E : av_E) (d : Nat) (M : av_M)  : av_Mt E (d) mX6_size [vR 13] M (av_X (some (vI (M 13 4))) M) := by
  refine av_enter hX6_size oX6_size rfl rfl ?_
  refine ax_aloadn rfl rfl ?_
  refine ax_getI (g := 4) rfl fX6_24 rfl rfl rfl rfl ?_
  refine ax_iret rfl rfl ?_
  exact av_rI rfl
set_option maxRecDepth 100000 in
set_option maxHeartbeats 800000 in
theorem c_X6_onSet (E : av_E) (d : Nat) (M : av_M)  : av_Mt E (d) mX6_onSet [vR 13] M (av_X (some (vI (M 13 5))) M) := by
  refine av_enter hX6_onSet oX6_onSet rfl rfl ?_
  refine ax_aloadn rfl rfl ?_
  refine ax_getI (g := 5) rfl fX6_28 rfl rfl rfl rfl ?_
  refine ax_iret rfl rfl ?_
  exact av_rI rfl
set_option maxRecDepth 100000 in
set_option maxHeartbeats 800000 in
theorem c_X6_has (E : av_E) (d : Nat) (M : av_M) (w : Int) (hw : -2147483648 ≤ w ∧ w < 2147483648) (hs : 0 ≤ M 13 4 ∧ M 13 4 ≤ 10) : av_Mt E (d) mX6_has [vR 13, vI w] M (av_X (some (vI (b01 (0 ≤ w ∧ w < M 13 4)))) M) := by
  refine av_enter hX6_has oX6_has rfl rfl ?_
  refine ax_iloadn rfl rfl ?_
  refine ax_if_lt rfl (by omega) (fun h1 => ?_) (fun h1 => ?_)
  · refine ax_iconst rfl ?_
    refine ax_zret rfl rfl (by omega) ?_
    first | exact av_rI (b01_t (by omega)).symm | exact av_rI (b01_f (by omega)).symm
  · refine ax_iloadn rfl rfl ?_
    refine ax_aloadn rfl rfl ?_
    refine ax_getI (g := 4) rfl fX6_24 rfl rfl rfl rfl ?_
    refine ax_icmp_ge rfl (by omega) (by omega) (fun h9 => ?_) (fun h9 => ?_)
    · refine ax_iconst rfl ?_
      refine ax_zret rfl rfl (by omega) ?_
      first | exact av_rI (b01_t (by omega)).symm | exact av_rI (b01_f (by omega)).symm
    · refine ax_iconst rfl ?_
      refine ax_goto rfl ?_
      refine ax_zret rfl rfl (by omega) ?_
      first | exact av_rI (b01_t (by omega)).symm | exact av_rI (b01_f (by omega)).symm
set_option maxRecDepth 100000 in
set_option maxHeartbeats 800000 in
theorem c_X6_isOn (E : av_E) (d : Nat) (M : av_M) (w : Int) (hw : 0 ≤ w ∧ w < 10) (h0 : 0 ≤ M 13 5) (h1 : M 13 5 < 1024) : av_Mt E (d) mX6_isOn [vR 13, vI w] M (av_X (some (vI (b01 ((M 13 5).toNat.testBit w.toNat = true)))) M) := by
  have hb := bit_at h0 (show M 13 5 < 2147483648 by omega) (show 0 ≤ w ∧ w < 31 by omega)
  refine av_enter hX6_isOn oX6_isOn rfl rfl ?_
  refine ax_aloadn rfl rfl ?_
  refine ax_getI (g := 5) rfl fX6_28 rfl rfl rfl rfl ?_
  refine ax_iloadn rfl rfl ?_
  refine ax_ishr rfl ?_
  refine ax_iconst rfl ?_
  refine ax_iand rfl ?_
  refine ax_iconst rfl ?_
  refine ax_icmp_ne rfl (by rw [hb]; split <;> omega) (by omega) (fun h9 => ?_) (fun h9 => ?_)
  · refine ax_iconst rfl ?_
    refine ax_zret rfl rfl (by omega) ?_
    first
      | (refine av_rI (b01_t ?_).symm; apply Classical.byContradiction; intro hc; rw [if_neg hc] at hb; omega)
      | (refine av_rI (b01_f ?_).symm; intro hc; rw [if_pos hc] at hb; omega)
  · refine ax_iconst rfl ?_
    refine ax_goto rfl ?_
    refine ax_zret rfl rfl (by omega) ?_
    first
      | (refine av_rI (b01_t ?_).symm; apply Classical.byContradiction; intro hc; rw [if_neg hc] at hb; omega)
      | (refine av_rI (b01_f ?_).symm; intro hc; rw [if_pos hc] at hb; omega)
set_option maxRecDepth 100000 in
set_option maxHeartbeats 800000 in
theorem c_X6_part (E : av_E) (d : Nat) (M : av_M) (w k : Int) (hw : 0 ≤ w ∧ w < 10) (hk : 0 ≤ k ∧ k ≤ 4) (h0 : 0 ≤ M 13 5) (h1 : M 13 5 < 1024) : av_Mt E (d + 1) mX6_part [vR 13, vI w, vI k] M (av_X (some (vI (if k = 0 then M 14 w else if k = 1 then M 15 w else if k = 2 then M 16 w else if k = 3 then M 17 w else b01 ((M 13 5).toNat.testBit w.toNat = true)))) M) := by
  have br := b01_rng ((M 13 5).toNat.testBit w.toNat = true)
  refine av_enter hX6_part oX6_part rfl rfl ?_
  refine ax_iloadn rfl rfl ?_
  rcases (show k = 0 ∨ k = 1 ∨ k = 2 ∨ k = 3 ∨ (k < 0 ∨ 3 < k) by omega) with hq | hq | hq | hq | hq
  · refine ax_tabIn (off := 31) (t := 32) rfl (by omega) (by omega) (by omega) (by rw [hq]; rfl) (by decide) ?_
    refine ax_aloadn rfl rfl ?_
    refine ax_getR rfl fX6_9 rfl rfl ?_
    refine ax_iloadn rfl rfl ?_
    refine ax_iald rfl rfl (by omega) ?_
    refine ax_iret rfl rfl ?_
    exact av_rI (by (repeat' split) <;> omega)
  · refine ax_tabIn (off := 38) (t := 39) rfl (by omega) (by omega) (by omega) (by rw [hq]; rfl) (by decide) ?_
    refine ax_aloadn rfl rfl ?_
    refine ax_getR rfl fX6_15 rfl rfl ?_
    refine ax_iloadn rfl rfl ?_
    refine ax_iald rfl rfl (by omega) ?_
    refine ax_iret rfl rfl ?_
    exact av_rI (by (repeat' split) <;> omega)
  · refine ax_tabIn (off := 45) (t := 46) rfl (by omega) (by omega) (by omega) (by rw [hq]; rfl) (by decide) ?_
    refine ax_aloadn rfl rfl ?_
    refine ax_getR rfl fX6_18 rfl rfl ?_
    refine ax_iloadn rfl rfl ?_
    refine ax_iald rfl rfl (by omega) ?_
    refine ax_iret rfl rfl ?_
    exact av_rI (by (repeat' split) <;> omega)
  · refine ax_tabIn (off := 52) (t := 53) rfl (by omega) (by omega) (by omega) (by rw [hq]; rfl) (by decide) ?_
    refine ax_aloadn rfl rfl ?_
    refine ax_getR rfl fX6_21 rfl rfl ?_
    refine ax_iloadn rfl rfl ?_
    refine ax_iald rfl rfl (by omega) ?_
    refine ax_iret rfl rfl ?_
    exact av_rI (by (repeat' split) <;> omega)
  · refine ax_tabOut (t := 60) rfl (by omega) hq (by decide) ?_
    refine ax_aloadn rfl rfl ?_
    refine ax_iloadn rfl rfl ?_
    refine ax_callV (as := [_]) rfl vX6_31 hX6_isOn rfl rfl rfl rfl rfl (c_X6_isOn E d M w hw h0 h1) (av_Xk ?_)
    refine ax_if_eq rfl (by omega) (fun h65 => ?_) (fun h65 => ?_)
    · refine ax_iconst rfl ?_
      refine ax_iret rfl rfl ?_
      exact av_rI (by (repeat' split) <;> omega)
    · refine ax_iconst rfl ?_
      refine ax_goto rfl ?_
      refine ax_iret rfl rfl ?_
      exact av_rI (by (repeat' split) <;> omega)
set_option maxRecDepth 100000 in
set_option maxHeartbeats 800000 in
theorem c_X6_excess (E : av_E) (d : Nat) (M : av_M) (n x y z w : Int) (hn : 0 ≤ n ∧ n < 10) : av_Mt E (d) mX6_excess [vR 13, vI n, vI x, vI y, vI z, vI w] M (av_X (some (vI (M 14 n * x + M 15 n * y + M 16 n * z - M 17 n * w))) M) := by
  refine av_enter hX6_excess oX6_excess rfl rfl ?_
  refine ax_aloadn rfl rfl ?_
  refine ax_getR rfl fX6_9 rfl rfl ?_
  refine ax_iloadn rfl rfl ?_
  refine ax_iald rfl rfl (by omega) ?_
  refine ax_iloadn rfl rfl ?_
  refine ax_imul rfl ?_
  refine ax_aloadn rfl rfl ?_
  refine ax_getR rfl fX6_15 rfl rfl ?_
  refine ax_iloadn rfl rfl ?_
  refine ax_iald rfl rfl (by omega) ?_
  refine ax_iloadn rfl rfl ?_
  refine ax_imul rfl ?_
  refine ax_iadd rfl ?_
  refine ax_aloadn rfl rfl ?_
  refine ax_getR rfl fX6_18 rfl rfl ?_
  refine ax_iloadn rfl rfl ?_
  refine ax_iald rfl rfl (by omega) ?_
  refine ax_iload rfl rfl ?_
  refine ax_imul rfl ?_
  refine ax_iadd rfl ?_
  refine ax_aloadn rfl rfl ?_
  refine ax_getR rfl fX6_21 rfl rfl ?_
  refine ax_iloadn rfl rfl ?_
  refine ax_iald rfl rfl (by omega) ?_
  refine ax_iload rfl rfl ?_
  refine ax_imul rfl ?_
  refine ax_isub rfl ?_
  refine ax_iret rfl rfl ?_
  exact av_rI rfl
set_option maxRecDepth 100000 in
set_option maxHeartbeats 800000 in
theorem c_X6_push (E : av_E) (d : Nat) (M : av_M) (w v : Int) (hw : 0 ≤ w ∧ w < 10) : av_Mt E d mX6_push [vR 13, vI w, vI v] M (fun res M' => res = some (vI (M 17 w)) ∧ M' 17 w = v ∧ (∀ j, j ≠ w → M' 17 j = M 17 j) ∧ ∀ k, k ≠ 17 → M' k = M k) := by
  refine av_enter hX6_push oX6_push rfl rfl ?_
  refine ax_aloadn rfl rfl ?_
  refine ax_getR rfl fX6_21 rfl rfl ?_
  refine ax_iloadn rfl rfl ?_
  refine ax_iald rfl rfl (by omega) ?_
  refine ax_istoren (ls' := [(0, _), (1, _), (2, _), (3, _)]) rfl rfl rfl ?_
  refine ax_aloadn rfl rfl ?_
  refine ax_getR rfl fX6_21 rfl rfl ?_
  refine ax_iloadn rfl rfl ?_
  refine ax_iloadn rfl rfl ?_
  refine ax_iast' rfl rfl (by omega) (fun M13 a13 b13 c13 => ?_)
  refine ax_iloadn rfl rfl ?_
  refine ax_iret rfl rfl ?_
  exact ⟨rfl, a13, b13, c13⟩
set_option maxRecDepth 100000 in
set_option maxHeartbeats 800000 in
theorem c_X6_turn (E : av_E) (d : Nat) (M : av_M) (w t : Int) (ht : t = 0 ∨ t = 1) (hw : 0 ≤ w ∧ w < 10) (h0 : 0 ≤ M 13 5) (h1 : M 13 5 < 1024) : av_Mt E (d + 1) mX6_turn [vR 13, vI w, vI t] M (fun res M' => res = some (vI (b01 ((M 13 5).toNat.testBit w.toNat = true))) ∧ 0 ≤ M' 13 5 ∧ M' 13 5 < 1024 ∧ (∀ j : Nat, (M' 13 5).toNat.testBit j = if (j : Int) = w then decide (t = 1) else (M 13 5).toNat.testBit j) ∧ (∀ f, f ≠ 5 → M' 13 f = M 13 f) ∧ ∀ k, k ≠ 13 → M' k = M k) := by
  have br := b01_rng ((M 13 5).toNat.testBit w.toNat = true)
  obtain ⟨r1, e1, p1, q1, s1⟩ := bit_set h0 h1 hw
  obtain ⟨r2, e2, p2, q2, s2⟩ := bit_clr h0 h1 hw
  refine av_enter hX6_turn oX6_turn rfl rfl ?_
  refine ax_aloadn rfl rfl ?_
  refine ax_iloadn rfl rfl ?_
  refine ax_callV (as := [_]) rfl vX6_31 hX6_isOn rfl rfl rfl rfl rfl (c_X6_isOn E d M w hw h0 h1) (av_Xk ?_)
  refine ax_if_eq rfl (by omega) (fun h5 => ?_) (fun h5 => ?_)
  · refine ax_iconst rfl ?_
    refine ax_istoren (ls' := [(0, _), (1, _), (2, _), (3, _)]) rfl rfl rfl ?_
    refine ax_aloadn rfl rfl ?_
    refine ax_iloadn rfl rfl ?_
    refine ax_if_eq rfl (by omega) (fun h16 => ?_) (fun h16 => ?_)
    · refine ax_aloadn rfl rfl ?_
      refine ax_getI (g := 5) rfl fX6_28 rfl rfl rfl rfl ?_
      refine ax_iconst rfl ?_
      refine ax_iloadn rfl rfl ?_
      refine ax_ishl rfl ?_
      refine ax_iconst rfl ?_
      refine ax_ixor rfl ?_
      refine ax_iand rfl ?_
      refine ax_putI' (g := 5) rfl gX6_28 rfl rfl rfl rfl (fun M40 a40 b40 c40 => ?_)
      refine ax_iloadn rfl rfl ?_
      refine ax_iret rfl rfl ?_
      have eb : ∀ z : Int, (z = 0 ∨ z = 1) → True := fun _ _ => trivial
      first
        | (rw [e1] at a40
           refine ⟨by congr 2; omega, by rw [a40]; exact p1, by rw [a40]; exact q1, fun j => ?_, b40, c40⟩
           rw [a40, s1 j]
           have ht1 : t = 1 := by omega
           by_cases hj : (j : Int) = w
           · rw [if_pos hj, ht1]; simp [hj]
           · rw [if_neg hj]; simp [hj])
        | (rw [e2] at a40
           refine ⟨by congr 2; omega, by rw [a40]; exact p2, by rw [a40]; exact q2, fun j => ?_, b40, c40⟩
           rw [a40, s2 j]
           have ht1 : t = 0 := by omega
           by_cases hj : (j : Int) = w
           · rw [if_pos hj, ht1]; simp [hj]
           · rw [if_neg hj]; simp [hj])
    · refine ax_aloadn rfl rfl ?_
      refine ax_getI (g := 5) rfl fX6_28 rfl rfl rfl rfl ?_
      refine ax_iconst rfl ?_
      refine ax_iloadn rfl rfl ?_
      refine ax_ishl rfl ?_
      refine ax_ior rfl ?_
      refine ax_goto rfl ?_
      refine ax_putI' (g := 5) rfl gX6_28 rfl rfl rfl rfl (fun M40 a40 b40 c40 => ?_)
      refine ax_iloadn rfl rfl ?_
      refine ax_iret rfl rfl ?_
      have eb : ∀ z : Int, (z = 0 ∨ z = 1) → True := fun _ _ => trivial
      first
        | (rw [e1] at a40
           refine ⟨by congr 2; omega, by rw [a40]; exact p1, by rw [a40]; exact q1, fun j => ?_, b40, c40⟩
           rw [a40, s1 j]
           have ht1 : t = 1 := by omega
           by_cases hj : (j : Int) = w
           · rw [if_pos hj, ht1]; simp [hj]
           · rw [if_neg hj]; simp [hj])
        | (rw [e2] at a40
           refine ⟨by congr 2; omega, by rw [a40]; exact p2, by rw [a40]; exact q2, fun j => ?_, b40, c40⟩
           rw [a40, s2 j]
           have ht1 : t = 0 := by omega
           by_cases hj : (j : Int) = w
           · rw [if_pos hj, ht1]; simp [hj]
           · rw [if_neg hj]; simp [hj])
  · refine ax_iconst rfl ?_
    refine ax_goto rfl ?_
    refine ax_istoren (ls' := [(0, _), (1, _), (2, _), (3, _)]) rfl rfl rfl ?_
    refine ax_aloadn rfl rfl ?_
    refine ax_iloadn rfl rfl ?_
    refine ax_if_eq rfl (by omega) (fun h16 => ?_) (fun h16 => ?_)
    · refine ax_aloadn rfl rfl ?_
      refine ax_getI (g := 5) rfl fX6_28 rfl rfl rfl rfl ?_
      refine ax_iconst rfl ?_
      refine ax_iloadn rfl rfl ?_
      refine ax_ishl rfl ?_
      refine ax_iconst rfl ?_
      refine ax_ixor rfl ?_
      refine ax_iand rfl ?_
      refine ax_putI' (g := 5) rfl gX6_28 rfl rfl rfl rfl (fun M40 a40 b40 c40 => ?_)
      refine ax_iloadn rfl rfl ?_
      refine ax_iret rfl rfl ?_
      have eb : ∀ z : Int, (z = 0 ∨ z = 1) → True := fun _ _ => trivial
      first
        | (rw [e1] at a40
           refine ⟨by congr 2; omega, by rw [a40]; exact p1, by rw [a40]; exact q1, fun j => ?_, b40, c40⟩
           rw [a40, s1 j]
           have ht1 : t = 1 := by omega
           by_cases hj : (j : Int) = w
           · rw [if_pos hj, ht1]; simp [hj]
           · rw [if_neg hj]; simp [hj])
        | (rw [e2] at a40
           refine ⟨by congr 2; omega, by rw [a40]; exact p2, by rw [a40]; exact q2, fun j => ?_, b40, c40⟩
           rw [a40, s2 j]
           have ht1 : t = 0 := by omega
           by_cases hj : (j : Int) = w
           · rw [if_pos hj, ht1]; simp [hj]
           · rw [if_neg hj]; simp [hj])
    · refine ax_aloadn rfl rfl ?_
      refine ax_getI (g := 5) rfl fX6_28 rfl rfl rfl rfl ?_
      refine ax_iconst rfl ?_
      refine ax_iloadn rfl rfl ?_
      refine ax_ishl rfl ?_
      refine ax_ior rfl ?_
      refine ax_goto rfl ?_
      refine ax_putI' (g := 5) rfl gX6_28 rfl rfl rfl rfl (fun M40 a40 b40 c40 => ?_)
      refine ax_iloadn rfl rfl ?_
      refine ax_iret rfl rfl ?_
      have eb : ∀ z : Int, (z = 0 ∨ z = 1) → True := fun _ _ => trivial
      first
        | (rw [e1] at a40
           refine ⟨by congr 2; omega, by rw [a40]; exact p1, by rw [a40]; exact q1, fun j => ?_, b40, c40⟩
           rw [a40, s1 j]
           have ht1 : t = 1 := by omega
           by_cases hj : (j : Int) = w
           · rw [if_pos hj, ht1]; simp [hj]
           · rw [if_neg hj]; simp [hj])
        | (rw [e2] at a40
           refine ⟨by congr 2; omega, by rw [a40]; exact p2, by rw [a40]; exact q2, fun j => ?_, b40, c40⟩
           rw [a40, s2 j]
           have ht1 : t = 0 := by omega
           by_cases hj : (j : Int) = w
           · rw [if_pos hj, ht1]; simp [hj]
           · rw [if_neg hj]; simp [hj])
set_option maxRecDepth 100000 in
set_option maxHeartbeats 800000 in
theorem c_X6_add (E : av_E) (d : Nat) (M : av_M) (a b c e : Int) (hs : 0 ≤ M 13 4 ∧ M 13 4 < 10) (h0 : 0 ≤ M 13 5) (h1 : M 13 5 < 1024) : av_Mt E (d + 2) mX6_add [vR 13, vI a, vI b, vI c, vI e] M (fun res M' => res = some (vI (M 13 4)) ∧ M' 13 4 = M 13 4 + 1 ∧ 0 ≤ M' 13 5 ∧ M' 13 5 < 1024 ∧ (∀ j : Nat, (M' 13 5).toNat.testBit j = if (j : Int) = M 13 4 then true else (M 13 5).toNat.testBit j) ∧ (M' 14 (M 13 4) = a ∧ ∀ j, j ≠ M 13 4 → M' 14 j = M 14 j) ∧ (M' 15 (M 13 4) = b ∧ ∀ j, j ≠ M 13 4 → M' 15 j = M 15 j) ∧ (M' 16 (M 13 4) = c ∧ ∀ j, j ≠ M 13 4 → M' 16 j = M 16 j) ∧ (M' 17 (M 13 4) = e ∧ ∀ j, j ≠ M 13 4 → M' 17 j = M 17 j) ∧ ∀ k, k ≠ 13 → k ≠ 14 → k ≠ 15 → k ≠ 16 → k ≠ 17 → M' k = M k) := by
  refine av_enter hX6_add oX6_add rfl rfl ?_
  refine ax_aloadn rfl rfl ?_
  refine ax_getI (g := 4) rfl fX6_24 rfl rfl rfl rfl ?_
  refine ax_istore (ls' := [(0, _), (1, _), (2, _), (3, _), (4, _), (5, _)]) rfl rfl rfl ?_
  refine ax_aloadn rfl rfl ?_
  refine ax_getR rfl fX6_9 rfl rfl ?_
  refine ax_iload rfl rfl ?_
  refine ax_iloadn rfl rfl ?_
  refine ax_iast' rfl rfl (by omega) (fun M13 a13 b13 c13 => ?_)
  refine ax_aloadn rfl rfl ?_
  refine ax_getR rfl fX6_15 rfl rfl ?_
  refine ax_iload rfl rfl ?_
  refine ax_iloadn rfl rfl ?_
  refine ax_iast' rfl rfl (by omega) (fun M21 a21 b21 c21 => ?_)
  refine ax_aloadn rfl rfl ?_
  refine ax_getR rfl fX6_18 rfl rfl ?_
  refine ax_iload rfl rfl ?_
  refine ax_iloadn rfl rfl ?_
  refine ax_iast' rfl rfl (by omega) (fun M29 a29 b29 c29 => ?_)
  refine ax_aloadn rfl rfl ?_
  refine ax_getR rfl fX6_21 rfl rfl ?_
  refine ax_iload rfl rfl ?_
  refine ax_iload rfl rfl ?_
  refine ax_iast' rfl rfl (by omega) (fun M38 a38 b38 c38 => ?_)
  refine ax_aloadn rfl rfl ?_
  refine ax_dup rfl rfl ?_
  refine ax_getI (g := 4) rfl fX6_24 rfl rfl rfl rfl ?_
  refine ax_iconst rfl ?_
  refine ax_iadd rfl ?_
  refine ax_putI' (g := 4) rfl gX6_24 rfl rfl rfl rfl (fun M46 a46 b46 c46 => ?_)
  refine ax_aloadn rfl rfl ?_
  refine ax_iload rfl rfl ?_
  refine ax_iconst rfl ?_
  refine ax_callV (as := [_, _]) rfl vX6_35 hX6_turn rfl rfl rfl rfl rfl (c_X6_turn E d M46 (M 13 4) 1 (Or.inr rfl) hs (by rw [b46 5 (by decide), c38 13 (by decide), c29 13 (by decide), c21 13 (by decide), c13 13 (by decide)]; exact h0) (by rw [b46 5 (by decide), c38 13 (by decide), c29 13 (by decide), c21 13 (by decide), c13 13 (by decide)]; exact h1)) (fun r53 M53 hr53 => ?_)
  obtain ⟨rfl, g1, g2, g3, g4, g5⟩ := hr53
  refine ax_pop rfl rfl ?_
  refine ax_iload rfl rfl ?_
  refine ax_iret rfl rfl ?_
  have e13 : M38 13 = M 13 := by rw [c38 13 (by decide), c29 13 (by decide), c21 13 (by decide), c13 13 (by decide)]
  have f14 : M53 14 = M13 14 := by rw [g5 14 (by decide), c46 14 (by decide), c38 14 (by decide), c29 14 (by decide), c21 14 (by decide)]
  have f15 : M53 15 = M21 15 := by rw [g5 15 (by decide), c46 15 (by decide), c38 15 (by decide), c29 15 (by decide)]
  have f16 : M53 16 = M29 16 := by rw [g5 16 (by decide), c46 16 (by decide), c38 16 (by decide)]
  have f17 : M53 17 = M38 17 := by rw [g5 17 (by decide), c46 17 (by decide)]
  refine ⟨rfl, by rw [g4 4 (by decide), a46, e13], g1, g2, fun j => ?_, ⟨by rw [f14]; exact a13, fun j hj => by rw [f14]; exact b13 j hj⟩, ⟨by rw [f15]; exact a21, fun j hj => by rw [f15, b21 j hj, c13 15 (by decide)]⟩, ⟨by rw [f16]; exact a29, fun j hj => by rw [f16, b29 j hj, c21 16 (by decide), c13 16 (by decide)]⟩, ⟨by rw [f17]; exact a38, fun j hj => by rw [f17, b38 j hj, c29 17 (by decide), c21 17 (by decide), c13 17 (by decide)]⟩, fun k k0 k1 k2 k3 k4 => by rw [g5 k k0, c46 k k0, c38 k k4, c29 k k3, c21 k k2, c13 k k1]⟩
  rw [g3 j, b46 5 (by decide), e13]
  rfl
end
section
/-! ===== the meets' contracts ===== -/
theorem exI_rng {A B C D : Int → Int} {n x y z w : Int} (ha : -9 ≤ A n ∧ A n ≤ 9) (hb : -9 ≤ B n ∧ B n ≤ 9) (hc : -9 ≤ C n ∧ C n ≤ 9) (hd : -99 ≤ D n ∧ D n ≤ 99) (hx : -50000 ≤ x ∧ x ≤ 50000) (hy : -50000 ≤ y ∧ y ≤ 50000) (hz : -50000 ≤ z ∧ z ≤ 50000) (hw : 0 ≤ w ∧ w ≤ 5000) : -2000000 ≤ exI A B C D n x y z w ∧ exI A B C D n x y z w ≤ 2000000 := by
  have a := mb ha hx
  have b := mb hb hy
  have c := mb hc hz
  have d := mb hd (show -5000 ≤ w ∧ w ≤ 5000 by omega)
  unfold exI
  omega
theorem MI_mono {A B C D : Int → Int} {s : Int} {X Y Z W MK BR TO : Int → Int} {sz : Int} {cov cov' : Int → Int → Int → Prop} (h : MI A B C D s X Y Z W MK BR TO sz cov) (hc : ∀ i j k, 0 ≤ i → i < j → j < k → k < s → vol A B C i j k ≠ 0 → cov' i j k → cov i j k) : MI A B C D s X Y Z W MK BR TO sz cov' :=
  ⟨h.1, h.2.1, fun i j k i0 ij jk ks hv hq => h.2.2 i j k i0 ij jk ks hv (hc i j k i0 ij jk ks hv hq)⟩
theorem MI_add {A B C D : Int → Int} {s : Int} {X Y Z W MK BR TO X' Y' Z' W' MK' BR' TO' : Int → Int} {sz : Int} {cov cov' : Int → Int → Int → Prop} {i j k : Int} (h : MI A B C D s X Y Z W MK BR TO sz cov) (e1 : ∀ m, m ≠ sz → X' m = X m) (e2 : ∀ m, m ≠ sz → Y' m = Y m) (e3 : ∀ m, m ≠ sz → Z' m = Z m) (e4 : ∀ m, m ≠ sz → W' m = W m) (e5 : ∀ m, m ≠ sz → MK' m = MK m) (e6 : ∀ m, m ≠ sz → BR' m = BR m) (e7 : ∀ m, m ≠ sz → TO' m = TO m)
    (hm : MA A B C D s X' Y' Z' W' MK' BR' TO' sz i j k) (hc : ∀ a b c, cov' a b c → cov a b c ∨ (a = i ∧ b = j ∧ c = k)) : MI A B C D s X' Y' Z' W' MK' BR' TO' (sz + 1) cov' := by
  obtain ⟨h0, h1, h2⟩ := h
  have tr : ∀ m a b c, m ≠ sz → MA A B C D s X Y Z W MK BR TO m a b c → MA A B C D s X' Y' Z' W' MK' BR' TO' m a b c := fun m a b c hn q => MA_congr q ⟨e1 m hn, e2 m hn, e3 m hn, e4 m hn, e5 m hn, e6 m hn, e7 m hn⟩
  refine ⟨by omega, fun m m0 m1 => ?_, fun a b c a0 ab bc cs hv hq => ?_⟩
  · by_cases he : m = sz
    · rw [he]; exact ⟨i, j, k, hm⟩
    · obtain ⟨a, b, c, q⟩ := h1 m m0 (by omega)
      exact ⟨a, b, c, tr m a b c he q⟩
  · rcases hc a b c hq with q | ⟨rfl, rfl, rfl⟩
    · obtain ⟨m, m0, m1, q⟩ := h2 a b c a0 ab bc cs hv q
      exact ⟨m, m0, by omega, tr m a b c (by omega) q⟩
    · exact ⟨sz, h0, by omega, hm⟩
theorem RI_mono {A B C : Int → Int} {s : Int} {RB : Int → Int} {rz : Int} {cov cov' : Int → Int → Prop} (h : RI A B C s RB rz cov) (hc : ∀ i j, 0 ≤ i → i < s → 0 ≤ j → j < s → ¬ (B i * C j - C i * B j = 0 ∧ C i * A j - A i * C j = 0 ∧ A i * B j - B i * A j = 0) → cov' i j → cov i j) : RI A B C s RB rz cov' :=
  ⟨h.1, h.2.1, fun i j i0 i1 j0 j1 hv hq => h.2.2 i j i0 i1 j0 j1 hv (hc i j i0 i1 j0 j1 hv hq)⟩
theorem RI_add {A B C : Int → Int} {s : Int} {RB RB' : Int → Int} {rz : Int} {cov cov' : Int → Int → Prop} {i j : Int} (h : RI A B C s RB rz cov) (e1 : ∀ m, m ≠ rz → RB' m = RB m) (hm : RA A B C s RB' rz i j) (hc : ∀ a b, cov' a b → cov a b ∨ (a = i ∧ b = j)) : RI A B C s RB' (rz + 1) cov' := by
  obtain ⟨h0, h1, h2⟩ := h
  refine ⟨by omega, fun m m0 m1 => ?_, fun a b a0 a1 b0 b1 hv hq => ?_⟩
  · by_cases he : m = rz
    · rw [he]; exact ⟨i, j, hm⟩
    · obtain ⟨a, b, q⟩ := h1 m m0 (by omega)
      exact ⟨a, b, RA_congr q (e1 m he)⟩
  · rcases hc a b hq with q | ⟨rfl, rfl⟩
    · obtain ⟨m, m0, m1, q⟩ := h2 a b a0 a1 b0 b1 hv q
      exact ⟨m, m0, by omega, RA_congr q (e1 m (by omega))⟩
    · exact ⟨rz, h0, by omega, hm⟩
def PB (M : av_M) (z : Int) : Nat → Prop := fun t => 0 < exI (M 14) (M 15) (M 16) (M 17) t (M 19 z) (M 20 z) (M 21 z) (M 22 z)
def PT (M : av_M) (z : Int) : Nat → Prop := fun t => exI (M 14) (M 15) (M 16) (M 17) t (M 19 z) (M 20 z) (M 21 z) (M 22 z) = 0
def PR (M : av_M) (x y z : Int) : Nat → Prop := fun t => 0 < exI (M 14) (M 15) (M 16) (M 17) t x y z 0
def MTI (M : av_M) (cov : Int → Int → Int → Prop) : Prop := MI (M 14) (M 15) (M 16) (M 17) (M 13 4) (M 19) (M 20) (M 21) (M 22) (M 23) (M 24) (M 25) (M 18 8) cov
def MTR (M : av_M) (cov : Int → Int → Prop) : Prop := RI (M 14) (M 15) (M 16) (M 13 4) (M 26) (M 18 9) cov
set_option maxRecDepth 100000 in
set_option maxHeartbeats 800000 in
theorem c_X3_volume_w (E : av_E) (d : Nat) (M : av_M) (i j k : Int) (hi : 0 ≤ i ∧ i < 10) (hj : 0 ≤ j ∧ j < 10) (hk : 0 ≤ k ∧ k < 10) : av_Mt E d mX3_volume [vR 14, vR 15, vR 16, vI i, vI j, vI k] M (av_X (some (vI (vol (M 14) (M 15) (M 16) i j k))) M) := by
  refine av_enter hX3_volume oX3_volume rfl rfl ?_
  refine ax_aloadn rfl rfl ?_
  refine ax_iloadn rfl rfl ?_
  refine ax_iald rfl rfl (by omega) ?_
  refine ax_aloadn rfl rfl ?_
  refine ax_iload rfl rfl ?_
  refine ax_iald rfl rfl (by omega) ?_
  refine ax_aloadn rfl rfl ?_
  refine ax_iload rfl rfl ?_
  refine ax_iald rfl rfl (by omega) ?_
  refine ax_imul rfl ?_
  refine ax_aloadn rfl rfl ?_
  refine ax_iload rfl rfl ?_
  refine ax_iald rfl rfl (by omega) ?_
  refine ax_aloadn rfl rfl ?_
  refine ax_iload rfl rfl ?_
  refine ax_iald rfl rfl (by omega) ?_
  refine ax_imul rfl ?_
  refine ax_isub rfl ?_
  refine ax_imul rfl ?_
  refine ax_aloadn rfl rfl ?_
  refine ax_iload rfl rfl ?_
  refine ax_iald rfl rfl (by omega) ?_
  refine ax_aloadn rfl rfl ?_
  refine ax_iloadn rfl rfl ?_
  refine ax_iald rfl rfl (by omega) ?_
  refine ax_aloadn rfl rfl ?_
  refine ax_iload rfl rfl ?_
  refine ax_iald rfl rfl (by omega) ?_
  refine ax_imul rfl ?_
  refine ax_aloadn rfl rfl ?_
  refine ax_iload rfl rfl ?_
  refine ax_iald rfl rfl (by omega) ?_
  refine ax_aloadn rfl rfl ?_
  refine ax_iloadn rfl rfl ?_
  refine ax_iald rfl rfl (by omega) ?_
  refine ax_imul rfl ?_
  refine ax_isub rfl ?_
  refine ax_imul rfl ?_
  refine ax_isub rfl ?_
  refine ax_aloadn rfl rfl ?_
  refine ax_iload rfl rfl ?_
  refine ax_iald rfl rfl (by omega) ?_
  refine ax_aloadn rfl rfl ?_
  refine ax_iloadn rfl rfl ?_
  refine ax_iald rfl rfl (by omega) ?_
  refine ax_aloadn rfl rfl ?_
  refine ax_iload rfl rfl ?_
  refine ax_iald rfl rfl (by omega) ?_
  refine ax_imul rfl ?_
  refine ax_aloadn rfl rfl ?_
  refine ax_iload rfl rfl ?_
  refine ax_iald rfl rfl (by omega) ?_
  refine ax_aloadn rfl rfl ?_
  refine ax_iloadn rfl rfl ?_
  refine ax_iald rfl rfl (by omega) ?_
  refine ax_imul rfl ?_
  refine ax_isub rfl ?_
  refine ax_imul rfl ?_
  refine ax_iadd rfl ?_
  refine ax_iret rfl rfl ?_
  exact av_rI rfl
set_option maxRecDepth 100000 in
set_option maxHeartbeats 800000 in
theorem c_X3_volume_x (E : av_E) (d : Nat) (M : av_M) (i j k : Int) (hi : 0 ≤ i ∧ i < 10) (hj : 0 ≤ j ∧ j < 10) (hk : 0 ≤ k ∧ k < 10) : av_Mt E d mX3_volume [vR 17, vR 15, vR 16, vI i, vI j, vI k] M (av_X (some (vI (vol (M 17) (M 15) (M 16) i j k))) M) := by
  refine av_enter hX3_volume oX3_volume rfl rfl ?_
  refine ax_aloadn rfl rfl ?_
  refine ax_iloadn rfl rfl ?_
  refine ax_iald rfl rfl (by omega) ?_
  refine ax_aloadn rfl rfl ?_
  refine ax_iload rfl rfl ?_
  refine ax_iald rfl rfl (by omega) ?_
  refine ax_aloadn rfl rfl ?_
  refine ax_iload rfl rfl ?_
  refine ax_iald rfl rfl (by omega) ?_
  refine ax_imul rfl ?_
  refine ax_aloadn rfl rfl ?_
  refine ax_iload rfl rfl ?_
  refine ax_iald rfl rfl (by omega) ?_
  refine ax_aloadn rfl rfl ?_
  refine ax_iload rfl rfl ?_
  refine ax_iald rfl rfl (by omega) ?_
  refine ax_imul rfl ?_
  refine ax_isub rfl ?_
  refine ax_imul rfl ?_
  refine ax_aloadn rfl rfl ?_
  refine ax_iload rfl rfl ?_
  refine ax_iald rfl rfl (by omega) ?_
  refine ax_aloadn rfl rfl ?_
  refine ax_iloadn rfl rfl ?_
  refine ax_iald rfl rfl (by omega) ?_
  refine ax_aloadn rfl rfl ?_
  refine ax_iload rfl rfl ?_
  refine ax_iald rfl rfl (by omega) ?_
  refine ax_imul rfl ?_
  refine ax_aloadn rfl rfl ?_
  refine ax_iload rfl rfl ?_
  refine ax_iald rfl rfl (by omega) ?_
  refine ax_aloadn rfl rfl ?_
  refine ax_iloadn rfl rfl ?_
  refine ax_iald rfl rfl (by omega) ?_
  refine ax_imul rfl ?_
  refine ax_isub rfl ?_
  refine ax_imul rfl ?_
  refine ax_isub rfl ?_
  refine ax_aloadn rfl rfl ?_
  refine ax_iload rfl rfl ?_
  refine ax_iald rfl rfl (by omega) ?_
  refine ax_aloadn rfl rfl ?_
  refine ax_iloadn rfl rfl ?_
  refine ax_iald rfl rfl (by omega) ?_
  refine ax_aloadn rfl rfl ?_
  refine ax_iload rfl rfl ?_
  refine ax_iald rfl rfl (by omega) ?_
  refine ax_imul rfl ?_
  refine ax_aloadn rfl rfl ?_
  refine ax_iload rfl rfl ?_
  refine ax_iald rfl rfl (by omega) ?_
  refine ax_aloadn rfl rfl ?_
  refine ax_iloadn rfl rfl ?_
  refine ax_iald rfl rfl (by omega) ?_
  refine ax_imul rfl ?_
  refine ax_isub rfl ?_
  refine ax_imul rfl ?_
  refine ax_iadd rfl ?_
  refine ax_iret rfl rfl ?_
  exact av_rI rfl
set_option maxRecDepth 100000 in
set_option maxHeartbeats 800000 in
theorem c_X3_volume_y (E : av_E) (d : Nat) (M : av_M) (i j k : Int) (hi : 0 ≤ i ∧ i < 10) (hj : 0 ≤ j ∧ j < 10) (hk : 0 ≤ k ∧ k < 10) : av_Mt E d mX3_volume [vR 14, vR 17, vR 16, vI i, vI j, vI k] M (av_X (some (vI (vol (M 14) (M 17) (M 16) i j k))) M) := by
  refine av_enter hX3_volume oX3_volume rfl rfl ?_
  refine ax_aloadn rfl rfl ?_
  refine ax_iloadn rfl rfl ?_
  refine ax_iald rfl rfl (by omega) ?_
  refine ax_aloadn rfl rfl ?_
  refine ax_iload rfl rfl ?_
  refine ax_iald rfl rfl (by omega) ?_
  refine ax_aloadn rfl rfl ?_
  refine ax_iload rfl rfl ?_
  refine ax_iald rfl rfl (by omega) ?_
  refine ax_imul rfl ?_
  refine ax_aloadn rfl rfl ?_
  refine ax_iload rfl rfl ?_
  refine ax_iald rfl rfl (by omega) ?_
  refine ax_aloadn rfl rfl ?_
  refine ax_iload rfl rfl ?_
  refine ax_iald rfl rfl (by omega) ?_
  refine ax_imul rfl ?_
  refine ax_isub rfl ?_
  refine ax_imul rfl ?_
  refine ax_aloadn rfl rfl ?_
  refine ax_iload rfl rfl ?_
  refine ax_iald rfl rfl (by omega) ?_
  refine ax_aloadn rfl rfl ?_
  refine ax_iloadn rfl rfl ?_
  refine ax_iald rfl rfl (by omega) ?_
  refine ax_aloadn rfl rfl ?_
  refine ax_iload rfl rfl ?_
  refine ax_iald rfl rfl (by omega) ?_
  refine ax_imul rfl ?_
  refine ax_aloadn rfl rfl ?_
  refine ax_iload rfl rfl ?_
  refine ax_iald rfl rfl (by omega) ?_
  refine ax_aloadn rfl rfl ?_
  refine ax_iloadn rfl rfl ?_
  refine ax_iald rfl rfl (by omega) ?_
  refine ax_imul rfl ?_
  refine ax_isub rfl ?_
  refine ax_imul rfl ?_
  refine ax_isub rfl ?_
  refine ax_aloadn rfl rfl ?_
  refine ax_iload rfl rfl ?_
  refine ax_iald rfl rfl (by omega) ?_
  refine ax_aloadn rfl rfl ?_
  refine ax_iloadn rfl rfl ?_
  refine ax_iald rfl rfl (by omega) ?_
  refine ax_aloadn rfl rfl ?_
  refine ax_iload rfl rfl ?_
  refine ax_iald rfl rfl (by omega) ?_
  refine ax_imul rfl ?_
  refine ax_aloadn rfl rfl ?_
  refine ax_iload rfl rfl ?_
  refine ax_iald rfl rfl (by omega) ?_
  refine ax_aloadn rfl rfl ?_
  refine ax_iloadn rfl rfl ?_
  refine ax_iald rfl rfl (by omega) ?_
  refine ax_imul rfl ?_
  refine ax_isub rfl ?_
  refine ax_imul rfl ?_
  refine ax_iadd rfl ?_
  refine ax_iret rfl rfl ?_
  exact av_rI rfl
set_option maxRecDepth 100000 in
set_option maxHeartbeats 800000 in
theorem c_X3_volume_z (E : av_E) (d : Nat) (M : av_M) (i j k : Int) (hi : 0 ≤ i ∧ i < 10) (hj : 0 ≤ j ∧ j < 10) (hk : 0 ≤ k ∧ k < 10) : av_Mt E d mX3_volume [vR 14, vR 15, vR 17, vI i, vI j, vI k] M (av_X (some (vI (vol (M 14) (M 15) (M 17) i j k))) M) := by
  refine av_enter hX3_volume oX3_volume rfl rfl ?_
  refine ax_aloadn rfl rfl ?_
  refine ax_iloadn rfl rfl ?_
  refine ax_iald rfl rfl (by omega) ?_
  refine ax_aloadn rfl rfl ?_
  refine ax_iload rfl rfl ?_
  refine ax_iald rfl rfl (by omega) ?_
  refine ax_aloadn rfl rfl ?_
  refine ax_iload rfl rfl ?_
  refine ax_iald rfl rfl (by omega) ?_
  refine ax_imul rfl ?_
  refine ax_aloadn rfl rfl ?_
  refine ax_iload rfl rfl ?_
  refine ax_iald rfl rfl (by omega) ?_
  refine ax_aloadn rfl rfl ?_
  refine ax_iload rfl rfl ?_
  refine ax_iald rfl rfl (by omega) ?_
  refine ax_imul rfl ?_
  refine ax_isub rfl ?_
  refine ax_imul rfl ?_
  refine ax_aloadn rfl rfl ?_
  refine ax_iload rfl rfl ?_
  refine ax_iald rfl rfl (by omega) ?_
  refine ax_aloadn rfl rfl ?_
  refine ax_iloadn rfl rfl ?_
  refine ax_iald rfl rfl (by omega) ?_
  refine ax_aloadn rfl rfl ?_
  refine ax_iload rfl rfl ?_
  refine ax_iald rfl rfl (by omega) ?_
  refine ax_imul rfl ?_
  refine ax_aloadn rfl rfl ?_
  refine ax_iload rfl rfl ?_
  refine ax_iald rfl rfl (by omega) ?_
  refine ax_aloadn rfl rfl ?_
  refine ax_iloadn rfl rfl ?_
  refine ax_iald rfl rfl (by omega) ?_
  refine ax_imul rfl ?_
  refine ax_isub rfl ?_
  refine ax_imul rfl ?_
  refine ax_isub rfl ?_
  refine ax_aloadn rfl rfl ?_
  refine ax_iload rfl rfl ?_
  refine ax_iald rfl rfl (by omega) ?_
  refine ax_aloadn rfl rfl ?_
  refine ax_iloadn rfl rfl ?_
  refine ax_iald rfl rfl (by omega) ?_
  refine ax_aloadn rfl rfl ?_
  refine ax_iload rfl rfl ?_
  refine ax_iald rfl rfl (by omega) ?_
  refine ax_imul rfl ?_
  refine ax_aloadn rfl rfl ?_
  refine ax_iload rfl rfl ?_
  refine ax_iald rfl rfl (by omega) ?_
  refine ax_aloadn rfl rfl ?_
  refine ax_iloadn rfl rfl ?_
  refine ax_iald rfl rfl (by omega) ?_
  refine ax_imul rfl ?_
  refine ax_isub rfl ?_
  refine ax_imul rfl ?_
  refine ax_iadd rfl ?_
  refine ax_iret rfl rfl ?_
  exact av_rI rfl
set_option maxRecDepth 100000 in
set_option maxHeartbeats 800000 in
theorem l_X3_mark (E : av_E) (d : Nat) (M : av_M) (z : Int) (hz : M 18 8 = z) (hz0 : 0 ≤ z ∧ z < 120) (hW : WI (M 14) (M 15) (M 16) (M 17) (M 13 4) (M 13 5)) (hx : -50000 ≤ M 19 z ∧ M 19 z ≤ 50000) (hy : -50000 ≤ M 20 z ∧ M 20 z ≤ 50000) (hv : -50000 ≤ M 21 z ∧ M 21 z ≤ 50000) (hw : 0 < M 22 z ∧ M 22 z ≤ 5000) : ∀ (t : Nat) (n : Int) (M1 : av_M), n + t = M 13 4 → 0 ≤ n → (bset (PB M z) (n) (M1 24 z) ∧ bset (PT M z) (n) (M1 25 z) ∧ (∀ j, j ≠ z → M1 24 j = M 24 j) ∧ (∀ j, j ≠ z → M1 25 j = M 25 j) ∧ ∀ k, k ≠ 24 → k ≠ 25 → M1 k = M k) → av_S E (d + 1) mX3_mark 22 [(0, vR 18), (1, vR 13), (2, vI n)] [] M1 (fun res M' => res = none ∧ bset (PB M z) (M 13 4) (M' 24 z) ∧ bset (PT M z) (M 13 4) (M' 25 z) ∧ (∀ j, j ≠ z → M' 24 j = M 24 j) ∧ (∀ j, j ≠ z → M' 25 j = M 25 j) ∧ ∀ k, k ≠ 24 → k ≠ 25 → M' k = M k) := by
  have hs := hW.2.1
  intro t
  induction t with
  | zero =>
    intro n M1 hi n0 hinv
    have en : n = M 13 4 := by omega
    subst en
    obtain ⟨g1, g2, g3, g4, hf⟩ := hinv
    have f13 := hf 13 (by decide) (by decide)
    refine ax_iloadn rfl rfl ?_
    refine ax_aloadn rfl rfl ?_
    refine ax_getI (g := 4) rfl fX3_43 rfl rfl rfl rfl ?_
    refine ax_icmp_ge rfl (by omega) (by rw [f13]; omega) (fun h27 => ?_) (fun h27 => ?_)
    · refine ax_vret rfl rfl ?_
      exact ⟨rfl, g1, g2, g3, g4, hf⟩
    · rw [f13] at h27; omega
  | succ t ih =>
    intro n M1 hi n0 hinv
    obtain ⟨g1, g2, g3, g4, hf⟩ := hinv
    have f13 := hf 13 (by decide) (by decide)
    have f18 := hf 18 (by decide) (by decide)
    have ez : M1 18 8 = z := by rw [f18]; exact hz
    have b := hW.2.2.1 n n0 (by omega)
    have er := exI_rng b.1 b.2.1 b.2.2.1 b.2.2.2.1 hx hy hv (show 0 ≤ M 22 z ∧ M 22 z ≤ 5000 by omega)
    have ex : M1 14 n * M1 19 (M1 18 8) + M1 15 n * M1 20 (M1 18 8) + M1 16 n * M1 21 (M1 18 8) - M1 17 n * M1 22 (M1 18 8) = exI (M 14) (M 15) (M 16) (M 17) n (M 19 z) (M 20 z) (M 21 z) (M 22 z) := by
      rw [ez, hf 14 (by decide) (by decide), hf 15 (by decide) (by decide), hf 16 (by decide) (by decide), hf 17 (by decide) (by decide), hf 19 (by decide) (by decide), hf 20 (by decide) (by decide), hf 21 (by decide) (by decide), hf 22 (by decide) (by decide)]
      rfl
    have hnn : ((n.toNat : Nat) : Int) = n := by omega
    have pB : PB M z n.toNat ↔ 0 < exI (M 14) (M 15) (M 16) (M 17) n (M 19 z) (M 20 z) (M 21 z) (M 22 z) := by unfold PB; rw [hnn]
    have pT : PT M z n.toNat ↔ exI (M 14) (M 15) (M 16) (M 17) n (M 19 z) (M 20 z) (M 21 z) (M 22 z) = 0 := by unfold PT; rw [hnn]
    refine ax_iloadn rfl rfl ?_
    refine ax_aloadn rfl rfl ?_
    refine ax_getI (g := 4) rfl fX3_43 rfl rfl rfl rfl ?_
    refine ax_icmp_ge rfl (by omega) (by rw [f13]; omega) (fun h27 => ?_) (fun h27 => ?_)
    · rw [f13] at h27; omega
    · refine ax_aloadn rfl rfl ?_
      refine ax_iloadn rfl rfl ?_
      refine ax_aloadn rfl rfl ?_
      refine ax_getR rfl fX3_9 rfl rfl ?_
      refine ax_aloadn rfl rfl ?_
      refine ax_getI (g := 8) rfl fX3_36 rfl rfl rfl rfl ?_
      refine ax_iald rfl rfl (by omega) ?_
      refine ax_aloadn rfl rfl ?_
      refine ax_getR rfl fX3_15 rfl rfl ?_
      refine ax_aloadn rfl rfl ?_
      refine ax_getI (g := 8) rfl fX3_36 rfl rfl rfl rfl ?_
      refine ax_iald rfl rfl (by omega) ?_
      refine ax_aloadn rfl rfl ?_
      refine ax_getR rfl fX3_18 rfl rfl ?_
      refine ax_aloadn rfl rfl ?_
      refine ax_getI (g := 8) rfl fX3_36 rfl rfl rfl rfl ?_
      refine ax_iald rfl rfl (by omega) ?_
      refine ax_aloadn rfl rfl ?_
      refine ax_getR rfl fX3_21 rfl rfl ?_
      refine ax_aloadn rfl rfl ?_
      refine ax_getI (g := 8) rfl fX3_36 rfl rfl rfl rfl ?_
      refine ax_iald rfl rfl (by omega) ?_
      refine ax_callV (as := [_, _, _, _, _]) rfl vX3_74 hX6_excess rfl rfl rfl rfl rfl (c_X6_excess E d M1 n _ _ _ _ (by omega)) (av_Xk ?_)
      refine ax_istoren (ls' := [(0, _), (1, _), (2, _), (3, _)]) rfl rfl rfl ?_
      refine ax_iloadn rfl rfl ?_
      refine ax_if_le rfl (by omega) (fun h73 => ?_) (fun h73 => ?_)
      · refine ax_iloadn rfl rfl ?_
        refine ax_if_ne rfl (by omega) (fun h95 => ?_) (fun h95 => ?_)
        · refine ax_iinc (ls' := [(0, _), (1, _), (2, _), (3, _)]) rfl rfl rfl rfl ?_
          refine ax_goto rfl ?_
          refine ax_pick [0, 1, 2] rfl ?_
          first
            | (rw [ez] at a90 b90
               obtain ⟨r, e1, e2⟩ := bset_in g1 (by omega) (pB.mpr (by omega))
               refine ih _ M90 (by omega) (by omega) ⟨by rw [a90, e1]; exact e2, ?_, fun j hj => by rw [b90 j hj, g3 j hj], fun j hj => by rw [c90 25 (by decide), g4 j hj], fun k k0 k1 => by rw [c90 k k0, hf k k0 k1]⟩
               rw [c90 25 (by decide)]
               exact bset_out g2 n0 (fun q => by have := pT.mp q; omega))
            | (rw [ez] at a112 b112
               obtain ⟨r, e1, e2⟩ := bset_in g2 (by omega) (pT.mpr (by omega))
               refine ih _ M112 (by omega) (by omega) ⟨?_, by rw [a112, e1]; exact e2, fun j hj => by rw [c112 24 (by decide), g3 j hj], fun j hj => by rw [b112 j hj, g4 j hj], fun k k0 k1 => by rw [c112 k k1, hf k k0 k1]⟩
               rw [c112 24 (by decide)]
               exact bset_out g1 n0 (fun q => by have := pB.mp q; omega))
            | exact ih _ M1 (by omega) (by omega) ⟨bset_out g1 n0 (fun q => by have := pB.mp q; omega), bset_out g2 n0 (fun q => by have := pT.mp q; omega), g3, g4, hf⟩
        · refine ax_aloadn rfl rfl ?_
          refine ax_getR rfl fX3_30 rfl rfl ?_
          refine ax_aloadn rfl rfl ?_
          refine ax_getI (g := 8) rfl fX3_36 rfl rfl rfl rfl ?_
          refine ax_dup2 rfl rfl rfl ?_
          refine ax_iald rfl rfl (by omega) ?_
          refine ax_iconst rfl ?_
          refine ax_iloadn rfl rfl ?_
          refine ax_ishl rfl ?_
          refine ax_ior rfl ?_
          refine ax_iast' rfl rfl (by omega) (fun M112 a112 b112 c112 => ?_)
          refine ax_iinc (ls' := [(0, _), (1, _), (2, _), (3, _)]) rfl rfl rfl rfl ?_
          refine ax_goto rfl ?_
          refine ax_pick [0, 1, 2] rfl ?_
          first
            | (rw [ez] at a90 b90
               obtain ⟨r, e1, e2⟩ := bset_in g1 (by omega) (pB.mpr (by omega))
               refine ih _ M90 (by omega) (by omega) ⟨by rw [a90, e1]; exact e2, ?_, fun j hj => by rw [b90 j hj, g3 j hj], fun j hj => by rw [c90 25 (by decide), g4 j hj], fun k k0 k1 => by rw [c90 k k0, hf k k0 k1]⟩
               rw [c90 25 (by decide)]
               exact bset_out g2 n0 (fun q => by have := pT.mp q; omega))
            | (rw [ez] at a112 b112
               obtain ⟨r, e1, e2⟩ := bset_in g2 (by omega) (pT.mpr (by omega))
               refine ih _ M112 (by omega) (by omega) ⟨?_, by rw [a112, e1]; exact e2, fun j hj => by rw [c112 24 (by decide), g3 j hj], fun j hj => by rw [b112 j hj, g4 j hj], fun k k0 k1 => by rw [c112 k k1, hf k k0 k1]⟩
               rw [c112 24 (by decide)]
               exact bset_out g1 n0 (fun q => by have := pB.mp q; omega))
            | exact ih _ M1 (by omega) (by omega) ⟨bset_out g1 n0 (fun q => by have := pB.mp q; omega), bset_out g2 n0 (fun q => by have := pT.mp q; omega), g3, g4, hf⟩
      · refine ax_aloadn rfl rfl ?_
        refine ax_getR rfl fX3_27 rfl rfl ?_
        refine ax_aloadn rfl rfl ?_
        refine ax_getI (g := 8) rfl fX3_36 rfl rfl rfl rfl ?_
        refine ax_dup2 rfl rfl rfl ?_
        refine ax_iald rfl rfl (by omega) ?_
        refine ax_iconst rfl ?_
        refine ax_iloadn rfl rfl ?_
        refine ax_ishl rfl ?_
        refine ax_ior rfl ?_
        refine ax_iast' rfl rfl (by omega) (fun M90 a90 b90 c90 => ?_)
        refine ax_goto rfl ?_
        refine ax_iinc (ls' := [(0, _), (1, _), (2, _), (3, _)]) rfl rfl rfl rfl ?_
        refine ax_goto rfl ?_
        refine ax_pick [0, 1, 2] rfl ?_
        first
          | (rw [ez] at a90 b90
             obtain ⟨r, e1, e2⟩ := bset_in g1 (by omega) (pB.mpr (by omega))
             refine ih _ M90 (by omega) (by omega) ⟨by rw [a90, e1]; exact e2, ?_, fun j hj => by rw [b90 j hj, g3 j hj], fun j hj => by rw [c90 25 (by decide), g4 j hj], fun k k0 k1 => by rw [c90 k k0, hf k k0 k1]⟩
             rw [c90 25 (by decide)]
             exact bset_out g2 n0 (fun q => by have := pT.mp q; omega))
          | (rw [ez] at a112 b112
             obtain ⟨r, e1, e2⟩ := bset_in g2 (by omega) (pT.mpr (by omega))
             refine ih _ M112 (by omega) (by omega) ⟨?_, by rw [a112, e1]; exact e2, fun j hj => by rw [c112 24 (by decide), g3 j hj], fun j hj => by rw [b112 j hj, g4 j hj], fun k k0 k1 => by rw [c112 k k1, hf k k0 k1]⟩
             rw [c112 24 (by decide)]
             exact bset_out g1 n0 (fun q => by have := pB.mp q; omega))
          | exact ih _ M1 (by omega) (by omega) ⟨bset_out g1 n0 (fun q => by have := pB.mp q; omega), bset_out g2 n0 (fun q => by have := pT.mp q; omega), g3, g4, hf⟩
set_option maxRecDepth 100000 in
set_option maxHeartbeats 800000 in
theorem c_X3_mark (E : av_E) (d : Nat) (M : av_M) (z : Int) (hz : M 18 8 = z) (hz0 : 0 ≤ z ∧ z < 120) (hW : WI (M 14) (M 15) (M 16) (M 17) (M 13 4) (M 13 5)) (hx : -50000 ≤ M 19 z ∧ M 19 z ≤ 50000) (hy : -50000 ≤ M 20 z ∧ M 20 z ≤ 50000) (hv : -50000 ≤ M 21 z ∧ M 21 z ≤ 50000) (hw : 0 < M 22 z ∧ M 22 z ≤ 5000) : av_Mt E (d + 1) mX3_mark [vR 18, vR 13] M (fun res M' => res = none ∧ bset (PB M z) (M 13 4) (M' 24 z) ∧ bset (PT M z) (M 13 4) (M' 25 z) ∧ (∀ j, j ≠ z → M' 24 j = M 24 j) ∧ (∀ j, j ≠ z → M' 25 j = M 25 j) ∧ ∀ k, k ≠ 24 → k ≠ 25 → M' k = M k) := by
  have hs := hW.2.1
  have hs0 := hW.1
  refine av_enter hX3_mark oX3_mark rfl rfl ?_
  refine ax_aloadn rfl rfl ?_
  refine ax_getR rfl fX3_27 rfl rfl ?_
  refine ax_aloadn rfl rfl ?_
  refine ax_getI (g := 8) rfl fX3_36 rfl rfl rfl rfl ?_
  refine ax_iconst rfl ?_
  refine ax_iast' rfl rfl (by omega) (fun M9 a9 b9 c9 => ?_)
  refine ax_aloadn rfl rfl ?_
  refine ax_getR rfl fX3_30 rfl rfl ?_
  refine ax_aloadn rfl rfl ?_
  refine ax_getI (g := 8) rfl fX3_36 rfl rfl rfl rfl ?_
  refine ax_iconst rfl ?_
  refine ax_iast' rfl rfl (by rw [c9 18 (by decide)]; omega) (fun M19 a19 b19 c19 => ?_)
  refine ax_iconst rfl ?_
  refine ax_istoren (ls' := [(0, _), (1, _), (2, _)]) rfl rfl rfl ?_
  rw [hz] at a9 b9
  rw [c9 18 (by decide), hz] at a19 b19
  refine l_X3_mark E d M z hz hz0 hW hx hy hv hw (M 13 4).toNat 0 M19 (by omega) (by omega) ⟨?_, ?_, fun j hj => by rw [c19 24 (by decide), b9 j hj], fun j hj => by rw [b19 j hj, c9 25 (by decide)], fun k k0 k1 => by rw [c19 k k1, c9 k k0]⟩
  · rw [c19 24 (by decide), a9]; exact bset_nil (by omega)
  · rw [a19]; exact bset_nil (by omega)
set_option maxRecDepth 100000 in
set_option maxHeartbeats 800000 in
theorem l_X3_addRay (E : av_E) (d : Nat) (M : av_M) (x y z : Int) (hr : 0 ≤ M 18 9 ∧ M 18 9 < 90) (hW : WI (M 14) (M 15) (M 16) (M 17) (M 13 4) (M 13 5)) (hx : -200 ≤ x ∧ x ≤ 200) (hy : -200 ≤ y ∧ y ≤ 200) (hz : -200 ≤ z ∧ z ≤ 200) : ∀ (t : Nat) (n v : Int), n + t = M 13 4 → 0 ≤ n → bset (PR M x y z) n v → av_S E (d + 1) mX3_addRay 16 [(0, vR 18), (1, vR 13), (2, vI x), (3, vI y), (4, vI z), (5, vI v), (6, vI n)] [] M (fun res M' => res = none ∧ M' 18 9 = M 18 9 + 1 ∧ (∀ f, f ≠ 9 → M' 18 f = M 18 f) ∧ bset (PR M x y z) (M 13 4) (M' 26 (M 18 9)) ∧ (∀ j, j ≠ M 18 9 → M' 26 j = M 26 j) ∧ ∀ k, k ≠ 18 → k ≠ 26 → M' k = M k) := by
  have hs := hW.2.1
  intro t
  induction t with
  | zero =>
    intro n v hi n0 g1
    have en : n = M 13 4 := by omega
    subst en
    refine ax_iload rfl rfl ?_
    refine ax_aloadn rfl rfl ?_
    refine ax_getI (g := 4) rfl fX3_43 rfl rfl rfl rfl ?_
    refine ax_icmp_ge rfl (by omega) (by omega) (fun h22 => ?_) (fun h22 => ?_)
    · refine ax_aloadn rfl rfl ?_
      refine ax_getR rfl fX3_33 rfl rfl ?_
      refine ax_aloadn rfl rfl ?_
      refine ax_getI (g := 9) rfl fX3_40 rfl rfl rfl rfl ?_
      refine ax_iload rfl rfl ?_
      refine ax_iast' rfl rfl (by omega) (fun M64 a64 b64 c64 => ?_)
      refine ax_aloadn rfl rfl ?_
      refine ax_dup rfl rfl ?_
      refine ax_getI (g := 9) rfl fX3_40 rfl rfl rfl rfl ?_
      refine ax_iconst rfl ?_
      refine ax_iadd rfl ?_
      refine ax_putI' (g := 9) rfl gX3_40 rfl rfl rfl rfl (fun M72 a72 b72 c72 => ?_)
      refine ax_vret rfl rfl ?_
      exact ⟨rfl, by rw [a72, c64 18 (by decide)], fun f hf => by rw [b72 f hf, c64 18 (by decide)], by rw [c72 26 (by decide), a64]; exact g1, fun j hj => by rw [c72 26 (by decide), b64 j hj], fun k k0 k1 => by rw [c72 k k0, c64 k k1]⟩
    · omega
  | succ t ih =>
    intro n v hi n0 g1
    have b := hW.2.2.1 n n0 (by omega)
    have er := exI_rng (x := x) (y := y) (z := z) (w := 0) b.1 b.2.1 b.2.2.1 b.2.2.2.1 (by omega) (by omega) (by omega) (by omega)
    have ex : M 14 n * x + M 15 n * y + M 16 n * z - M 17 n * 0 = exI (M 14) (M 15) (M 16) (M 17) n x y z 0 := rfl
    have hnn : ((n.toNat : Nat) : Int) = n := by omega
    have pB : PR M x y z n.toNat ↔ 0 < exI (M 14) (M 15) (M 16) (M 17) n x y z 0 := by unfold PR; rw [hnn]
    refine ax_iload rfl rfl ?_
    refine ax_aloadn rfl rfl ?_
    refine ax_getI (g := 4) rfl fX3_43 rfl rfl rfl rfl ?_
    refine ax_icmp_ge rfl (by omega) (by omega) (fun h22 => ?_) (fun h22 => ?_)
    · omega
    · refine ax_aloadn rfl rfl ?_
      refine ax_iload rfl rfl ?_
      refine ax_iloadn rfl rfl ?_
      refine ax_iloadn rfl rfl ?_
      refine ax_iload rfl rfl ?_
      refine ax_iconst rfl ?_
      refine ax_callV (as := [_, _, _, _, _]) rfl vX3_74 hX6_excess rfl rfl rfl rfl rfl (c_X6_excess E d M n _ _ _ _ (by omega)) (av_Xk ?_)
      refine ax_if_le rfl (by rw [ex]; omega) (fun h36 => ?_) (fun h36 => ?_)
      · refine ax_iinc (ls' := [(0, _), (1, _), (2, _), (3, _), (4, _), (5, _), (6, _)]) rfl rfl rfl rfl ?_
        refine ax_goto rfl ?_
        rw [ex] at h36
        first
          | (obtain ⟨r, e1, e2⟩ := bset_in g1 (by omega) (pB.mpr (by omega))
             rw [e1]
             exact ih _ _ (by omega) (by omega) e2)
          | exact ih _ _ (by omega) (by omega) (bset_out g1 n0 (fun q => by have := pB.mp q; omega))
      · refine ax_iload rfl rfl ?_
        refine ax_iconst rfl ?_
        refine ax_iload rfl rfl ?_
        refine ax_ishl rfl ?_
        refine ax_ior rfl ?_
        refine ax_istore (ls' := [(0, _), (1, _), (2, _), (3, _), (4, _), (5, _), (6, _)]) rfl rfl rfl ?_
        refine ax_iinc (ls' := [(0, _), (1, _), (2, _), (3, _), (4, _), (5, _), (6, _)]) rfl rfl rfl rfl ?_
        refine ax_goto rfl ?_
        rw [ex] at h36
        first
          | (obtain ⟨r, e1, e2⟩ := bset_in g1 (by omega) (pB.mpr (by omega))
             rw [e1]
             exact ih _ _ (by omega) (by omega) e2)
          | exact ih _ _ (by omega) (by omega) (bset_out g1 n0 (fun q => by have := pB.mp q; omega))
set_option maxRecDepth 100000 in
set_option maxHeartbeats 800000 in
theorem c_X3_addRay (E : av_E) (d : Nat) (M : av_M) (x y z : Int) (hr : 0 ≤ M 18 9 ∧ M 18 9 < 90) (hW : WI (M 14) (M 15) (M 16) (M 17) (M 13 4) (M 13 5)) (hx : -200 ≤ x ∧ x ≤ 200) (hy : -200 ≤ y ∧ y ≤ 200) (hz : -200 ≤ z ∧ z ≤ 200) : av_Mt E (d + 1) mX3_addRay [vR 18, vR 13, vI x, vI y, vI z] M (fun res M' => res = none ∧ M' 18 9 = M 18 9 + 1 ∧ (∀ f, f ≠ 9 → M' 18 f = M 18 f) ∧ bset (PR M x y z) (M 13 4) (M' 26 (M 18 9)) ∧ (∀ j, j ≠ M 18 9 → M' 26 j = M 26 j) ∧ ∀ k, k ≠ 18 → k ≠ 26 → M' k = M k) := by
  have hs0 := hW.1
  refine av_enter hX3_addRay oX3_addRay rfl rfl ?_
  refine ax_aloadn rfl rfl ?_
  refine ax_getI (g := 9) rfl fX3_40 rfl rfl rfl rfl ?_
  refine ax_bipush rfl rfl ?_
  refine ax_icmp_lt rfl (by omega) (by omega) (fun h6 => ?_) (fun h6 => ?_)
  · refine ax_iconst rfl ?_
    refine ax_istore (ls' := [(0, _), (1, _), (2, _), (3, _), (4, _), (5, _)]) rfl rfl rfl ?_
    refine ax_iconst rfl ?_
    refine ax_istore (ls' := [(0, _), (1, _), (2, _), (3, _), (4, _), (5, _), (6, _)]) rfl rfl rfl ?_
    exact l_X3_addRay E d M x y z hr hW hx hy hz (M 13 4).toNat 0 0 (by omega) (by omega) (bset_nil (by omega))
  · omega
set_option maxRecDepth 100000 in
set_option maxHeartbeats 800000 in
theorem c_X3_addRays (E : av_E) (d : Nat) (M : av_M) (i j : Int) (hi : 0 ≤ i ∧ i < M 13 4) (hj : 0 ≤ j ∧ j < M 13 4) (hr : 0 ≤ M 18 9 ∧ M 18 9 + 2 ≤ 90) (hW : WI (M 14) (M 15) (M 16) (M 17) (M 13 4) (M 13 5)) (cov : Int → Int → Prop) (hR : MTR M cov) : av_Mt E (d + 2) mX3_addRays [vR 18, vR 13, vI i, vI j] M (fun res M' => res = none ∧ MTR M' (fun a b => cov a b ∨ (a = i ∧ b = j) ∨ (a = j ∧ b = i)) ∧ M 18 9 ≤ M' 18 9 ∧ M' 18 9 ≤ M 18 9 + 2 ∧ (∀ f, f ≠ 9 → M' 18 f = M 18 f) ∧ ∀ k, k ≠ 18 → k ≠ 26 → M' k = M k) := by
  have hs := hW.2.1
  have bi := hW.2.2.1 i hi.1 hi.2
  have bj := hW.2.2.1 j hj.1 hj.2
  have m1 := mb bi.2.1 bj.2.2.1
  have m2 := mb bi.2.2.1 bj.2.1
  have m3 := mb bi.2.2.1 bj.1
  have m4 := mb bi.1 bj.2.2.1
  have m5 := mb bi.1 bj.2.1
  have m6 := mb bi.2.1 bj.1
  refine av_enter hX3_addRays oX3_addRays rfl rfl ?_
  refine ax_aloadn rfl rfl ?_
  refine ax_getR rfl fX3_57 rfl rfl ?_
  refine ax_iloadn rfl rfl ?_
  refine ax_iald rfl rfl (by omega) ?_
  refine ax_aloadn rfl rfl ?_
  refine ax_getR rfl fX3_60 rfl rfl ?_
  refine ax_iloadn rfl rfl ?_
  refine ax_iald rfl rfl (by omega) ?_
  refine ax_imul rfl ?_
  refine ax_aloadn rfl rfl ?_
  refine ax_getR rfl fX3_60 rfl rfl ?_
  refine ax_iloadn rfl rfl ?_
  refine ax_iald rfl rfl (by omega) ?_
  refine ax_aloadn rfl rfl ?_
  refine ax_getR rfl fX3_57 rfl rfl ?_
  refine ax_iloadn rfl rfl ?_
  refine ax_iald rfl rfl (by omega) ?_
  refine ax_imul rfl ?_
  refine ax_isub rfl ?_
  refine ax_istore (ls' := [(0, _), (1, _), (2, _), (3, _), (4, _)]) rfl rfl rfl ?_
  refine ax_aloadn rfl rfl ?_
  refine ax_getR rfl fX3_60 rfl rfl ?_
  refine ax_iloadn rfl rfl ?_
  refine ax_iald rfl rfl (by omega) ?_
  refine ax_aloadn rfl rfl ?_
  refine ax_getR rfl fX3_54 rfl rfl ?_
  refine ax_iloadn rfl rfl ?_
  refine ax_iald rfl rfl (by omega) ?_
  refine ax_imul rfl ?_
  refine ax_aloadn rfl rfl ?_
  refine ax_getR rfl fX3_54 rfl rfl ?_
  refine ax_iloadn rfl rfl ?_
  refine ax_iald rfl rfl (by omega) ?_
  refine ax_aloadn rfl rfl ?_
  refine ax_getR rfl fX3_60 rfl rfl ?_
  refine ax_iloadn rfl rfl ?_
  refine ax_iald rfl rfl (by omega) ?_
  refine ax_imul rfl ?_
  refine ax_isub rfl ?_
  refine ax_istore (ls' := [(0, _), (1, _), (2, _), (3, _), (4, _), (5, _)]) rfl rfl rfl ?_
  refine ax_aloadn rfl rfl ?_
  refine ax_getR rfl fX3_54 rfl rfl ?_
  refine ax_iloadn rfl rfl ?_
  refine ax_iald rfl rfl (by omega) ?_
  refine ax_aloadn rfl rfl ?_
  refine ax_getR rfl fX3_57 rfl rfl ?_
  refine ax_iloadn rfl rfl ?_
  refine ax_iald rfl rfl (by omega) ?_
  refine ax_imul rfl ?_
  refine ax_aloadn rfl rfl ?_
  refine ax_getR rfl fX3_57 rfl rfl ?_
  refine ax_iloadn rfl rfl ?_
  refine ax_iald rfl rfl (by omega) ?_
  refine ax_aloadn rfl rfl ?_
  refine ax_getR rfl fX3_54 rfl rfl ?_
  refine ax_iloadn rfl rfl ?_
  refine ax_iald rfl rfl (by omega) ?_
  refine ax_imul rfl ?_
  refine ax_isub rfl ?_
  refine ax_istore (ls' := [(0, _), (1, _), (2, _), (3, _), (4, _), (5, _), (6, _)]) rfl rfl rfl ?_
  refine ax_iload rfl rfl ?_
  refine ax_if_ne rfl (by omega) (fun h89 => ?_) (fun h89 => ?_)
  · refine ax_aloadn rfl rfl ?_
    refine ax_aloadn rfl rfl ?_
    refine ax_iload rfl rfl ?_
    refine ax_iload rfl rfl ?_
    refine ax_iload rfl rfl ?_
    refine ax_callV (as := [_, _, _, _]) rfl vX3_78 hX3_addRay rfl rfl rfl rfl rfl (c_X3_addRay E d M _ _ _ (by omega) hW (by omega) (by omega) (by omega)) (fun r111 M111 hr111 => ?_)
    obtain ⟨rfl, p2, p3, p4, p5, p6⟩ := hr111
    refine ax_aloadn rfl rfl ?_
    refine ax_aloadn rfl rfl ?_
    refine ax_iload rfl rfl ?_
    refine ax_ineg rfl ?_
    refine ax_iload rfl rfl ?_
    refine ax_ineg rfl ?_
    refine ax_iload rfl rfl ?_
    refine ax_ineg rfl ?_
    refine ax_callV (as := [_, _, _, _]) rfl vX3_78 hX3_addRay rfl rfl rfl rfl rfl (c_X3_addRay E d M111 _ _ _ (by omega) (by rw [p6 13 (by decide) (by decide), p6 14 (by decide) (by decide), p6 15 (by decide) (by decide), p6 16 (by decide) (by decide), p6 17 (by decide) (by decide)]; exact hW) (by omega) (by omega) (by omega)) (fun r125 M125 hr125 => ?_)
    obtain ⟨rfl, q2, q3, q4, q5, q6⟩ := hr125
    refine ax_vret rfl rfl ?_
    have f13 : M125 13 = M 13 := by rw [q6 13 (by decide) (by decide), p6 13 (by decide) (by decide)]
    have f14 : M125 14 = M 14 := by rw [q6 14 (by decide) (by decide), p6 14 (by decide) (by decide)]
    have f15 : M125 15 = M 15 := by rw [q6 15 (by decide) (by decide), p6 15 (by decide) (by decide)]
    have f16 : M125 16 = M 16 := by rw [q6 16 (by decide) (by decide), p6 16 (by decide) (by decide)]
    refine ⟨rfl, ?_, by omega, by omega, fun f hf => by rw [q3 f hf, p3 f hf], fun k k0 k1 => by rw [q6 k k0 k1, p6 k k0 k1]⟩
    unfold MTR at hR ⊢
    rw [f13, f14, f15, f16, q2]
    rw [p2] at q5 q4 ⊢
    have r1 : RI (M 14) (M 15) (M 16) (M 13 4) (M111 26) (M 18 9 + 1) (fun a b => cov a b ∨ (a = i ∧ b = j)) := RI_add hR p5 ⟨⟨by omega, by omega, by omega, by omega⟩, by omega, bset_congr p4 (fun t ht => by
      unfold PR
      rw [show exI (M 14) (M 15) (M 16) (M 17) (t : Int) (M 15 i * M 16 j - M 16 i * M 15 j) (M 16 i * M 14 j - M 14 i * M 16 j) (M 14 i * M 15 j - M 15 i * M 14 j) 0 = M 14 t * (M 15 i * M 16 j - M 16 i * M 15 j) + M 15 t * (M 16 i * M 14 j - M 14 i * M 16 j) + M 16 t * (M 14 i * M 15 j - M 15 i * M 14 j) by unfold exI; omega])⟩ (fun a b q => q)
    refine RI_add r1 q5 (i := j) (j := i) ⟨⟨by omega, by omega, by omega, by omega⟩, ?_, ?_⟩ (fun a b q => ?_)
    · have e1 : M 15 j * M 16 i - M 16 j * M 15 i = -(M 15 i * M 16 j - M 16 i * M 15 j) := by grind
      have e2 : M 16 j * M 14 i - M 14 j * M 16 i = -(M 16 i * M 14 j - M 14 i * M 16 j) := by grind
      have e3 : M 14 j * M 15 i - M 15 j * M 14 i = -(M 14 i * M 15 j - M 15 i * M 14 j) := by grind
      rw [e1, e2, e3]
      omega
    · have g13 : M111 13 = M 13 := p6 13 (by decide) (by decide)
      have g14 : M111 14 = M 14 := p6 14 (by decide) (by decide)
      have g15 : M111 15 = M 15 := p6 15 (by decide) (by decide)
      have g16 : M111 16 = M 16 := p6 16 (by decide) (by decide)
      have g17 : M111 17 = M 17 := p6 17 (by decide) (by decide)
      rw [g13] at q4
      refine bset_congr q4 (fun t ht => ?_)
      unfold PR
      rw [g14, g15, g16, g17]
      rw [show exI (M 14) (M 15) (M 16) (M 17) (t : Int) (-(M 15 i * M 16 j - M 16 i * M 15 j)) (-(M 16 i * M 14 j - M 14 i * M 16 j)) (-(M 14 i * M 15 j - M 15 i * M 14 j)) 0 = M 14 t * (M 15 j * M 16 i - M 16 j * M 15 i) + M 15 t * (M 16 j * M 14 i - M 14 j * M 16 i) + M 16 t * (M 14 j * M 15 i - M 15 j * M 14 i) by unfold exI; grind]
    · rcases q with q | q | q
      · exact Or.inl (Or.inl q)
      · exact Or.inl (Or.inr q)
      · exact Or.inr q
  · refine ax_iload rfl rfl ?_
    refine ax_if_ne rfl (by omega) (fun h94 => ?_) (fun h94 => ?_)
    · refine ax_aloadn rfl rfl ?_
      refine ax_aloadn rfl rfl ?_
      refine ax_iload rfl rfl ?_
      refine ax_iload rfl rfl ?_
      refine ax_iload rfl rfl ?_
      refine ax_callV (as := [_, _, _, _]) rfl vX3_78 hX3_addRay rfl rfl rfl rfl rfl (c_X3_addRay E d M _ _ _ (by omega) hW (by omega) (by omega) (by omega)) (fun r111 M111 hr111 => ?_)
      obtain ⟨rfl, p2, p3, p4, p5, p6⟩ := hr111
      refine ax_aloadn rfl rfl ?_
      refine ax_aloadn rfl rfl ?_
      refine ax_iload rfl rfl ?_
      refine ax_ineg rfl ?_
      refine ax_iload rfl rfl ?_
      refine ax_ineg rfl ?_
      refine ax_iload rfl rfl ?_
      refine ax_ineg rfl ?_
      refine ax_callV (as := [_, _, _, _]) rfl vX3_78 hX3_addRay rfl rfl rfl rfl rfl (c_X3_addRay E d M111 _ _ _ (by omega) (by rw [p6 13 (by decide) (by decide), p6 14 (by decide) (by decide), p6 15 (by decide) (by decide), p6 16 (by decide) (by decide), p6 17 (by decide) (by decide)]; exact hW) (by omega) (by omega) (by omega)) (fun r125 M125 hr125 => ?_)
      obtain ⟨rfl, q2, q3, q4, q5, q6⟩ := hr125
      refine ax_vret rfl rfl ?_
      have f13 : M125 13 = M 13 := by rw [q6 13 (by decide) (by decide), p6 13 (by decide) (by decide)]
      have f14 : M125 14 = M 14 := by rw [q6 14 (by decide) (by decide), p6 14 (by decide) (by decide)]
      have f15 : M125 15 = M 15 := by rw [q6 15 (by decide) (by decide), p6 15 (by decide) (by decide)]
      have f16 : M125 16 = M 16 := by rw [q6 16 (by decide) (by decide), p6 16 (by decide) (by decide)]
      refine ⟨rfl, ?_, by omega, by omega, fun f hf => by rw [q3 f hf, p3 f hf], fun k k0 k1 => by rw [q6 k k0 k1, p6 k k0 k1]⟩
      unfold MTR at hR ⊢
      rw [f13, f14, f15, f16, q2]
      rw [p2] at q5 q4 ⊢
      have r1 : RI (M 14) (M 15) (M 16) (M 13 4) (M111 26) (M 18 9 + 1) (fun a b => cov a b ∨ (a = i ∧ b = j)) := RI_add hR p5 ⟨⟨by omega, by omega, by omega, by omega⟩, by omega, bset_congr p4 (fun t ht => by
        unfold PR
        rw [show exI (M 14) (M 15) (M 16) (M 17) (t : Int) (M 15 i * M 16 j - M 16 i * M 15 j) (M 16 i * M 14 j - M 14 i * M 16 j) (M 14 i * M 15 j - M 15 i * M 14 j) 0 = M 14 t * (M 15 i * M 16 j - M 16 i * M 15 j) + M 15 t * (M 16 i * M 14 j - M 14 i * M 16 j) + M 16 t * (M 14 i * M 15 j - M 15 i * M 14 j) by unfold exI; omega])⟩ (fun a b q => q)
      refine RI_add r1 q5 (i := j) (j := i) ⟨⟨by omega, by omega, by omega, by omega⟩, ?_, ?_⟩ (fun a b q => ?_)
      · have e1 : M 15 j * M 16 i - M 16 j * M 15 i = -(M 15 i * M 16 j - M 16 i * M 15 j) := by grind
        have e2 : M 16 j * M 14 i - M 14 j * M 16 i = -(M 16 i * M 14 j - M 14 i * M 16 j) := by grind
        have e3 : M 14 j * M 15 i - M 15 j * M 14 i = -(M 14 i * M 15 j - M 15 i * M 14 j) := by grind
        rw [e1, e2, e3]
        omega
      · have g13 : M111 13 = M 13 := p6 13 (by decide) (by decide)
        have g14 : M111 14 = M 14 := p6 14 (by decide) (by decide)
        have g15 : M111 15 = M 15 := p6 15 (by decide) (by decide)
        have g16 : M111 16 = M 16 := p6 16 (by decide) (by decide)
        have g17 : M111 17 = M 17 := p6 17 (by decide) (by decide)
        rw [g13] at q4
        refine bset_congr q4 (fun t ht => ?_)
        unfold PR
        rw [g14, g15, g16, g17]
        rw [show exI (M 14) (M 15) (M 16) (M 17) (t : Int) (-(M 15 i * M 16 j - M 16 i * M 15 j)) (-(M 16 i * M 14 j - M 14 i * M 16 j)) (-(M 14 i * M 15 j - M 15 i * M 14 j)) 0 = M 14 t * (M 15 j * M 16 i - M 16 j * M 15 i) + M 15 t * (M 16 j * M 14 i - M 14 j * M 16 i) + M 16 t * (M 14 j * M 15 i - M 15 j * M 14 i) by unfold exI; grind]
      · rcases q with q | q | q
        · exact Or.inl (Or.inl q)
        · exact Or.inl (Or.inr q)
        · exact Or.inr q
    · refine ax_iload rfl rfl ?_
      refine ax_if_ne rfl (by omega) (fun h99 => ?_) (fun h99 => ?_)
      · refine ax_aloadn rfl rfl ?_
        refine ax_aloadn rfl rfl ?_
        refine ax_iload rfl rfl ?_
        refine ax_iload rfl rfl ?_
        refine ax_iload rfl rfl ?_
        refine ax_callV (as := [_, _, _, _]) rfl vX3_78 hX3_addRay rfl rfl rfl rfl rfl (c_X3_addRay E d M _ _ _ (by omega) hW (by omega) (by omega) (by omega)) (fun r111 M111 hr111 => ?_)
        obtain ⟨rfl, p2, p3, p4, p5, p6⟩ := hr111
        refine ax_aloadn rfl rfl ?_
        refine ax_aloadn rfl rfl ?_
        refine ax_iload rfl rfl ?_
        refine ax_ineg rfl ?_
        refine ax_iload rfl rfl ?_
        refine ax_ineg rfl ?_
        refine ax_iload rfl rfl ?_
        refine ax_ineg rfl ?_
        refine ax_callV (as := [_, _, _, _]) rfl vX3_78 hX3_addRay rfl rfl rfl rfl rfl (c_X3_addRay E d M111 _ _ _ (by omega) (by rw [p6 13 (by decide) (by decide), p6 14 (by decide) (by decide), p6 15 (by decide) (by decide), p6 16 (by decide) (by decide), p6 17 (by decide) (by decide)]; exact hW) (by omega) (by omega) (by omega)) (fun r125 M125 hr125 => ?_)
        obtain ⟨rfl, q2, q3, q4, q5, q6⟩ := hr125
        refine ax_vret rfl rfl ?_
        have f13 : M125 13 = M 13 := by rw [q6 13 (by decide) (by decide), p6 13 (by decide) (by decide)]
        have f14 : M125 14 = M 14 := by rw [q6 14 (by decide) (by decide), p6 14 (by decide) (by decide)]
        have f15 : M125 15 = M 15 := by rw [q6 15 (by decide) (by decide), p6 15 (by decide) (by decide)]
        have f16 : M125 16 = M 16 := by rw [q6 16 (by decide) (by decide), p6 16 (by decide) (by decide)]
        refine ⟨rfl, ?_, by omega, by omega, fun f hf => by rw [q3 f hf, p3 f hf], fun k k0 k1 => by rw [q6 k k0 k1, p6 k k0 k1]⟩
        unfold MTR at hR ⊢
        rw [f13, f14, f15, f16, q2]
        rw [p2] at q5 q4 ⊢
        have r1 : RI (M 14) (M 15) (M 16) (M 13 4) (M111 26) (M 18 9 + 1) (fun a b => cov a b ∨ (a = i ∧ b = j)) := RI_add hR p5 ⟨⟨by omega, by omega, by omega, by omega⟩, by omega, bset_congr p4 (fun t ht => by
          unfold PR
          rw [show exI (M 14) (M 15) (M 16) (M 17) (t : Int) (M 15 i * M 16 j - M 16 i * M 15 j) (M 16 i * M 14 j - M 14 i * M 16 j) (M 14 i * M 15 j - M 15 i * M 14 j) 0 = M 14 t * (M 15 i * M 16 j - M 16 i * M 15 j) + M 15 t * (M 16 i * M 14 j - M 14 i * M 16 j) + M 16 t * (M 14 i * M 15 j - M 15 i * M 14 j) by unfold exI; omega])⟩ (fun a b q => q)
        refine RI_add r1 q5 (i := j) (j := i) ⟨⟨by omega, by omega, by omega, by omega⟩, ?_, ?_⟩ (fun a b q => ?_)
        · have e1 : M 15 j * M 16 i - M 16 j * M 15 i = -(M 15 i * M 16 j - M 16 i * M 15 j) := by grind
          have e2 : M 16 j * M 14 i - M 14 j * M 16 i = -(M 16 i * M 14 j - M 14 i * M 16 j) := by grind
          have e3 : M 14 j * M 15 i - M 15 j * M 14 i = -(M 14 i * M 15 j - M 15 i * M 14 j) := by grind
          rw [e1, e2, e3]
          omega
        · have g13 : M111 13 = M 13 := p6 13 (by decide) (by decide)
          have g14 : M111 14 = M 14 := p6 14 (by decide) (by decide)
          have g15 : M111 15 = M 15 := p6 15 (by decide) (by decide)
          have g16 : M111 16 = M 16 := p6 16 (by decide) (by decide)
          have g17 : M111 17 = M 17 := p6 17 (by decide) (by decide)
          rw [g13] at q4
          refine bset_congr q4 (fun t ht => ?_)
          unfold PR
          rw [g14, g15, g16, g17]
          rw [show exI (M 14) (M 15) (M 16) (M 17) (t : Int) (-(M 15 i * M 16 j - M 16 i * M 15 j)) (-(M 16 i * M 14 j - M 14 i * M 16 j)) (-(M 14 i * M 15 j - M 15 i * M 14 j)) 0 = M 14 t * (M 15 j * M 16 i - M 16 j * M 15 i) + M 15 t * (M 16 j * M 14 i - M 14 j * M 16 i) + M 16 t * (M 14 j * M 15 i - M 15 j * M 14 i) by unfold exI; grind]
        · rcases q with q | q | q
          · exact Or.inl (Or.inl q)
          · exact Or.inl (Or.inr q)
          · exact Or.inr q
      · refine ax_vret rfl rfl ?_
        refine ⟨rfl, RI_mono hR (fun a b a0 a1 b0 b1 hv q => ?_), by omega, by omega, fun f hf => rfl, fun k k0 k1 => rfl⟩
        rcases q with q | ⟨rfl, rfl⟩ | ⟨rfl, rfl⟩
        · exact q
        · exact absurd ⟨by omega, by omega, by omega⟩ hv
        · exact absurd ⟨by grind, by grind, by grind⟩ hv
set_option maxRecDepth 100000 in
set_option maxHeartbeats 800000 in
theorem s_X3_addMeet (E : av_E) (d : Nat) (M : av_M) (i j k : Int) (ho : 0 ≤ i ∧ i < j ∧ j < k ∧ k < M 13 4) (hz : 0 ≤ M 18 8 ∧ M 18 8 < 120) (hW : WI (M 14) (M 15) (M 16) (M 17) (M 13 4) (M 13 5)) (cov : Int → Int → Int → Prop) (hT : MTI M cov) (sg : Int) (hsg : sg = 1 ∨ sg = -1) (hv : 0 < sg * vol (M 14) (M 15) (M 16) i j k) : av_S E (d + 2) mX3_addMeet 48 [(0, vR 18), (1, vR 13), (2, vI i), (3, vI j), (4, vI k), (5, vI (vol (M 14) (M 15) (M 16) i j k)), (6, vI sg)] [] M (fun res M' => res = none ∧ MTI M' (fun a b c => cov a b c ∨ (a = i ∧ b = j ∧ c = k)) ∧ M 18 8 ≤ M' 18 8 ∧ M' 18 8 ≤ M 18 8 + 1 ∧ (∀ f, f ≠ 8 → M' 18 f = M 18 f) ∧ M' 26 = M 26 ∧ (∀ k, k ≠ 18 → k ≠ 19 → k ≠ 20 → k ≠ 21 → k ≠ 22 → k ≠ 23 → k ≠ 24 → k ≠ 25 → k ≠ 26 → M' k = M k)) := by
  have hs := hW.2.1
  have bi := hW.2.2.1 i (by omega) (by omega)
  have bj := hW.2.2.1 j (by omega) (by omega)
  have bk := hW.2.2.1 k (by omega) (by omega)
  have fA : ∀ n, n = i ∨ n = j ∨ n = k → -9 ≤ M 14 n ∧ M 14 n ≤ 9 := fun n hn => by rcases hn with rfl | rfl | rfl <;> omega
  have fB : ∀ n, n = i ∨ n = j ∨ n = k → -9 ≤ M 15 n ∧ M 15 n ≤ 9 := fun n hn => by rcases hn with rfl | rfl | rfl <;> omega
  have fC : ∀ n, n = i ∨ n = j ∨ n = k → -9 ≤ M 16 n ∧ M 16 n ≤ 9 := fun n hn => by rcases hn with rfl | rfl | rfl <;> omega
  have fD : ∀ n, n = i ∨ n = j ∨ n = k → -99 ≤ M 17 n ∧ M 17 n ≤ 99 := fun n hn => by rcases hn with rfl | rfl | rfl <;> omega
  have v0 := vol_rng fA fB fC
  have v1 := vol_rng fD fB fC
  have v2 := vol_rng fA fD fC
  have v3 := vol_rng fA fB fD
  have w1 : -50000 ≤ sg * vol (M 17) (M 15) (M 16) i j k ∧ sg * vol (M 17) (M 15) (M 16) i j k ≤ 50000 := by rcases hsg with rfl | rfl <;> omega
  have w2 : -50000 ≤ sg * vol (M 14) (M 17) (M 16) i j k ∧ sg * vol (M 14) (M 17) (M 16) i j k ≤ 50000 := by rcases hsg with rfl | rfl <;> omega
  have w3 : -50000 ≤ sg * vol (M 14) (M 15) (M 17) i j k ∧ sg * vol (M 14) (M 15) (M 17) i j k ≤ 50000 := by rcases hsg with rfl | rfl <;> omega
  have w0 : sg * vol (M 14) (M 15) (M 16) i j k ≤ 5000 := by rcases hsg with rfl | rfl <;> omega
  refine ax_aloadn rfl rfl ?_
  refine ax_getR rfl fX3_9 rfl rfl ?_
  refine ax_aloadn rfl rfl ?_
  refine ax_getI (g := 8) rfl fX3_36 rfl rfl rfl rfl ?_
  refine ax_iload rfl rfl ?_
  refine ax_aloadn rfl rfl ?_
  refine ax_getR rfl fX3_67 rfl rfl ?_
  refine ax_aloadn rfl rfl ?_
  refine ax_getR rfl fX3_57 rfl rfl ?_
  refine ax_aloadn rfl rfl ?_
  refine ax_getR rfl fX3_60 rfl rfl ?_
  refine ax_iloadn rfl rfl ?_
  refine ax_iloadn rfl rfl ?_
  refine ax_iload rfl rfl ?_
  refine ax_callS (as := [_, _, _, _, _, _]) rfl sX3_63 hX3_volume rfl rfl rfl rfl (c_X3_volume_x E (d + 1) M i j k (by omega) (by omega) (by omega)) (av_Xk ?_)
  refine ax_imul rfl ?_
  refine ax_iast' rfl rfl (by omega) (fun M78 a78 b78 c78 => ?_)
  refine ax_aloadn rfl rfl ?_
  refine ax_getR rfl fX3_15 rfl rfl ?_
  refine ax_aloadn rfl rfl ?_
  refine ax_getI (g := 8) rfl fX3_36 rfl rfl rfl rfl ?_
  refine ax_iload rfl rfl ?_
  refine ax_aloadn rfl rfl ?_
  refine ax_getR rfl fX3_54 rfl rfl ?_
  refine ax_aloadn rfl rfl ?_
  refine ax_getR rfl fX3_67 rfl rfl ?_
  refine ax_aloadn rfl rfl ?_
  refine ax_getR rfl fX3_60 rfl rfl ?_
  refine ax_iloadn rfl rfl ?_
  refine ax_iloadn rfl rfl ?_
  refine ax_iload rfl rfl ?_
  refine ax_callS (as := [_, _, _, _, _, _]) rfl sX3_63 hX3_volume rfl rfl rfl rfl (c_X3_volume_y E (d + 1) M78 i j k (by omega) (by omega) (by omega)) (av_Xk ?_)
  refine ax_imul rfl ?_
  refine ax_iast' rfl rfl (by rw [c78 18 (by decide)]; omega) (fun M109 a109 b109 c109 => ?_)
  refine ax_aloadn rfl rfl ?_
  refine ax_getR rfl fX3_18 rfl rfl ?_
  refine ax_aloadn rfl rfl ?_
  refine ax_getI (g := 8) rfl fX3_36 rfl rfl rfl rfl ?_
  refine ax_iload rfl rfl ?_
  refine ax_aloadn rfl rfl ?_
  refine ax_getR rfl fX3_54 rfl rfl ?_
  refine ax_aloadn rfl rfl ?_
  refine ax_getR rfl fX3_57 rfl rfl ?_
  refine ax_aloadn rfl rfl ?_
  refine ax_getR rfl fX3_67 rfl rfl ?_
  refine ax_iloadn rfl rfl ?_
  refine ax_iloadn rfl rfl ?_
  refine ax_iload rfl rfl ?_
  refine ax_callS (as := [_, _, _, _, _, _]) rfl sX3_63 hX3_volume rfl rfl rfl rfl (c_X3_volume_z E (d + 1) M109 i j k (by omega) (by omega) (by omega)) (av_Xk ?_)
  refine ax_imul rfl ?_
  refine ax_iast' rfl rfl (by rw [c109 18 (by decide), c78 18 (by decide)]; omega) (fun M140 a140 b140 c140 => ?_)
  refine ax_aloadn rfl rfl ?_
  refine ax_getR rfl fX3_21 rfl rfl ?_
  refine ax_aloadn rfl rfl ?_
  refine ax_getI (g := 8) rfl fX3_36 rfl rfl rfl rfl ?_
  refine ax_iload rfl rfl ?_
  refine ax_iload rfl rfl ?_
  refine ax_imul rfl ?_
  refine ax_iast' rfl rfl (by rw [c140 18 (by decide), c109 18 (by decide), c78 18 (by decide)]; omega) (fun M154 a154 b154 c154 => ?_)
  refine ax_aloadn rfl rfl ?_
  refine ax_getR rfl fX3_24 rfl rfl ?_
  refine ax_aloadn rfl rfl ?_
  refine ax_getI (g := 8) rfl fX3_36 rfl rfl rfl rfl ?_
  refine ax_iconst rfl ?_
  refine ax_iloadn rfl rfl ?_
  refine ax_ishl rfl ?_
  refine ax_iconst rfl ?_
  refine ax_iloadn rfl rfl ?_
  refine ax_ishl rfl ?_
  refine ax_ior rfl ?_
  refine ax_iconst rfl ?_
  refine ax_iload rfl rfl ?_
  refine ax_ishl rfl ?_
  refine ax_ior rfl ?_
  refine ax_iast' rfl rfl (by rw [c154 18 (by decide), c140 18 (by decide), c109 18 (by decide), c78 18 (by decide)]; omega) (fun M175 a175 b175 c175 => ?_)
  have e18 : M175 18 = M 18 := by rw [c175 18 (by decide), c154 18 (by decide), c140 18 (by decide), c109 18 (by decide), c78 18 (by decide)]
  have e13 : M175 13 = M 13 := by rw [c175 13 (by decide), c154 13 (by decide), c140 13 (by decide), c109 13 (by decide), c78 13 (by decide)]
  have e14 : M175 14 = M 14 := by rw [c175 14 (by decide), c154 14 (by decide), c140 14 (by decide), c109 14 (by decide), c78 14 (by decide)]
  have e15 : M175 15 = M 15 := by rw [c175 15 (by decide), c154 15 (by decide), c140 15 (by decide), c109 15 (by decide), c78 15 (by decide)]
  have e16 : M175 16 = M 16 := by rw [c175 16 (by decide), c154 16 (by decide), c140 16 (by decide), c109 16 (by decide), c78 16 (by decide)]
  have e17 : M175 17 = M 17 := by rw [c175 17 (by decide), c154 17 (by decide), c140 17 (by decide), c109 17 (by decide), c78 17 (by decide)]
  rw [c78 18 (by decide)] at a109 b109
  rw [c78 14 (by decide), c78 17 (by decide), c78 16 (by decide)] at a109
  rw [c109 18 (by decide), c78 18 (by decide)] at a140 b140
  rw [c109 14 (by decide), c78 14 (by decide), c109 15 (by decide), c78 15 (by decide), c109 17 (by decide), c78 17 (by decide)] at a140
  rw [c140 18 (by decide), c109 18 (by decide), c78 18 (by decide)] at a154 b154
  rw [c154 18 (by decide), c140 18 (by decide), c109 18 (by decide), c78 18 (by decide)] at a175 b175
  have x19 : M175 19 = M78 19 := by rw [c175 19 (by decide), c154 19 (by decide), c140 19 (by decide), c109 19 (by decide)]
  have x20 : M175 20 = M109 20 := by rw [c175 20 (by decide), c154 20 (by decide), c140 20 (by decide)]
  have x21 : M175 21 = M140 21 := by rw [c175 21 (by decide), c154 21 (by decide)]
  have x22 : M175 22 = M154 22 := by rw [c175 22 (by decide)]
  refine ax_aloadn rfl rfl ?_
  refine ax_aloadn rfl rfl ?_
  refine ax_callV (as := [_]) rfl vX3_70 hX3_mark rfl rfl rfl rfl rfl (c_X3_mark E d M175 (M 18 8) (by rw [e18]) hz (by rw [e13, e14, e15, e16, e17]; exact hW) (by rw [x19, a78]; exact w1) (by rw [x20, a109]; exact w2) (by rw [x21, a140]; exact w3) (by rw [x22, a154]; exact ⟨hv, w0⟩)) (fun r178 M178 hr178 => ?_)
  obtain ⟨rfl, g1, g2, g3, g4, g5⟩ := hr178
  refine ax_aloadn rfl rfl ?_
  refine ax_dup rfl rfl ?_
  refine ax_getI (g := 8) rfl fX3_36 rfl rfl rfl rfl ?_
  refine ax_iconst rfl ?_
  refine ax_iadd rfl ?_
  refine ax_putI' (g := 8) rfl gX3_36 rfl rfl rfl rfl (fun M188 a188 b188 c188 => ?_)
  refine ax_vret rfl rfl ?_
  have y13 : M188 13 = M 13 := by rw [c188 13 (by decide), g5 13 (by decide) (by decide), e13]
  have y14 : M188 14 = M 14 := by rw [c188 14 (by decide), g5 14 (by decide) (by decide), e14]
  have y15 : M188 15 = M 15 := by rw [c188 15 (by decide), g5 15 (by decide) (by decide), e15]
  have y16 : M188 16 = M 16 := by rw [c188 16 (by decide), g5 16 (by decide) (by decide), e16]
  have y17 : M188 17 = M 17 := by rw [c188 17 (by decide), g5 17 (by decide) (by decide), e17]
  have y18 : M178 18 = M 18 := by rw [g5 18 (by decide) (by decide), e18]
  have y19 : M188 19 = M78 19 := by rw [c188 19 (by decide), g5 19 (by decide) (by decide), x19]
  have y20 : M188 20 = M109 20 := by rw [c188 20 (by decide), g5 20 (by decide) (by decide), x20]
  have y21 : M188 21 = M140 21 := by rw [c188 21 (by decide), g5 21 (by decide) (by decide), x21]
  have y22 : M188 22 = M154 22 := by rw [c188 22 (by decide), g5 22 (by decide) (by decide), x22]
  have y23 : M188 23 = M175 23 := by rw [c188 23 (by decide), g5 23 (by decide) (by decide)]
  have y24 : M188 24 = M178 24 := c188 24 (by decide)
  have y25 : M188 25 = M178 25 := c188 25 (by decide)
  rw [y18] at a188
  refine ⟨rfl, ?_, by omega, by omega, fun f hf => by rw [b188 f hf, y18], by rw [c188 26 (by decide), g5 26 (by decide) (by decide), c175 26 (by decide), c154 26 (by decide), c140 26 (by decide), c109 26 (by decide), c78 26 (by decide)], fun k k18 k19 k20 k21 k22 k23 k24 k25 k26 => by rw [c188 k k18, g5 k k24 k25, c175 k k23, c154 k k22, c140 k k21, c109 k k20, c78 k k19]⟩
  unfold MTI at hT ⊢
  rw [y13, y14, y15, y16, y17, a188, y24, y25, y23, y19, y20, y21, y22]
  unfold PB at g1
  unfold PT at g2
  rw [e13, e14, e15, e16, e17, x19, x20, x21, x22] at g1 g2
  refine MI_add hT b78 (fun m hm => by rw [b109 m hm, c78 20 (by decide)]) (fun m hm => by rw [b140 m hm, c109 21 (by decide), c78 21 (by decide)]) (fun m hm => by rw [b154 m hm, c140 22 (by decide), c109 22 (by decide), c78 22 (by decide)]) (fun m hm => by rw [b175 m hm, c154 23 (by decide), c140 23 (by decide), c109 23 (by decide), c78 23 (by decide)]) (fun m hm => by rw [g3 m hm, c175 24 (by decide), c154 24 (by decide), c140 24 (by decide), c109 24 (by decide), c78 24 (by decide)]) (fun m hm => by rw [g4 m hm, c175 25 (by decide), c154 25 (by decide), c140 25 (by decide), c109 25 (by decide), c78 25 (by decide)]) (MA_mk hW ho hsg hv a78 a109 a140 a154 a175 g1 g2) (fun a b c q => q)
set_option maxRecDepth 100000 in
set_option maxHeartbeats 800000 in
theorem c_X3_addMeet (E : av_E) (d : Nat) (M : av_M) (i j k : Int) (ho : 0 ≤ i ∧ i < j ∧ j < k ∧ k < M 13 4) (hz : 0 ≤ M 18 8 ∧ M 18 8 < 120) (hW : WI (M 14) (M 15) (M 16) (M 17) (M 13 4) (M 13 5)) (cov : Int → Int → Int → Prop) (hT : MTI M cov) : av_Mt E (d + 2) mX3_addMeet [vR 18, vR 13, vI i, vI j, vI k] M (fun res M' => res = none ∧ MTI M' (fun a b c => cov a b c ∨ (a = i ∧ b = j ∧ c = k)) ∧ M 18 8 ≤ M' 18 8 ∧ M' 18 8 ≤ M 18 8 + 1 ∧ (∀ f, f ≠ 8 → M' 18 f = M 18 f) ∧ M' 26 = M 26 ∧ (∀ k, k ≠ 18 → k ≠ 19 → k ≠ 20 → k ≠ 21 → k ≠ 22 → k ≠ 23 → k ≠ 24 → k ≠ 25 → k ≠ 26 → M' k = M k)) := by
  have hs := hW.2.1
  have bi := hW.2.2.1 i (by omega) (by omega)
  have bj := hW.2.2.1 j (by omega) (by omega)
  have bk := hW.2.2.1 k (by omega) (by omega)
  have fA : ∀ n, n = i ∨ n = j ∨ n = k → -9 ≤ M 14 n ∧ M 14 n ≤ 9 := fun n hn => by rcases hn with rfl | rfl | rfl <;> omega
  have fB : ∀ n, n = i ∨ n = j ∨ n = k → -9 ≤ M 15 n ∧ M 15 n ≤ 9 := fun n hn => by rcases hn with rfl | rfl | rfl <;> omega
  have fC : ∀ n, n = i ∨ n = j ∨ n = k → -9 ≤ M 16 n ∧ M 16 n ≤ 9 := fun n hn => by rcases hn with rfl | rfl | rfl <;> omega
  have v0 := vol_rng fA fB fC
  refine av_enter hX3_addMeet oX3_addMeet rfl rfl ?_
  refine ax_aloadn rfl rfl ?_
  refine ax_getR rfl fX3_54 rfl rfl ?_
  refine ax_aloadn rfl rfl ?_
  refine ax_getR rfl fX3_57 rfl rfl ?_
  refine ax_aloadn rfl rfl ?_
  refine ax_getR rfl fX3_60 rfl rfl ?_
  refine ax_iloadn rfl rfl ?_
  refine ax_iloadn rfl rfl ?_
  refine ax_iload rfl rfl ?_
  refine ax_callS (as := [_, _, _, _, _, _]) rfl sX3_63 hX3_volume rfl rfl rfl rfl (c_X3_volume_w E (d + 1) M i j k (by omega) (by omega) (by omega)) (av_Xk ?_)
  refine ax_istore (ls' := [(0, _), (1, _), (2, _), (3, _), (4, _), (5, _)]) rfl rfl rfl ?_
  refine ax_iload rfl rfl ?_
  refine ax_if_eq rfl (by omega) (fun h23 => ?_) (fun h23 => ?_)
  · refine ax_vret rfl rfl ?_
    first
      | exact ⟨rfl, MI_mono hT (fun a b c a0 ab bc cs hv q => by
          rcases q with q | ⟨rfl, rfl, rfl⟩
          · exact q
          · exact absurd (by omega) hv), by omega, by omega, fun f hf => rfl, rfl, fun k k18 k19 k20 k21 k22 k23 k24 k25 k26 => rfl⟩
      | (exfalso; omega)
  · refine ax_aloadn rfl rfl ?_
    refine ax_getI (g := 8) rfl fX3_36 rfl rfl rfl rfl ?_
    refine ax_bipush rfl rfl ?_
    refine ax_icmp_lt rfl (by omega) (by omega) (fun h32 => ?_) (fun h32 => ?_)
    · refine ax_iload rfl rfl ?_
      refine ax_if_le rfl (by omega) (fun h38 => ?_) (fun h38 => ?_)
      · refine ax_iconst rfl ?_
        refine ax_istore (ls' := [(0, _), (1, _), (2, _), (3, _), (4, _), (5, _), (6, _)]) rfl rfl rfl ?_
        first
          | exact s_X3_addMeet E d M i j k ho hz hW cov hT 1 (Or.inl rfl) (by omega)
          | exact s_X3_addMeet E d M i j k ho hz hW cov hT (-1) (Or.inr rfl) (by omega)
      · refine ax_iconst rfl ?_
        refine ax_goto rfl ?_
        refine ax_istore (ls' := [(0, _), (1, _), (2, _), (3, _), (4, _), (5, _), (6, _)]) rfl rfl rfl ?_
        first
          | exact s_X3_addMeet E d M i j k ho hz hW cov hT 1 (Or.inl rfl) (by omega)
          | exact s_X3_addMeet E d M i j k ho hz hW cov hT (-1) (Or.inr rfl) (by omega)
    · refine ax_vret rfl rfl ?_
      first
        | exact ⟨rfl, MI_mono hT (fun a b c a0 ab bc cs hv q => by
            rcases q with q | ⟨rfl, rfl, rfl⟩
            · exact q
            · exact absurd (by omega) hv), by omega, by omega, fun f hf => rfl, rfl, fun k k18 k19 k20 k21 k22 k23 k24 k25 k26 => rfl⟩
        | (exfalso; omega)
end
section
/-! ===== all meets found; what is asked of them ===== -/
theorem cj_le : ∀ i, i < 11 → ∀ j, j < 11 → cj i j ≤ cj i 10 := by decide +kernel
theorem ci_ss (i : Nat) : ci (i + 1) = ci i + cj i 10 := rfl
theorem ri_ss (i : Nat) : ri (i + 1) = ri i + (9 - i) := rfl
theorem ci_le : ∀ i, i < 11 → ci i ≤ 120 := by decide +kernel
theorem ri_le : ∀ i, i < 11 → ri i ≤ 45 := by decide +kernel
def n3 (i j : Int) : Int := ((ci i.toNat + cj i.toNat j.toNat : Nat) : Int)
def n2 (i : Int) : Int := ((ri i.toNat : Nat) : Int)
def n1 (i : Int) : Int := ((ci i.toNat : Nat) : Int)
theorem n3_in {i j k : Int} (h : 0 ≤ i ∧ i < j ∧ j < k ∧ k < 10) : n3 i j + (k - j - 1) < 120 := by
  have := cnt3 i.toNat (by omega) j.toNat (by omega) (by omega) k.toNat (by omega) (by omega)
  unfold n3; omega
theorem n2_in {i j : Int} (h : 0 ≤ i ∧ i < j ∧ j < 10) : n2 i + (j - i - 1) < 45 := by
  have := cnt2 i.toNat (by omega) j.toNat (by omega) (by omega)
  unfold n2; omega
theorem n3_nx {i j s : Int} (h : 0 ≤ i ∧ i < j ∧ j < 10 ∧ s ≤ 10) : n3 i j + (s - j - 1) ≤ n3 i (j + 1) := by
  have e : (j + 1).toNat = j.toNat + 1 := by omega
  have := cj_succ i.toNat j.toNat (by omega)
  unfold n3; rw [e, this]; omega
theorem n3_up {i j : Int} (h : 0 ≤ i ∧ i < 10 ∧ 0 ≤ j ∧ j ≤ 10) : n3 i j ≤ n1 (i + 1) := by
  have e : (i + 1).toNat = i.toNat + 1 := by omega
  have := cj_le i.toNat (by omega) j.toNat (by omega)
  have f := ci_ss i.toNat
  unfold n3 n1; rw [e, f]; omega
theorem n3_st {i j : Int} : n1 i ≤ n3 i j := by unfold n3 n1; omega
theorem n2_up {i s : Int} (h : 0 ≤ i ∧ i < s ∧ s ≤ 10) : n2 i + (s - i - 1) ≤ n2 (i + 1) := by
  have e : (i + 1).toNat = i.toNat + 1 := by omega
  have f := ri_ss i.toNat
  unfold n2; rw [e, f]; omega
theorem n1_le {i : Int} (h : 0 ≤ i ∧ i ≤ 10) : n1 i ≤ 120 := by have := ci_le i.toNat (by omega); unfold n1; omega
theorem n2_le {i : Int} (h : 0 ≤ i ∧ i ≤ 10) : n2 i ≤ 45 := by have := ri_le i.toNat (by omega); unfold n2; omega
def MFr (M M' : av_M) : Prop := (∀ k, k ≠ 18 → k ≠ 19 → k ≠ 20 → k ≠ 21 → k ≠ 22 → k ≠ 23 → k ≠ 24 → k ≠ 25 → k ≠ 26 → M' k = M k)
theorem MFr.tr {M M1 M2 : av_M} (h1 : MFr M M1) (h2 : MFr M1 M2) : MFr M M2 := fun k a b c d e f g h i => by rw [h2 k a b c d e f g h i, h1 k a b c d e f g h i]
theorem MFr.w {M M' : av_M} (h : MFr M M') : M' 13 = M 13 ∧ M' 14 = M 14 ∧ M' 15 = M 15 ∧ M' 16 = M 16 ∧ M' 17 = M 17 := ⟨h 13 (by decide) (by decide) (by decide) (by decide) (by decide) (by decide) (by decide) (by decide) (by decide), h 14 (by decide) (by decide) (by decide) (by decide) (by decide) (by decide) (by decide) (by decide) (by decide), h 15 (by decide) (by decide) (by decide) (by decide) (by decide) (by decide) (by decide) (by decide) (by decide), h 16 (by decide) (by decide) (by decide) (by decide) (by decide) (by decide) (by decide) (by decide) (by decide), h 17 (by decide) (by decide) (by decide) (by decide) (by decide) (by decide) (by decide) (by decide) (by decide)⟩
/-- as far as (i, j, k), the threes before it and the pairs up to (i, j) are in the lists -/
def FI (M : av_M) (i j k : Int) (q : Int) : Prop := MTI M (covM i j k) ∧ MTR M (covR i q) ∧ M 18 8 ≤ n3 i j + (k - j - 1) ∧ 0 ≤ M 18 9 ∧ M 18 9 ≤ 2 * (n2 i + (q - i - 1))
set_option maxRecDepth 100000 in
set_option maxHeartbeats 800000 in
theorem l3_X3_find (E : av_E) (d : Nat) (M : av_M) (hW : WI (M 14) (M 15) (M 16) (M 17) (M 13 4) (M 13 5)) (i j : Int) (hi : 0 ≤ i ∧ i < j ∧ j < M 13 4) (nxt : ∀ M2 : av_M, FI M2 i (j + 1) (j + 2) (j + 1) → MFr M M2 → av_S E (d + 3) mX3_find 24 [(0, vR 18), (1, vR 13), (2, vI i), (3, vI (j + 1))] [] M2 (fun res M' => res = none ∧ MTI M' (fun _ _ _ => True) ∧ MTR M' (fun _ _ => True) ∧ M' 18 8 ≤ 120 ∧ M' 18 9 ≤ 90 ∧ MFr M M')) :
    ∀ (t : Nat) (k : Int) (M1 : av_M), k + t = M 13 4 → j < k → FI M1 i j k (j + 1) → MFr M M1 → av_S E (d + 3) mX3_find 44 [(0, vR 18), (1, vR 13), (2, vI i), (3, vI j), (4, vI k)] [] M1 (fun res M' => res = none ∧ MTI M' (fun _ _ _ => True) ∧ MTR M' (fun _ _ => True) ∧ M' 18 8 ≤ 120 ∧ M' 18 9 ≤ 90 ∧ MFr M M') := by
  have hs := hW.2.1
  intro t
  induction t with
  | zero =>
    intro k M1 hk kj hF hf
    have hw := hf.w
    have hW1 : WI (M1 14) (M1 15) (M1 16) (M1 17) (M1 13 4) (M1 13 5) := by rw [hw.1, hw.2.1, hw.2.2.1, hw.2.2.2.1, hw.2.2.2.2]; exact hW
    have e13 : M1 13 4 = M 13 4 := by rw [hw.1]
    obtain ⟨q1, q2, q3, q4, q5⟩ := hF
    refine ax_iload rfl rfl ?_
    refine ax_aloadn rfl rfl ?_
    refine ax_getI (g := 4) rfl fX3_43 rfl rfl rfl rfl ?_
    refine ax_icmp_ge rfl (by omega) (by omega) (fun h50 => ?_) (fun h50 => ?_)
    · refine ax_iinc (ls' := [(0, _), (1, _), (2, _), (3, _), (4, _)]) rfl rfl rfl rfl ?_
      refine ax_goto rfl ?_
      refine ax_pick [0, 1, 2, 3] rfl ?_
      refine nxt M1 ⟨MI_mono q1 (fun a b c a0 ab bc cs hv q => ?_), q2, ?_, q4, q5⟩ hf
      · unfold covM at q ⊢
        omega
      · have := n3_nx (i := i) (j := j) (s := M 13 4) (by omega)
        omega
    · omega
  | succ t ih =>
    intro k M1 hk kj hF hf
    have hw := hf.w
    have hW1 : WI (M1 14) (M1 15) (M1 16) (M1 17) (M1 13 4) (M1 13 5) := by rw [hw.1, hw.2.1, hw.2.2.1, hw.2.2.2.1, hw.2.2.2.2]; exact hW
    have e13 : M1 13 4 = M 13 4 := by rw [hw.1]
    obtain ⟨q1, q2, q3, q4, q5⟩ := hF
    have hc := n3_in (i := i) (j := j) (k := k) (by omega)
    refine ax_iload rfl rfl ?_
    refine ax_aloadn rfl rfl ?_
    refine ax_getI (g := 4) rfl fX3_43 rfl rfl rfl rfl ?_
    refine ax_icmp_ge rfl (by omega) (by omega) (fun h50 => ?_) (fun h50 => ?_)
    · omega
    · refine ax_aloadn rfl rfl ?_
      refine ax_aloadn rfl rfl ?_
      refine ax_iloadn rfl rfl ?_
      refine ax_iloadn rfl rfl ?_
      refine ax_iload rfl rfl ?_
      refine ax_callV (as := [_, _, _, _]) rfl vX3_50 hX3_addMeet rfl rfl rfl rfl rfl (c_X3_addMeet E d M1 i j k (by omega) ⟨q1.1, by omega⟩ hW1 _ q1) (fun r59 M59 hr59 => ?_)
      obtain ⟨rfl, g1, g2, g3, g4, g5, g6⟩ := hr59
      refine ax_iinc (ls' := [(0, _), (1, _), (2, _), (3, _), (4, _)]) rfl rfl rfl rfl ?_
      refine ax_goto rfl ?_
      have hf2 : MFr M M59 := hf.tr g6
      have hw2 := (show MFr M1 M59 from g6).w
      refine ih _ M59 (by omega) (by omega) ⟨MI_mono g1 (fun a b c a0 ab bc cs hv q => ?_), ?_, by omega, by rw [g4 9 (by decide)]; exact q4, by rw [g4 9 (by decide)]; exact q5⟩ hf2
      · unfold covM at q ⊢
        omega
      · unfold MTR at q2 ⊢
        rw [hw2.1, hw2.2.1, hw2.2.2.1, hw2.2.2.2.1, g5, g4 9 (by decide)]
        exact q2
set_option maxRecDepth 100000 in
set_option maxHeartbeats 800000 in
theorem l2_X3_find (E : av_E) (d : Nat) (M : av_M) (hW : WI (M 14) (M 15) (M 16) (M 17) (M 13 4) (M 13 5)) (i : Int) (hi : 0 ≤ i ∧ i < M 13 4) (nxt : ∀ M2 : av_M, FI M2 (i + 1) (i + 2) (i + 3) (i + 2) → M2 18 8 ≤ n1 (i + 1) → M2 18 9 ≤ 2 * n2 (i + 1) → MFr M M2 → av_S E (d + 3) mX3_find 12 [(0, vR 18), (1, vR 13), (2, vI (i + 1))] [] M2 (fun res M' => res = none ∧ MTI M' (fun _ _ _ => True) ∧ MTR M' (fun _ _ => True) ∧ M' 18 8 ≤ 120 ∧ M' 18 9 ≤ 90 ∧ MFr M M')) :
    ∀ (t : Nat) (j : Int) (M1 : av_M), j + t = M 13 4 → i < j → FI M1 i j (j + 1) j → MFr M M1 → av_S E (d + 3) mX3_find 24 [(0, vR 18), (1, vR 13), (2, vI i), (3, vI j)] [] M1 (fun res M' => res = none ∧ MTI M' (fun _ _ _ => True) ∧ MTR M' (fun _ _ => True) ∧ M' 18 8 ≤ 120 ∧ M' 18 9 ≤ 90 ∧ MFr M M') := by
  have hs := hW.2.1
  intro t
  induction t with
  | zero =>
    intro j M1 hk kj hF hf
    have hw := hf.w
    have hW1 : WI (M1 14) (M1 15) (M1 16) (M1 17) (M1 13 4) (M1 13 5) := by rw [hw.1, hw.2.1, hw.2.2.1, hw.2.2.2.1, hw.2.2.2.2]; exact hW
    have e13 : M1 13 4 = M 13 4 := by rw [hw.1]
    obtain ⟨q1, q2, q3, q4, q5⟩ := hF
    refine ax_iloadn rfl rfl ?_
    refine ax_aloadn rfl rfl ?_
    refine ax_getI (g := 4) rfl fX3_43 rfl rfl rfl rfl ?_
    refine ax_icmp_ge rfl (by omega) (by omega) (fun h29 => ?_) (fun h29 => ?_)
    · refine ax_iinc (ls' := [(0, _), (1, _), (2, _), (3, _)]) rfl rfl rfl rfl ?_
      refine ax_goto rfl ?_
      refine ax_pick [0, 1, 2] rfl ?_
      have u1 := n3_up (i := i) (j := j) (by omega)
      have u2 := n2_up (i := i) (s := j) (by omega)
      have u3 := n3_st (i := i + 1) (j := i + 2)
      refine nxt M1 ⟨MI_mono q1 (fun a b c a0 ab bc cs hv q => ?_), RI_mono q2 (fun a b a0 a1 b0 b1 hv q => ?_), by omega, q4, by omega⟩ (by omega) (by omega) hf
      · unfold covM at q ⊢
        omega
      · unfold covR at q ⊢
        omega
    · omega
  | succ t ih =>
    intro j M1 hk kj hF hf
    have hw := hf.w
    have hW1 : WI (M1 14) (M1 15) (M1 16) (M1 17) (M1 13 4) (M1 13 5) := by rw [hw.1, hw.2.1, hw.2.2.1, hw.2.2.2.1, hw.2.2.2.2]; exact hW
    have e13 : M1 13 4 = M 13 4 := by rw [hw.1]
    obtain ⟨q1, q2, q3, q4, q5⟩ := hF
    have hc := n2_in (i := i) (j := j) (by omega)
    refine ax_iloadn rfl rfl ?_
    refine ax_aloadn rfl rfl ?_
    refine ax_getI (g := 4) rfl fX3_43 rfl rfl rfl rfl ?_
    refine ax_icmp_ge rfl (by omega) (by omega) (fun h29 => ?_) (fun h29 => ?_)
    · omega
    · refine ax_aloadn rfl rfl ?_
      refine ax_aloadn rfl rfl ?_
      refine ax_iloadn rfl rfl ?_
      refine ax_iloadn rfl rfl ?_
      refine ax_callV (as := [_, _, _]) rfl vX3_46 hX3_addRays rfl rfl rfl rfl rfl (c_X3_addRays E (d + 0) M1 i j (by omega) (by omega) (by omega) hW1 _ q2) (fun r36 M36 hr36 => ?_)
      obtain ⟨rfl, g1, g2, g3, g4, g5⟩ := hr36
      refine ax_iloadn rfl rfl ?_
      refine ax_iconst rfl ?_
      refine ax_iadd rfl ?_
      refine ax_istore (ls' := [(0, _), (1, _), (2, _), (3, _), (4, _)]) rfl rfl rfl ?_
      have hf1 : MFr M1 M36 := fun k a b c d e f g h i => g5 k a i
      have hf2 : MFr M M36 := hf.tr hf1
      have hw2 := hf1.w
      refine l3_X3_find E d M hW i j (by omega) (fun M2 hF2 hf2 => ih _ M2 (by omega) (by omega) (by rw [show j + 1 + 1 = j + 2 by omega]; exact hF2) hf2) t (j + 1) M36 (by omega) (by omega) ⟨?_, RI_mono g1 (fun a b a0 a1 b0 b1 hv q => ?_), ?_, by omega, by omega⟩ hf2
      · unfold MTI at q1 ⊢
        rw [hw2.1, hw2.2.1, hw2.2.2.1, hw2.2.2.2.1, hw2.2.2.2.2, g4 8 (by decide), g5 19 (by decide) (by decide), g5 20 (by decide) (by decide), g5 21 (by decide) (by decide), g5 22 (by decide) (by decide), g5 23 (by decide) (by decide), g5 24 (by decide) (by decide), g5 25 (by decide) (by decide)]
        exact q1
      · unfold covR at q ⊢
        omega
      · rw [g4 8 (by decide)]; omega
set_option maxRecDepth 100000 in
set_option maxHeartbeats 800000 in
theorem l1_X3_find (E : av_E) (d : Nat) (M : av_M) (hW : WI (M 14) (M 15) (M 16) (M 17) (M 13 4) (M 13 5)) : ∀ (t : Nat) (i : Int) (M1 : av_M), i + t = M 13 4 → 0 ≤ i → FI M1 i (i + 1) (i + 2) (i + 1) → M1 18 8 ≤ n1 i → M1 18 9 ≤ 2 * n2 i → MFr M M1 → av_S E (d + 3) mX3_find 12 [(0, vR 18), (1, vR 13), (2, vI i)] [] M1 (fun res M' => res = none ∧ MTI M' (fun _ _ _ => True) ∧ MTR M' (fun _ _ => True) ∧ M' 18 8 ≤ 120 ∧ M' 18 9 ≤ 90 ∧ MFr M M') := by
  have hs := hW.2.1
  intro t
  induction t with
  | zero =>
    intro i M1 hk i0 hF b1 b2 hf
    have hw := hf.w
    have hW1 : WI (M1 14) (M1 15) (M1 16) (M1 17) (M1 13 4) (M1 13 5) := by rw [hw.1, hw.2.1, hw.2.2.1, hw.2.2.2.1, hw.2.2.2.2]; exact hW
    have e13 : M1 13 4 = M 13 4 := by rw [hw.1]
    obtain ⟨q1, q2, q3, q4, q5⟩ := hF
    have u1 := n1_le (i := i) (by omega)
    have u2 := n2_le (i := i) (by omega)
    refine ax_iloadn rfl rfl ?_
    refine ax_aloadn rfl rfl ?_
    refine ax_getI (g := 4) rfl fX3_43 rfl rfl rfl rfl ?_
    refine ax_icmp_ge rfl (by omega) (by omega) (fun h17 => ?_) (fun h17 => ?_)
    · refine ax_vret rfl rfl ?_
      refine ⟨rfl, MI_mono q1 (fun a b c a0 ab bc cs hv q => ?_), RI_mono q2 (fun a b a0 a1 b0 b1 hv q => ?_), by omega, by omega, hf⟩
      · unfold covM
        omega
      · unfold covR
        by_cases hab : a = b
        · subst hab
          exact absurd ⟨by grind, by grind, by grind⟩ hv
        · omega
    · omega
  | succ t ih =>
    intro i M1 hk i0 hF b1 b2 hf
    have hw := hf.w
    have hW1 : WI (M1 14) (M1 15) (M1 16) (M1 17) (M1 13 4) (M1 13 5) := by rw [hw.1, hw.2.1, hw.2.2.1, hw.2.2.2.1, hw.2.2.2.2]; exact hW
    have e13 : M1 13 4 = M 13 4 := by rw [hw.1]
    refine ax_iloadn rfl rfl ?_
    refine ax_aloadn rfl rfl ?_
    refine ax_getI (g := 4) rfl fX3_43 rfl rfl rfl rfl ?_
    refine ax_icmp_ge rfl (by omega) (by omega) (fun h17 => ?_) (fun h17 => ?_)
    · omega
    · refine ax_iloadn rfl rfl ?_
      refine ax_iconst rfl ?_
      refine ax_iadd rfl ?_
      refine ax_istoren (ls' := [(0, _), (1, _), (2, _), (3, _)]) rfl rfl rfl ?_
      exact l2_X3_find E d M hW i (by omega) (fun M2 hF2 c1 c2 hf2 => ih _ M2 (by omega) (by omega) (by rw [show i + 1 + 1 = i + 2 by omega, show i + 1 + 2 = i + 3 by omega]; exact hF2) c1 c2 hf2) t (i + 1) M1 (by omega) (by omega) (by rw [show i + 1 + 1 = i + 2 by omega]; exact hF) hf
set_option maxRecDepth 100000 in
set_option maxHeartbeats 800000 in
theorem c_X3_find (E : av_E) (d : Nat) (M : av_M) (hW : WI (M 14) (M 15) (M 16) (M 17) (M 13 4) (M 13 5)) : av_Mt E (d + 3) mX3_find [vR 18, vR 13] M (fun res M' => res = none ∧ MTI M' (fun _ _ _ => True) ∧ MTR M' (fun _ _ => True) ∧ M' 18 8 ≤ 120 ∧ M' 18 9 ≤ 90 ∧ MFr M M') := by
  have hs := hW.2.1
  have hs0 := hW.1
  refine av_enter hX3_find oX3_find rfl rfl ?_
  refine ax_aloadn rfl rfl ?_
  refine ax_iconst rfl ?_
  refine ax_putI' (g := 8) rfl gX3_36 rfl rfl rfl rfl (fun M2 a2 b2 c2 => ?_)
  refine ax_aloadn rfl rfl ?_
  refine ax_iconst rfl ?_
  refine ax_putI' (g := 9) rfl gX3_40 rfl rfl rfl rfl (fun M7 a7 b7 c7 => ?_)
  refine ax_iconst rfl ?_
  refine ax_istoren (ls' := [(0, _), (1, _), (2, _)]) rfl rfl rfl ?_
  have f : M7 18 8 = 0 := by rw [b7 8 (by decide), a2]
  refine l1_X3_find E d M hW (M 13 4).toNat 0 M7 (by omega) (by omega) ⟨⟨by omega, fun m m0 m1 => by omega, fun a b c a0 ab bc cs hv q => by unfold covM at q; omega⟩, ⟨by omega, fun m m0 m1 => by omega, fun a b a0 a1 b0 b1 hv q => by unfold covR at q; omega⟩, ?_, by omega, by rw [a7]; decide⟩ (by rw [f]; decide) (by rw [a7]; decide) (fun k k18 k19 k20 k21 k22 k23 k24 k25 k26 => by rw [c7 k k18, c2 k k18])
  rw [f]
  decide
end
