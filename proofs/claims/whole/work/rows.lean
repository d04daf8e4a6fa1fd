section
-- ===== PART A: goes FIRST, ahead of the names: the tables' words, and 'selects' of the private methods out of them =====
/-- a private method of a class that the tables say can be made, by its rows of tables_1 -/
def lw_okq (q : MethodName × Nat) : Prop := (q.1.cls ≠ "java/lang/invoke/MethodHandle" ∧ q.1.cls ≠ "java/lang/invoke/VarHandle") ∧ Cond.instantiable q.1.cls q.2 ∈ tables_1 ∧ Cond.privateMethod q.1 ∈ tables_1 ∧ Cond.instanceMethod q.1 ∈ tables_1
theorem lw_p0 : lw_okq (⟨"SlipWall", "finding", "(I)I"⟩, 9) := ⟨⟨by decide +kernel, by decide +kernel⟩, List.mem_of_getElem? (i := 22) (by decide +kernel), List.mem_of_getElem? (i := 236) (by decide +kernel), List.mem_of_getElem? (i := 237) (by decide +kernel)⟩
theorem lw_p1 : lw_okq (⟨"SlipWall", "noSlip", "(I)Z"⟩, 9) := ⟨⟨by decide +kernel, by decide +kernel⟩, List.mem_of_getElem? (i := 22) (by decide +kernel), List.mem_of_getElem? (i := 253) (by decide +kernel), List.mem_of_getElem? (i := 254) (by decide +kernel)⟩
theorem lw_p2 : lw_okq (⟨"SlipWall$Room", "pleases", "(II)Z"⟩, 11) := ⟨⟨by decide +kernel, by decide +kernel⟩, List.mem_of_getElem? (i := 73) (by decide +kernel), List.mem_of_getElem? (i := 261) (by decide +kernel), List.mem_of_getElem? (i := 262) (by decide +kernel)⟩
theorem lw_p3 : lw_okq (⟨"SlipWall", "groupMostWanted", "(I)I"⟩, 9) := ⟨⟨by decide +kernel, by decide +kernel⟩, List.mem_of_getElem? (i := 22) (by decide +kernel), List.mem_of_getElem? (i := 268) (by decide +kernel), List.mem_of_getElem? (i := 269) (by decide +kernel)⟩
theorem lw_p4 : lw_okq (⟨"SlipWall", "put", "([IIIII)I"⟩, 9) := ⟨⟨by decide +kernel, by decide +kernel⟩, List.mem_of_getElem? (i := 22) (by decide +kernel), List.mem_of_getElem? (i := 288) (by decide +kernel), List.mem_of_getElem? (i := 289) (by decide +kernel)⟩
theorem lw_p5 : lw_okq (⟨"SlipWall", "noPerson", "(I)Z"⟩, 9) := ⟨⟨by decide +kernel, by decide +kernel⟩, List.mem_of_getElem? (i := 22) (by decide +kernel), List.mem_of_getElem? (i := 332) (by decide +kernel), List.mem_of_getElem? (i := 333) (by decide +kernel)⟩
theorem lw_p6 : lw_okq (⟨"SlipWall$Room", "shift", "(II)V"⟩, 11) := ⟨⟨by decide +kernel, by decide +kernel⟩, List.mem_of_getElem? (i := 73) (by decide +kernel), List.mem_of_getElem? (i := 480) (by decide +kernel), List.mem_of_getElem? (i := 481) (by decide +kernel)⟩
theorem lw_p7 : lw_okq (⟨"SlipWall", "tryOn", "(I)V"⟩, 9) := ⟨⟨by decide +kernel, by decide +kernel⟩, List.mem_of_getElem? (i := 22) (by decide +kernel), List.mem_of_getElem? (i := 505) (by decide +kernel), List.mem_of_getElem? (i := 506) (by decide +kernel)⟩
theorem lw_p8 : lw_okq (⟨"SlipWall", "wayOfTrial", "(II)I"⟩, 9) := ⟨⟨by decide +kernel, by decide +kernel⟩, List.mem_of_getElem? (i := 22) (by decide +kernel), List.mem_of_getElem? (i := 520) (by decide +kernel), List.mem_of_getElem? (i := 521) (by decide +kernel)⟩
theorem lw_p9 : lw_okq (⟨"SlipWall", "bestOrNone", "()I"⟩, 9) := ⟨⟨by decide +kernel, by decide +kernel⟩, List.mem_of_getElem? (i := 22) (by decide +kernel), List.mem_of_getElem? (i := 541) (by decide +kernel), List.mem_of_getElem? (i := 542) (by decide +kernel)⟩
theorem lw_p10 : lw_okq (⟨"SlipWall$Tape", "takeWord", "()V"⟩, 6) := ⟨⟨by decide +kernel, by decide +kernel⟩, List.mem_of_getElem? (i := 142) (by decide +kernel), List.mem_of_getElem? (i := 598) (by decide +kernel), List.mem_of_getElem? (i := 599) (by decide +kernel)⟩
theorem lw_p11 : lw_okq (⟨"SlipWall$Tape", "takeNumber", "()V"⟩, 6) := ⟨⟨by decide +kernel, by decide +kernel⟩, List.mem_of_getElem? (i := 142) (by decide +kernel), List.mem_of_getElem? (i := 605) (by decide +kernel), List.mem_of_getElem? (i := 606) (by decide +kernel)⟩
theorem lw_p12 : lw_okq (⟨"SlipWall$WallText", "takeItem", "(LSlipWall$Room;)Z"⟩, 1) := ⟨⟨by decide +kernel, by decide +kernel⟩, List.mem_of_getElem? (i := 170) (by decide +kernel), List.mem_of_getElem? (i := 610) (by decide +kernel), List.mem_of_getElem? (i := 611) (by decide +kernel)⟩
theorem lw_p13 : lw_okq (⟨"SlipWall$WallText", "takeSlip", "(LSlipWall$Room;)Z"⟩, 1) := ⟨⟨by decide +kernel, by decide +kernel⟩, List.mem_of_getElem? (i := 170) (by decide +kernel), List.mem_of_getElem? (i := 667) (by decide +kernel), List.mem_of_getElem? (i := 668) (by decide +kernel)⟩
theorem lw_p14 : lw_okq (⟨"SlipWall$WallText", "takeMoves", "(LSlipWall$Room;)Z"⟩, 1) := ⟨⟨by decide +kernel, by decide +kernel⟩, List.mem_of_getElem? (i := 170) (by decide +kernel), List.mem_of_getElem? (i := 680) (by decide +kernel), List.mem_of_getElem? (i := 681) (by decide +kernel)⟩
theorem lw_p15 : lw_okq (⟨"SlipWall$WallText", "kindNamed", "()I"⟩, 1) := ⟨⟨by decide +kernel, by decide +kernel⟩, List.mem_of_getElem? (i := 170) (by decide +kernel), List.mem_of_getElem? (i := 684) (by decide +kernel), List.mem_of_getElem? (i := 685) (by decide +kernel)⟩
def lw_privs_1 : List (MethodName × Nat) := [(⟨"SlipWall", "finding", "(I)I"⟩, 9), (⟨"SlipWall", "noSlip", "(I)Z"⟩, 9), (⟨"SlipWall$Room", "pleases", "(II)Z"⟩, 11), (⟨"SlipWall", "groupMostWanted", "(I)I"⟩, 9), (⟨"SlipWall", "put", "([IIIII)I"⟩, 9), (⟨"SlipWall", "noPerson", "(I)Z"⟩, 9), (⟨"SlipWall$Room", "shift", "(II)V"⟩, 11), (⟨"SlipWall", "tryOn", "(I)V"⟩, 9), (⟨"SlipWall", "wayOfTrial", "(II)I"⟩, 9), (⟨"SlipWall", "bestOrNone", "()I"⟩, 9), (⟨"SlipWall$Tape", "takeWord", "()V"⟩, 6), (⟨"SlipWall$Tape", "takeNumber", "()V"⟩, 6), (⟨"SlipWall$WallText", "takeItem", "(LSlipWall$Room;)Z"⟩, 1), (⟨"SlipWall$WallText", "takeSlip", "(LSlipWall$Room;)Z"⟩, 1), (⟨"SlipWall$WallText", "takeMoves", "(LSlipWall$Room;)Z"⟩, 1), (⟨"SlipWall$WallText", "kindNamed", "()I"⟩, 1)]
theorem lw_r1 : ∀ q ∈ lw_privs_1, lw_okq q := List.forall_mem_cons.mpr ⟨lw_p0, List.forall_mem_cons.mpr ⟨lw_p1, List.forall_mem_cons.mpr ⟨lw_p2, List.forall_mem_cons.mpr ⟨lw_p3, List.forall_mem_cons.mpr ⟨lw_p4, List.forall_mem_cons.mpr ⟨lw_p5, List.forall_mem_cons.mpr ⟨lw_p6, List.forall_mem_cons.mpr ⟨lw_p7, List.forall_mem_cons.mpr ⟨lw_p8, List.forall_mem_cons.mpr ⟨lw_p9, List.forall_mem_cons.mpr ⟨lw_p10, List.forall_mem_cons.mpr ⟨lw_p11, List.forall_mem_cons.mpr ⟨lw_p12, List.forall_mem_cons.mpr ⟨lw_p13, List.forall_mem_cons.mpr ⟨lw_p14, List.forall_mem_cons.mpr ⟨lw_p15, fun _ h => absurd h List.not_mem_nil⟩⟩⟩⟩⟩⟩⟩⟩⟩⟩⟩⟩⟩⟩⟩⟩
theorem lw_p16 : lw_okq (⟨"SlipWall$WallText", "takePerson", "(LSlipWall$Room;I)Z"⟩, 1) := ⟨⟨by decide +kernel, by decide +kernel⟩, List.mem_of_getElem? (i := 170) (by decide +kernel), List.mem_of_getElem? (i := 694) (by decide +kernel), List.mem_of_getElem? (i := 695) (by decide +kernel)⟩
theorem lw_p17 : lw_okq (⟨"SlipWall", "trialGoesAs", "(LSlipWall$Row;I)Z"⟩, 9) := ⟨⟨by decide +kernel, by decide +kernel⟩, List.mem_of_getElem? (i := 22) (by decide +kernel), List.mem_of_getElem? (i := 755) (by decide +kernel), List.mem_of_getElem? (i := 756) (by decide +kernel)⟩
theorem lw_p18 : lw_okq (⟨"SlipWallModel", "becomes", "(II)I"⟩, 16) := ⟨⟨by decide +kernel, by decide +kernel⟩, List.mem_of_getElem? (i := 779) (by decide +kernel), List.mem_of_getElem? (i := 841) (by decide +kernel), List.mem_of_getElem? (i := 842) (by decide +kernel)⟩
theorem lw_p19 : lw_okq (⟨"SlipWallModel", "finds", "(I)I"⟩, 16) := ⟨⟨by decide +kernel, by decide +kernel⟩, List.mem_of_getElem? (i := 779) (by decide +kernel), List.mem_of_getElem? (i := 846) (by decide +kernel), List.mem_of_getElem? (i := 847) (by decide +kernel)⟩
theorem lw_p20 : lw_okq (⟨"SlipWallModel", "comesTo", "(II)I"⟩, 16) := ⟨⟨by decide +kernel, by decide +kernel⟩, List.mem_of_getElem? (i := 779) (by decide +kernel), List.mem_of_getElem? (i := 855) (by decide +kernel), List.mem_of_getElem? (i := 856) (by decide +kernel)⟩
theorem lw_p21 : lw_okq (⟨"SlipWallModel", "put", "(III)V"⟩, 16) := ⟨⟨by decide +kernel, by decide +kernel⟩, List.mem_of_getElem? (i := 779) (by decide +kernel), List.mem_of_getElem? (i := 859) (by decide +kernel), List.mem_of_getElem? (i := 860) (by decide +kernel)⟩
theorem lw_p22 : lw_okq (⟨"SlipWallModel", "isSlip", "(I)Z"⟩, 16) := ⟨⟨by decide +kernel, by decide +kernel⟩, List.mem_of_getElem? (i := 779) (by decide +kernel), List.mem_of_getElem? (i := 867) (by decide +kernel), List.mem_of_getElem? (i := 868) (by decide +kernel)⟩
theorem lw_p23 : lw_okq (⟨"SlipWallModel", "it", "(II)I"⟩, 16) := ⟨⟨by decide +kernel, by decide +kernel⟩, List.mem_of_getElem? (i := 779) (by decide +kernel), List.mem_of_getElem? (i := 871) (by decide +kernel), List.mem_of_getElem? (i := 872) (by decide +kernel)⟩
theorem lw_p24 : lw_okq (⟨"SlipWallModel", "happyWith", "(I)I"⟩, 16) := ⟨⟨by decide +kernel, by decide +kernel⟩, List.mem_of_getElem? (i := 779) (by decide +kernel), List.mem_of_getElem? (i := 875) (by decide +kernel), List.mem_of_getElem? (i := 876) (by decide +kernel)⟩
theorem lw_p25 : lw_okq (⟨"SlipWallModel", "wish", "(II)I"⟩, 16) := ⟨⟨by decide +kernel, by decide +kernel⟩, List.mem_of_getElem? (i := 779) (by decide +kernel), List.mem_of_getElem? (i := 879) (by decide +kernel), List.mem_of_getElem? (i := 880) (by decide +kernel)⟩
theorem lw_p26 : lw_okq (⟨"SlipWallModel", "who", "(II)I"⟩, 16) := ⟨⟨by decide +kernel, by decide +kernel⟩, List.mem_of_getElem? (i := 779) (by decide +kernel), List.mem_of_getElem? (i := 883) (by decide +kernel), List.mem_of_getElem? (i := 884) (by decide +kernel)⟩
theorem lw_p27 : lw_okq (⟨"SlipWallModel", "wantMost", "(I)I"⟩, 16) := ⟨⟨by decide +kernel, by decide +kernel⟩, List.mem_of_getElem? (i := 779) (by decide +kernel), List.mem_of_getElem? (i := 887) (by decide +kernel), List.mem_of_getElem? (i := 888) (by decide +kernel)⟩
theorem lw_p28 : lw_okq (⟨"SlipWallModel", "slipsIn", "(I)I"⟩, 16) := ⟨⟨by decide +kernel, by decide +kernel⟩, List.mem_of_getElem? (i := 779) (by decide +kernel), List.mem_of_getElem? (i := 899) (by decide +kernel), List.mem_of_getElem? (i := 900) (by decide +kernel)⟩
theorem lw_p29 : lw_okq (⟨"SlipWallModel", "groupsHad", "()I"⟩, 16) := ⟨⟨by decide +kernel, by decide +kernel⟩, List.mem_of_getElem? (i := 779) (by decide +kernel), List.mem_of_getElem? (i := 907) (by decide +kernel), List.mem_of_getElem? (i := 908) (by decide +kernel)⟩
theorem lw_p30 : lw_okq (⟨"SlipWallModel", "fixedOnes", "()I"⟩, 16) := ⟨⟨by decide +kernel, by decide +kernel⟩, List.mem_of_getElem? (i := 779) (by decide +kernel), List.mem_of_getElem? (i := 911) (by decide +kernel), List.mem_of_getElem? (i := 912) (by decide +kernel)⟩
theorem lw_p31 : lw_okq (⟨"SlipWallModel", "allMoved", "()I"⟩, 16) := ⟨⟨by decide +kernel, by decide +kernel⟩, List.mem_of_getElem? (i := 779) (by decide +kernel), List.mem_of_getElem? (i := 915) (by decide +kernel), List.mem_of_getElem? (i := 916) (by decide +kernel)⟩
def lw_privs_2 : List (MethodName × Nat) := [(⟨"SlipWall$WallText", "takePerson", "(LSlipWall$Room;I)Z"⟩, 1), (⟨"SlipWall", "trialGoesAs", "(LSlipWall$Row;I)Z"⟩, 9), (⟨"SlipWallModel", "becomes", "(II)I"⟩, 16), (⟨"SlipWallModel", "finds", "(I)I"⟩, 16), (⟨"SlipWallModel", "comesTo", "(II)I"⟩, 16), (⟨"SlipWallModel", "put", "(III)V"⟩, 16), (⟨"SlipWallModel", "isSlip", "(I)Z"⟩, 16), (⟨"SlipWallModel", "it", "(II)I"⟩, 16), (⟨"SlipWallModel", "happyWith", "(I)I"⟩, 16), (⟨"SlipWallModel", "wish", "(II)I"⟩, 16), (⟨"SlipWallModel", "who", "(II)I"⟩, 16), (⟨"SlipWallModel", "wantMost", "(I)I"⟩, 16), (⟨"SlipWallModel", "slipsIn", "(I)I"⟩, 16), (⟨"SlipWallModel", "groupsHad", "()I"⟩, 16), (⟨"SlipWallModel", "fixedOnes", "()I"⟩, 16), (⟨"SlipWallModel", "allMoved", "()I"⟩, 16)]
theorem lw_r2 : ∀ q ∈ lw_privs_2, lw_okq q := List.forall_mem_cons.mpr ⟨lw_p16, List.forall_mem_cons.mpr ⟨lw_p17, List.forall_mem_cons.mpr ⟨lw_p18, List.forall_mem_cons.mpr ⟨lw_p19, List.forall_mem_cons.mpr ⟨lw_p20, List.forall_mem_cons.mpr ⟨lw_p21, List.forall_mem_cons.mpr ⟨lw_p22, List.forall_mem_cons.mpr ⟨lw_p23, List.forall_mem_cons.mpr ⟨lw_p24, List.forall_mem_cons.mpr ⟨lw_p25, List.forall_mem_cons.mpr ⟨lw_p26, List.forall_mem_cons.mpr ⟨lw_p27, List.forall_mem_cons.mpr ⟨lw_p28, List.forall_mem_cons.mpr ⟨lw_p29, List.forall_mem_cons.mpr ⟨lw_p30, List.forall_mem_cons.mpr ⟨lw_p31, fun _ h => absurd h List.not_mem_nil⟩⟩⟩⟩⟩⟩⟩⟩⟩⟩⟩⟩⟩⟩⟩⟩
theorem lw_p32 : lw_okq (⟨"SlipWallModel", "comesAs", "(I)I"⟩, 16) := ⟨⟨by decide +kernel, by decide +kernel⟩, List.mem_of_getElem? (i := 779) (by decide +kernel), List.mem_of_getElem? (i := 923) (by decide +kernel), List.mem_of_getElem? (i := 924) (by decide +kernel)⟩
theorem lw_p33 : lw_okq (⟨"SlipWallModel", "isPerson", "(I)Z"⟩, 16) := ⟨⟨by decide +kernel, by decide +kernel⟩, List.mem_of_getElem? (i := 779) (by decide +kernel), List.mem_of_getElem? (i := 931) (by decide +kernel), List.mem_of_getElem? (i := 932) (by decide +kernel)⟩
theorem lw_p34 : lw_okq (⟨"SlipWallModel", "wayOf", "(I)I"⟩, 16) := ⟨⟨by decide +kernel, by decide +kernel⟩, List.mem_of_getElem? (i := 779) (by decide +kernel), List.mem_of_getElem? (i := 935) (by decide +kernel), List.mem_of_getElem? (i := 936) (by decide +kernel)⟩
theorem lw_p35 : lw_okq (⟨"SlipWallModel", "picked", "(I)I"⟩, 16) := ⟨⟨by decide +kernel, by decide +kernel⟩, List.mem_of_getElem? (i := 779) (by decide +kernel), List.mem_of_getElem? (i := 939) (by decide +kernel), List.mem_of_getElem? (i := 940) (by decide +kernel)⟩
theorem lw_p36 : lw_okq (⟨"SlipWallModel", "mayTouch", "(II)Z"⟩, 16) := ⟨⟨by decide +kernel, by decide +kernel⟩, List.mem_of_getElem? (i := 779) (by decide +kernel), List.mem_of_getElem? (i := 943) (by decide +kernel), List.mem_of_getElem? (i := 944) (by decide +kernel)⟩
theorem lw_p37 : lw_okq (⟨"SlipWallModel", "prefers", "(III)Z"⟩, 16) := ⟨⟨by decide +kernel, by decide +kernel⟩, List.mem_of_getElem? (i := 779) (by decide +kernel), List.mem_of_getElem? (i := 947) (by decide +kernel), List.mem_of_getElem? (i := 948) (by decide +kernel)⟩
theorem lw_p38 : lw_okq (⟨"SlipWallModel", "turnsOf", "(I)I"⟩, 16) := ⟨⟨by decide +kernel, by decide +kernel⟩, List.mem_of_getElem? (i := 779) (by decide +kernel), List.mem_of_getElem? (i := 951) (by decide +kernel), List.mem_of_getElem? (i := 952) (by decide +kernel)⟩
theorem lw_p39 : lw_okq (⟨"SlipWallModel", "sameOf", "(II)I"⟩, 16) := ⟨⟨by decide +kernel, by decide +kernel⟩, List.mem_of_getElem? (i := 779) (by decide +kernel), List.mem_of_getElem? (i := 979) (by decide +kernel), List.mem_of_getElem? (i := 980) (by decide +kernel)⟩
theorem lw_p40 : lw_okq (⟨"SlipWallModel", "goesFor", "(I)V"⟩, 16) := ⟨⟨by decide +kernel, by decide +kernel⟩, List.mem_of_getElem? (i := 779) (by decide +kernel), List.mem_of_getElem? (i := 989) (by decide +kernel), List.mem_of_getElem? (i := 990) (by decide +kernel)⟩
theorem lw_p41 : lw_okq (⟨"SlipWallModel", "goes", "()V"⟩, 16) := ⟨⟨by decide +kernel, by decide +kernel⟩, List.mem_of_getElem? (i := 779) (by decide +kernel), List.mem_of_getElem? (i := 993) (by decide +kernel), List.mem_of_getElem? (i := 994) (by decide +kernel)⟩
theorem lw_p42 : lw_okq (⟨"SlipWallModel", "movesOne", "(I)V"⟩, 16) := ⟨⟨by decide +kernel, by decide +kernel⟩, List.mem_of_getElem? (i := 779) (by decide +kernel), List.mem_of_getElem? (i := 997) (by decide +kernel), List.mem_of_getElem? (i := 998) (by decide +kernel)⟩
theorem lw_p43 : lw_okq (⟨"SlipWallModel", "doesFix", "(II)Z"⟩, 16) := ⟨⟨by decide +kernel, by decide +kernel⟩, List.mem_of_getElem? (i := 779) (by decide +kernel), List.mem_of_getElem? (i := 1004) (by decide +kernel), List.mem_of_getElem? (i := 1005) (by decide +kernel)⟩
theorem lw_p44 : lw_okq (⟨"SlipWallModel", "thinks", "()V"⟩, 16) := ⟨⟨by decide +kernel, by decide +kernel⟩, List.mem_of_getElem? (i := 779) (by decide +kernel), List.mem_of_getElem? (i := 1012) (by decide +kernel), List.mem_of_getElem? (i := 1013) (by decide +kernel)⟩
theorem lw_p45 : lw_okq (⟨"SlipWallModel", "putsBack", "()V"⟩, 16) := ⟨⟨by decide +kernel, by decide +kernel⟩, List.mem_of_getElem? (i := 779) (by decide +kernel), List.mem_of_getElem? (i := 1019) (by decide +kernel), List.mem_of_getElem? (i := 1020) (by decide +kernel)⟩
theorem lw_p46 : lw_okq (⟨"SlipWallModel", "wayOn", "(II)I"⟩, 16) := ⟨⟨by decide +kernel, by decide +kernel⟩, List.mem_of_getElem? (i := 779) (by decide +kernel), List.mem_of_getElem? (i := 1027) (by decide +kernel), List.mem_of_getElem? (i := 1028) (by decide +kernel)⟩
theorem lw_p47 : lw_okq (⟨"SlipWallModel", "bestAt", "(IIII)I"⟩, 16) := ⟨⟨by decide +kernel, by decide +kernel⟩, List.mem_of_getElem? (i := 779) (by decide +kernel), List.mem_of_getElem? (i := 1044) (by decide +kernel), List.mem_of_getElem? (i := 1045) (by decide +kernel)⟩
def lw_privs_3 : List (MethodName × Nat) := [(⟨"SlipWallModel", "comesAs", "(I)I"⟩, 16), (⟨"SlipWallModel", "isPerson", "(I)Z"⟩, 16), (⟨"SlipWallModel", "wayOf", "(I)I"⟩, 16), (⟨"SlipWallModel", "picked", "(I)I"⟩, 16), (⟨"SlipWallModel", "mayTouch", "(II)Z"⟩, 16), (⟨"SlipWallModel", "prefers", "(III)Z"⟩, 16), (⟨"SlipWallModel", "turnsOf", "(I)I"⟩, 16), (⟨"SlipWallModel", "sameOf", "(II)I"⟩, 16), (⟨"SlipWallModel", "goesFor", "(I)V"⟩, 16), (⟨"SlipWallModel", "goes", "()V"⟩, 16), (⟨"SlipWallModel", "movesOne", "(I)V"⟩, 16), (⟨"SlipWallModel", "doesFix", "(II)Z"⟩, 16), (⟨"SlipWallModel", "thinks", "()V"⟩, 16), (⟨"SlipWallModel", "putsBack", "()V"⟩, 16), (⟨"SlipWallModel", "wayOn", "(II)I"⟩, 16), (⟨"SlipWallModel", "bestAt", "(IIII)I"⟩, 16)]
theorem lw_r3 : ∀ q ∈ lw_privs_3, lw_okq q := List.forall_mem_cons.mpr ⟨lw_p32, List.forall_mem_cons.mpr ⟨lw_p33, List.forall_mem_cons.mpr ⟨lw_p34, List.forall_mem_cons.mpr ⟨lw_p35, List.forall_mem_cons.mpr ⟨lw_p36, List.forall_mem_cons.mpr ⟨lw_p37, List.forall_mem_cons.mpr ⟨lw_p38, List.forall_mem_cons.mpr ⟨lw_p39, List.forall_mem_cons.mpr ⟨lw_p40, List.forall_mem_cons.mpr ⟨lw_p41, List.forall_mem_cons.mpr ⟨lw_p42, List.forall_mem_cons.mpr ⟨lw_p43, List.forall_mem_cons.mpr ⟨lw_p44, List.forall_mem_cons.mpr ⟨lw_p45, List.forall_mem_cons.mpr ⟨lw_p46, List.forall_mem_cons.mpr ⟨lw_p47, fun _ h => absurd h List.not_mem_nil⟩⟩⟩⟩⟩⟩⟩⟩⟩⟩⟩⟩⟩⟩⟩⟩
theorem lw_p48 : lw_okq (⟨"SlipWallModel", "orNone", "(I)I"⟩, 16) := ⟨⟨by decide +kernel, by decide +kernel⟩, List.mem_of_getElem? (i := 779) (by decide +kernel), List.mem_of_getElem? (i := 1052) (by decide +kernel), List.mem_of_getElem? (i := 1053) (by decide +kernel)⟩
theorem lw_p49 : lw_okq (⟨"SlipWallModel", "reads", "()V"⟩, 16) := ⟨⟨by decide +kernel, by decide +kernel⟩, List.mem_of_getElem? (i := 779) (by decide +kernel), List.mem_of_getElem? (i := 1088) (by decide +kernel), List.mem_of_getElem? (i := 1089) (by decide +kernel)⟩
theorem lw_p50 : lw_okq (⟨"SlipWallModel", "isByte", "(III)Z"⟩, 16) := ⟨⟨by decide +kernel, by decide +kernel⟩, List.mem_of_getElem? (i := 779) (by decide +kernel), List.mem_of_getElem? (i := 1092) (by decide +kernel), List.mem_of_getElem? (i := 1093) (by decide +kernel)⟩
theorem lw_p51 : lw_okq (⟨"SlipWallModel", "wordHere", "()I"⟩, 16) := ⟨⟨by decide +kernel, by decide +kernel⟩, List.mem_of_getElem? (i := 779) (by decide +kernel), List.mem_of_getElem? (i := 1096) (by decide +kernel), List.mem_of_getElem? (i := 1097) (by decide +kernel)⟩
theorem lw_p52 : lw_okq (⟨"SlipWallModel", "isName", "(II)Z"⟩, 16) := ⟨⟨by decide +kernel, by decide +kernel⟩, List.mem_of_getElem? (i := 779) (by decide +kernel), List.mem_of_getElem? (i := 1100) (by decide +kernel), List.mem_of_getElem? (i := 1101) (by decide +kernel)⟩
theorem lw_p53 : lw_okq (⟨"SlipWallModel", "item", "()V"⟩, 16) := ⟨⟨by decide +kernel, by decide +kernel⟩, List.mem_of_getElem? (i := 779) (by decide +kernel), List.mem_of_getElem? (i := 1106) (by decide +kernel), List.mem_of_getElem? (i := 1107) (by decide +kernel)⟩
theorem lw_p54 : lw_okq (⟨"SlipWallModel", "personItem", "()V"⟩, 16) := ⟨⟨by decide +kernel, by decide +kernel⟩, List.mem_of_getElem? (i := 779) (by decide +kernel), List.mem_of_getElem? (i := 1110) (by decide +kernel), List.mem_of_getElem? (i := 1111) (by decide +kernel)⟩
theorem lw_p55 : lw_okq (⟨"SlipWallModel", "passes", "(I)Z"⟩, 16) := ⟨⟨by decide +kernel, by decide +kernel⟩, List.mem_of_getElem? (i := 779) (by decide +kernel), List.mem_of_getElem? (i := 1114) (by decide +kernel), List.mem_of_getElem? (i := 1115) (by decide +kernel)⟩
theorem lw_p56 : lw_okq (⟨"SlipWallModel", "number", "(II)I"⟩, 16) := ⟨⟨by decide +kernel, by decide +kernel⟩, List.mem_of_getElem? (i := 779) (by decide +kernel), List.mem_of_getElem? (i := 1118) (by decide +kernel), List.mem_of_getElem? (i := 1119) (by decide +kernel)⟩
theorem lw_p57 : lw_okq (⟨"SlipWallModel", "slipItem", "()V"⟩, 16) := ⟨⟨by decide +kernel, by decide +kernel⟩, List.mem_of_getElem? (i := 779) (by decide +kernel), List.mem_of_getElem? (i := 1122) (by decide +kernel), List.mem_of_getElem? (i := 1123) (by decide +kernel)⟩
theorem lw_p58 : lw_okq (⟨"SlipWallModel", "notThere", "(I)I"⟩, 16) := ⟨⟨by decide +kernel, by decide +kernel⟩, List.mem_of_getElem? (i := 779) (by decide +kernel), List.mem_of_getElem? (i := 1138) (by decide +kernel), List.mem_of_getElem? (i := 1139) (by decide +kernel)⟩
theorem lw_p59 : lw_okq (⟨"SlipWallModel", "notCopied", "(IIIII)I"⟩, 16) := ⟨⟨by decide +kernel, by decide +kernel⟩, List.mem_of_getElem? (i := 779) (by decide +kernel), List.mem_of_getElem? (i := 1150) (by decide +kernel), List.mem_of_getElem? (i := 1151) (by decide +kernel)⟩
theorem lw_p60 : lw_okq (⟨"SlipWallModel", "isBook", "(II)Z"⟩, 16) := ⟨⟨by decide +kernel, by decide +kernel⟩, List.mem_of_getElem? (i := 779) (by decide +kernel), List.mem_of_getElem? (i := 1166) (by decide +kernel), List.mem_of_getElem? (i := 1167) (by decide +kernel)⟩
def lw_privs_4 : List (MethodName × Nat) := [(⟨"SlipWallModel", "orNone", "(I)I"⟩, 16), (⟨"SlipWallModel", "reads", "()V"⟩, 16), (⟨"SlipWallModel", "isByte", "(III)Z"⟩, 16), (⟨"SlipWallModel", "wordHere", "()I"⟩, 16), (⟨"SlipWallModel", "isName", "(II)Z"⟩, 16), (⟨"SlipWallModel", "item", "()V"⟩, 16), (⟨"SlipWallModel", "personItem", "()V"⟩, 16), (⟨"SlipWallModel", "passes", "(I)Z"⟩, 16), (⟨"SlipWallModel", "number", "(II)I"⟩, 16), (⟨"SlipWallModel", "slipItem", "()V"⟩, 16), (⟨"SlipWallModel", "notThere", "(I)I"⟩, 16), (⟨"SlipWallModel", "notCopied", "(IIIII)I"⟩, 16), (⟨"SlipWallModel", "isBook", "(II)Z"⟩, 16)]
theorem lw_r4 : ∀ q ∈ lw_privs_4, lw_okq q := List.forall_mem_cons.mpr ⟨lw_p48, List.forall_mem_cons.mpr ⟨lw_p49, List.forall_mem_cons.mpr ⟨lw_p50, List.forall_mem_cons.mpr ⟨lw_p51, List.forall_mem_cons.mpr ⟨lw_p52, List.forall_mem_cons.mpr ⟨lw_p53, List.forall_mem_cons.mpr ⟨lw_p54, List.forall_mem_cons.mpr ⟨lw_p55, List.forall_mem_cons.mpr ⟨lw_p56, List.forall_mem_cons.mpr ⟨lw_p57, List.forall_mem_cons.mpr ⟨lw_p58, List.forall_mem_cons.mpr ⟨lw_p59, List.forall_mem_cons.mpr ⟨lw_p60, fun _ h => absurd h List.not_mem_nil⟩⟩⟩⟩⟩⟩⟩⟩⟩⟩⟩⟩⟩
def lw_privs : List (MethodName × Nat) := lw_privs_1 ++ (lw_privs_2 ++ (lw_privs_3 ++ (lw_privs_4)))
def lw_tbl : List Cond := k2_sels lw_privs ++ tables_1
theorem lw_privs_ok : ∀ q ∈ lw_privs, lw_okq q := by
  show ∀ q ∈ lw_privs_1 ++ (lw_privs_2 ++ (lw_privs_3 ++ (lw_privs_4))), lw_okq q
  exact List.forall_mem_append.mpr ⟨lw_r1, List.forall_mem_append.mpr ⟨lw_r2, List.forall_mem_append.mpr ⟨lw_r3, lw_r4⟩⟩⟩
end
section
def RX0 : String := "SlipWall$Best"
def TX0 : u_T := fun k => match k with
  | 0 => ("SlipWall$Best", "one", "I", false)
  | _ => ("SlipWall$Best", "worth", "I", false)
def tyX0 : Nat → FieldType := fun k => match k with
  | 0 => .int
  | _ => .int
theorem nmX0 : ∀ a, a < 2 → ∀ b, b < 2 → a ≠ b → (TX0 a).2.1 ≠ (TX0 b).2.1 := by decide +kernel
theorem tyX0_ok : ∀ k, k < 2 → parseFieldDescriptor (TX0 k).2.2.1 = some (tyX0 k) := by decide +kernel
abbrev cX0_init : ByteArray := prog_2_method_1_code
def yX0_init : MethodName := ⟨RX0, "<init>", "()V"⟩
abbrev cX0_forget : ByteArray := prog_2_method_2_code
def yX0_forget : MethodName := ⟨RX0, "forget", "()V"⟩
abbrev cX0_offer : ByteArray := prog_2_method_3_code
def yX0_offer : MethodName := ⟨RX0, "offer", "(II)V"⟩
def RX1 : String := "SlipWall$Boss"
def TX1 : u_T := fun k => match k with
  | _ => ("", "", "", false)
def tyX1 : Nat → FieldType := fun k => match k with
  | _ => .int
theorem nmX1 : ∀ a, a < 0 → ∀ b, b < 0 → a ≠ b → (TX1 a).2.1 ≠ (TX1 b).2.1 := by decide +kernel
theorem tyX1_ok : ∀ k, k < 0 → parseFieldDescriptor (TX1 k).2.2.1 = some (tyX1 k) := by decide +kernel
abbrev cX1_init : ByteArray := prog_3_method_1_code
def yX1_init : MethodName := ⟨RX1, "<init>", "()V"⟩
abbrev cX1_isKind : ByteArray := prog_3_method_2_code
def yX1_isKind : MethodName := ⟨RX1, "isKind", "(I)Z"⟩
abbrev cX1_mayTouch : ByteArray := prog_3_method_3_code
def yX1_mayTouch : MethodName := ⟨RX1, "mayTouch", "(III)Z"⟩
abbrev cX1_prefers : ByteArray := prog_3_method_4_code
def yX1_prefers : MethodName := ⟨RX1, "prefers", "(II)Z"⟩
abbrev cX1_fixes : ByteArray := prog_3_method_5_code
def yX1_fixes : MethodName := ⟨RX1, "fixes", "(I)Z"⟩
def RX2 : String := "SlipWall$Loud"
def TX2 : u_T := fun k => match k with
  | _ => ("", "", "", false)
def tyX2 : Nat → FieldType := fun k => match k with
  | _ => .int
theorem nmX2 : ∀ a, a < 0 → ∀ b, b < 0 → a ≠ b → (TX2 a).2.1 ≠ (TX2 b).2.1 := by decide +kernel
theorem tyX2_ok : ∀ k, k < 0 → parseFieldDescriptor (TX2 k).2.2.1 = some (tyX2 k) := by decide +kernel
abbrev cX2_init : ByteArray := prog_4_method_1_code
def yX2_init : MethodName := ⟨RX2, "<init>", "()V"⟩
abbrev cX2_isKind : ByteArray := prog_4_method_2_code
def yX2_isKind : MethodName := ⟨RX2, "isKind", "(I)Z"⟩
abbrev cX2_mayTouch : ByteArray := prog_4_method_3_code
def yX2_mayTouch : MethodName := ⟨RX2, "mayTouch", "(III)Z"⟩
abbrev cX2_prefers : ByteArray := prog_4_method_4_code
def yX2_prefers : MethodName := ⟨RX2, "prefers", "(II)Z"⟩
abbrev cX2_turns : ByteArray := prog_4_method_5_code
def yX2_turns : MethodName := ⟨RX2, "turns", "()I"⟩
def RX3 : String := "SlipWall$Pen"
def TX3 : u_T := fun k => match k with
  | _ => ("", "", "", false)
def tyX3 : Nat → FieldType := fun k => match k with
  | _ => .int
theorem nmX3 : ∀ a, a < 0 → ∀ b, b < 0 → a ≠ b → (TX3 a).2.1 ≠ (TX3 b).2.1 := by decide +kernel
theorem tyX3_ok : ∀ k, k < 0 → parseFieldDescriptor (TX3 k).2.2.1 = some (tyX3 k) := by decide +kernel
abbrev cX3_init : ByteArray := prog_5_method_1_code
def yX3_init : MethodName := ⟨RX3, "<init>", "()V"⟩
abbrev cX3_isKind : ByteArray := prog_5_method_2_code
def yX3_isKind : MethodName := ⟨RX3, "isKind", "(I)Z"⟩
abbrev cX3_turns : ByteArray := prog_5_method_3_code
def yX3_turns : MethodName := ⟨RX3, "turns", "()I"⟩
abbrev cX3_fixes : ByteArray := prog_5_method_4_code
def yX3_fixes : MethodName := ⟨RX3, "fixes", "(I)Z"⟩
def RX4 : String := "SlipWall$Person"
def TX4 : u_T := fun k => match k with
  | _ => ("", "", "", false)
def tyX4 : Nat → FieldType := fun k => match k with
  | _ => .int
theorem nmX4 : ∀ a, a < 0 → ∀ b, b < 0 → a ≠ b → (TX4 a).2.1 ≠ (TX4 b).2.1 := by decide +kernel
theorem tyX4_ok : ∀ k, k < 0 → parseFieldDescriptor (TX4 k).2.2.1 = some (tyX4 k) := by decide +kernel
abbrev cX4_init : ByteArray := prog_6_method_1_code
def yX4_init : MethodName := ⟨RX4, "<init>", "()V"⟩
abbrev cX4_isKind : ByteArray := prog_6_method_2_code
def yX4_isKind : MethodName := ⟨RX4, "isKind", "(I)Z"⟩
abbrev cX4_mayTouch : ByteArray := prog_6_method_3_code
def yX4_mayTouch : MethodName := ⟨RX4, "mayTouch", "(III)Z"⟩
abbrev cX4_prefers : ByteArray := prog_6_method_4_code
def yX4_prefers : MethodName := ⟨RX4, "prefers", "(II)Z"⟩
abbrev cX4_turns : ByteArray := prog_6_method_5_code
def yX4_turns : MethodName := ⟨RX4, "turns", "()I"⟩
abbrev cX4_fixes : ByteArray := prog_6_method_6_code
def yX4_fixes : MethodName := ⟨RX4, "fixes", "(I)Z"⟩
def RX5 : String := "SlipWall$Quiet"
def TX5 : u_T := fun k => match k with
  | _ => ("", "", "", false)
def tyX5 : Nat → FieldType := fun k => match k with
  | _ => .int
theorem nmX5 : ∀ a, a < 0 → ∀ b, b < 0 → a ≠ b → (TX5 a).2.1 ≠ (TX5 b).2.1 := by decide +kernel
theorem tyX5_ok : ∀ k, k < 0 → parseFieldDescriptor (TX5 k).2.2.1 = some (tyX5 k) := by decide +kernel
abbrev cX5_init : ByteArray := prog_7_method_1_code
def yX5_init : MethodName := ⟨RX5, "<init>", "()V"⟩
abbrev cX5_isKind : ByteArray := prog_7_method_2_code
def yX5_isKind : MethodName := ⟨RX5, "isKind", "(I)Z"⟩
abbrev cX5_mayTouch : ByteArray := prog_7_method_3_code
def yX5_mayTouch : MethodName := ⟨RX5, "mayTouch", "(III)Z"⟩
def RX6 : String := "SlipWall$Room"
def TX6 : u_T := fun k => match k with
  | 0 => ("SlipWall$Room", "kinds", "[LSlipWall$Person;", true)
  | 1 => ("SlipWall$Room", "minute", "I", false)
  | 2 => ("SlipWall$Room", "moves", "I", false)
  | 3 => ("SlipWall$Room", "slips", "I", false)
  | 4 => ("SlipWall$Room", "people", "I", false)
  | 5 => ("SlipWall$Room", "in", "[I", true)
  | 6 => ("SlipWall$Room", "moved", "[I", true)
  | 7 => ("SlipWall$Room", "fixed", "[I", true)
  | 8 => ("SlipWall$Room", "kindOf", "[I", true)
  | 9 => ("SlipWall$Room", "outside", "[I", true)
  | _ => ("SlipWall$Room", "wanted", "[I", true)
def tyX6 : Nat → FieldType := fun k => match k with
  | 0 => .array (.object "SlipWall$Person")
  | 1 => .int
  | 2 => .int
  | 3 => .int
  | 4 => .int
  | 5 => .array .int
  | 6 => .array .int
  | 7 => .array .int
  | 8 => .array .int
  | 9 => .array .int
  | _ => .array .int
theorem nmX6 : ∀ a, a < 11 → ∀ b, b < 11 → a ≠ b → (TX6 a).2.1 ≠ (TX6 b).2.1 := by decide +kernel
theorem tyX6_ok : ∀ k, k < 11 → parseFieldDescriptor (TX6 k).2.2.1 = some (tyX6 k) := by decide +kernel
abbrev cX6_init : ByteArray := prog_8_method_1_code
def yX6_init : MethodName := ⟨RX6, "<init>", "([LSlipWall$Person;)V"⟩
abbrev cX6_wish : ByteArray := prog_8_method_2_code
def yX6_wish : MethodName := ⟨RX6, "wish", "(II)I"⟩
abbrev cX6_copyFrom : ByteArray := prog_8_method_3_code
def yX6_copyFrom : MethodName := ⟨RX6, "copyFrom", "(LSlipWall$Room;)V"⟩
abbrev cX6_addSlip : ByteArray := prog_8_method_4_code
def yX6_addSlip : MethodName := ⟨RX6, "addSlip", "(II)I"⟩
abbrev cX6_addPerson : ByteArray := prog_8_method_5_code
def yX6_addPerson : MethodName := ⟨RX6, "addPerson", "(I)I"⟩
abbrev cX6_whoseTurn : ByteArray := prog_8_method_6_code
def yX6_whoseTurn : MethodName := ⟨RX6, "whoseTurn", "()I"⟩
abbrev cX6_passMinutes : ByteArray := prog_8_method_7_code
def yX6_passMinutes : MethodName := ⟨RX6, "passMinutes", "(I)V"⟩
abbrev cX6_passMinute : ByteArray := prog_8_method_8_code
def yX6_passMinute : MethodName := ⟨RX6, "passMinute", "()I"⟩
abbrev cX6_shift : ByteArray := prog_8_method_9_code
def yX6_shift : MethodName := ⟨RX6, "shift", "(II)V"⟩
abbrev cX6_pickOf : ByteArray := prog_8_method_10_code
def yX6_pickOf : MethodName := ⟨RX6, "pickOf", "(I)I"⟩
abbrev cX6_turnsOf : ByteArray := prog_8_method_11_code
def yX6_turnsOf : MethodName := ⟨RX6, "turnsOf", "(I)I"⟩
abbrev cX6_isOfKind : ByteArray := prog_8_method_12_code
def yX6_isOfKind : MethodName := ⟨RX6, "isOfKind", "(II)Z"⟩
abbrev cX6_pleases : ByteArray := prog_8_method_13_code
def yX6_pleases : MethodName := ⟨RX6, "pleases", "(II)Z"⟩
abbrev cX6_slipsPleasing : ByteArray := prog_8_method_14_code
def yX6_slipsPleasing : MethodName := ⟨RX6, "slipsPleasing", "(I)I"⟩
abbrev cX6_wayCount : ByteArray := prog_8_method_15_code
def yX6_wayCount : MethodName := ⟨RX6, "wayCount", "(I)I"⟩
abbrev cX6_peopleContentWith : ByteArray := prog_8_method_16_code
def yX6_peopleContentWith : MethodName := ⟨RX6, "peopleContentWith", "(I)I"⟩
abbrev cX6_howManyWant : ByteArray := prog_8_method_17_code
def yX6_howManyWant : MethodName := ⟨RX6, "howManyWant", "(II)I"⟩
abbrev cX6_sameWishes : ByteArray := prog_8_method_18_code
def yX6_sameWishes : MethodName := ⟨RX6, "sameWishes", "(II)I"⟩
abbrev cX6_slipsIn : ByteArray := prog_8_method_19_code
def yX6_slipsIn : MethodName := ⟨RX6, "slipsIn", "(I)I"⟩
abbrev cX6_groupsWithSlips : ByteArray := prog_8_method_20_code
def yX6_groupsWithSlips : MethodName := ⟨RX6, "groupsWithSlips", "()I"⟩
abbrev cX6_fixedSlips : ByteArray := prog_8_method_21_code
def yX6_fixedSlips : MethodName := ⟨RX6, "fixedSlips", "()I"⟩
abbrev cX6_movedTogether : ByteArray := prog_8_method_22_code
def yX6_movedTogether : MethodName := ⟨RX6, "movedTogether", "()I"⟩
def RX7 : String := "SlipWall$Row"
def TX7 : u_T := fun k => match k with
  | 0 => ("SlipWall$Row", "bits", "I", false)
  | 1 => ("SlipWall$Row", "size", "I", false)
  | _ => ("SlipWall$Row", "numbers", "[J", true)
def tyX7 : Nat → FieldType := fun k => match k with
  | 0 => .int
  | 1 => .int
  | _ => .array .long
theorem nmX7 : ∀ a, a < 3 → ∀ b, b < 3 → a ≠ b → (TX7 a).2.1 ≠ (TX7 b).2.1 := by decide +kernel
theorem tyX7_ok : ∀ k, k < 3 → parseFieldDescriptor (TX7 k).2.2.1 = some (tyX7 k) := by decide +kernel
abbrev cX7_init : ByteArray := prog_9_method_1_code
def yX7_init : MethodName := ⟨RX7, "<init>", "()V"⟩
abbrev cX7_isMissing : ByteArray := prog_9_method_2_code
def yX7_isMissing : MethodName := ⟨RX7, "isMissing", "()Z"⟩
abbrev cX7_become : ByteArray := prog_9_method_3_code
def yX7_become : MethodName := ⟨RX7, "become", "(II)V"⟩
abbrev cX7_put : ByteArray := prog_9_method_4_code
def yX7_put : MethodName := ⟨RX7, "put", "(IJ)V"⟩
abbrev cX7_hasFrom : ByteArray := prog_9_method_5_code
def yX7_hasFrom : MethodName := ⟨RX7, "hasFrom", "(II)Z"⟩
def RX8 : String := "SlipWall$Shy"
def TX8 : u_T := fun k => match k with
  | _ => ("", "", "", false)
def tyX8 : Nat → FieldType := fun k => match k with
  | _ => .int
theorem nmX8 : ∀ a, a < 0 → ∀ b, b < 0 → a ≠ b → (TX8 a).2.1 ≠ (TX8 b).2.1 := by decide +kernel
theorem tyX8_ok : ∀ k, k < 0 → parseFieldDescriptor (TX8 k).2.2.1 = some (tyX8 k) := by decide +kernel
abbrev cX8_init : ByteArray := prog_10_method_1_code
def yX8_init : MethodName := ⟨RX8, "<init>", "()V"⟩
abbrev cX8_isKind : ByteArray := prog_10_method_2_code
def yX8_isKind : MethodName := ⟨RX8, "isKind", "(I)Z"⟩
abbrev cX8_mayTouch : ByteArray := prog_10_method_3_code
def yX8_mayTouch : MethodName := ⟨RX8, "mayTouch", "(III)Z"⟩
def RX9 : String := "SlipWall$Tape"
def TX9 : u_T := fun k => match k with
  | 0 => ("SlipWall$Tape", "bytes", "[I", true)
  | 1 => ("SlipWall$Tape", "length", "I", false)
  | 2 => ("SlipWall$Tape", "token", "I", false)
  | 3 => ("SlipWall$Tape", "start", "I", false)
  | 4 => ("SlipWall$Tape", "end", "I", false)
  | _ => ("SlipWall$Tape", "number", "I", false)
def tyX9 : Nat → FieldType := fun k => match k with
  | 0 => .array .int
  | 1 => .int
  | 2 => .int
  | 3 => .int
  | 4 => .int
  | _ => .int
theorem nmX9 : ∀ a, a < 6 → ∀ b, b < 6 → a ≠ b → (TX9 a).2.1 ≠ (TX9 b).2.1 := by decide +kernel
theorem tyX9_ok : ∀ k, k < 6 → parseFieldDescriptor (TX9 k).2.2.1 = some (tyX9 k) := by decide +kernel
abbrev cX9_init : ByteArray := prog_11_method_1_code
def yX9_init : MethodName := ⟨RX9, "<init>", "()V"⟩
abbrev cX9_append : ByteArray := prog_11_method_2_code
def yX9_append : MethodName := ⟨RX9, "append", "(I)V"⟩
abbrev cX9_firstToken : ByteArray := prog_11_method_3_code
def yX9_firstToken : MethodName := ⟨RX9, "firstToken", "()V"⟩
abbrev cX9_nextToken : ByteArray := prog_11_method_4_code
def yX9_nextToken : MethodName := ⟨RX9, "nextToken", "()V"⟩
abbrev cX9_takeWord : ByteArray := prog_11_method_5_code
def yX9_takeWord : MethodName := ⟨RX9, "takeWord", "()V"⟩
abbrev cX9_takeNumber : ByteArray := prog_11_method_6_code
def yX9_takeNumber : MethodName := ⟨RX9, "takeNumber", "()V"⟩
abbrev cX9_isLetter : ByteArray := prog_11_method_7_code
def yX9_isLetter : MethodName := ⟨RX9, "isLetter", "(I)Z"⟩
abbrev cX9_isDigit : ByteArray := prog_11_method_8_code
def yX9_isDigit : MethodName := ⟨RX9, "isDigit", "(I)Z"⟩
abbrev cX9_isAtEnd : ByteArray := prog_11_method_9_code
def yX9_isAtEnd : MethodName := ⟨RX9, "isAtEnd", "()Z"⟩
abbrev cX9_isSign : ByteArray := prog_11_method_10_code
def yX9_isSign : MethodName := ⟨RX9, "isSign", "()Z"⟩
abbrev cX9_isNumberUpTo : ByteArray := prog_11_method_11_code
def yX9_isNumberUpTo : MethodName := ⟨RX9, "isNumberUpTo", "(I)Z"⟩
abbrev cX9_isWord : ByteArray := prog_11_method_12_code
def yX9_isWord : MethodName := ⟨RX9, "isWord", "(Ljava/lang/String;)Z"⟩
def RX10 : String := "SlipWall$WallText"
def TX10 : u_T := fun k => match k with
  | _ => ("SlipWall$WallText", "tape", "LSlipWall$Tape;", true)
def tyX10 : Nat → FieldType := fun k => match k with
  | _ => .object "SlipWall$Tape"
theorem nmX10 : ∀ a, a < 1 → ∀ b, b < 1 → a ≠ b → (TX10 a).2.1 ≠ (TX10 b).2.1 := by decide +kernel
theorem tyX10_ok : ∀ k, k < 1 → parseFieldDescriptor (TX10 k).2.2.1 = some (tyX10 k) := by decide +kernel
abbrev cX10_init : ByteArray := prog_12_method_1_code
def yX10_init : MethodName := ⟨RX10, "<init>", "(LSlipWall$Tape;)V"⟩
abbrev cX10_tellTo : ByteArray := prog_12_method_2_code
def yX10_tellTo : MethodName := ⟨RX10, "tellTo", "(LSlipWall$Room;)I"⟩
abbrev cX10_takeItem : ByteArray := prog_12_method_3_code
def yX10_takeItem : MethodName := ⟨RX10, "takeItem", "(LSlipWall$Room;)Z"⟩
abbrev cX10_takeSlip : ByteArray := prog_12_method_4_code
def yX10_takeSlip : MethodName := ⟨RX10, "takeSlip", "(LSlipWall$Room;)Z"⟩
abbrev cX10_takeMoves : ByteArray := prog_12_method_5_code
def yX10_takeMoves : MethodName := ⟨RX10, "takeMoves", "(LSlipWall$Room;)Z"⟩
abbrev cX10_takePerson : ByteArray := prog_12_method_6_code
def yX10_takePerson : MethodName := ⟨RX10, "takePerson", "(LSlipWall$Room;I)Z"⟩
abbrev cX10_kindNamed : ByteArray := prog_12_method_7_code
def yX10_kindNamed : MethodName := ⟨RX10, "kindNamed", "()I"⟩
def RX11 : String := "SlipWall"
def TX11 : u_T := fun k => match k with
  | 0 => ("SlipWall", "here", "LSlipWall$Room;", true)
  | 1 => ("SlipWall", "trial", "LSlipWall$Room;", true)
  | 2 => ("SlipWall", "kept", "LSlipWall$Room;", true)
  | 3 => ("SlipWall", "isKept", "Z", false)
  | 4 => ("SlipWall", "best", "LSlipWall$Best;", true)
  | 5 => ("SlipWall", "tape", "LSlipWall$Tape;", true)
  | 6 => ("SlipWall", "text", "LSlipWall$WallText;", true)
  | 7 => ("SlipWall", "rows", "[LSlipWall$Row;", true)
  | _ => ("SlipWall", "told", "[I", true)
def tyX11 : Nat → FieldType := fun k => match k with
  | 0 => .object "SlipWall$Room"
  | 1 => .object "SlipWall$Room"
  | 2 => .object "SlipWall$Room"
  | 3 => .boolean
  | 4 => .object "SlipWall$Best"
  | 5 => .object "SlipWall$Tape"
  | 6 => .object "SlipWall$WallText"
  | 7 => .array (.object "SlipWall$Row")
  | _ => .array .int
theorem nmX11 : ∀ a, a < 9 → ∀ b, b < 9 → a ≠ b → (TX11 a).2.1 ≠ (TX11 b).2.1 := by decide +kernel
theorem tyX11_ok : ∀ k, k < 9 → parseFieldDescriptor (TX11 k).2.2.1 = some (tyX11 k) := by decide +kernel
abbrev cX11_init : ByteArray := prog_1_method_1_code
def yX11_init : MethodName := ⟨RX11, "<init>", "()V"⟩
abbrev cX11_moves : ByteArray := prog_1_method_2_code
def yX11_moves : MethodName := ⟨RX11, "moves", "(I)I"⟩
abbrev cX11_slip : ByteArray := prog_1_method_3_code
def yX11_slip : MethodName := ⟨RX11, "slip", "(I)I"⟩
abbrev cX11_slipOf : ByteArray := prog_1_method_4_code
def yX11_slipOf : MethodName := ⟨RX11, "slipOf", "(II)I"⟩
abbrev cX11_stick : ByteArray := prog_1_method_5_code
def yX11_stick : MethodName := ⟨RX11, "stick", "(III)I"⟩
abbrev cX11_group : ByteArray := prog_1_method_6_code
def yX11_group : MethodName := ⟨RX11, "group", "(I)I"⟩
abbrev cX11_now : ByteArray := prog_1_method_7_code
def yX11_now : MethodName := ⟨RX11, "now", "(I)I"⟩
abbrev cX11_person : ByteArray := prog_1_method_8_code
def yX11_person : MethodName := ⟨RX11, "person", "(I)I"⟩
abbrev cX11_of : ByteArray := prog_1_method_9_code
def yX11_of : MethodName := ⟨RX11, "of", "(II)I"⟩
abbrev cX11_wants : ByteArray := prog_1_method_10_code
def yX11_wants : MethodName := ⟨RX11, "wants", "(III)I"⟩
abbrev cX11_out : ByteArray := prog_1_method_11_code
def yX11_out : MethodName := ⟨RX11, "out", "(II)I"⟩
abbrev cX11_turn : ByteArray := prog_1_method_12_code
def yX11_turn : MethodName := ⟨RX11, "turn", "(II)I"⟩
abbrev cX11_as : ByteArray := prog_1_method_13_code
def yX11_as : MethodName := ⟨RX11, "as", "(II)I"⟩
abbrev cX11_alike : ByteArray := prog_1_method_14_code
def yX11_alike : MethodName := ⟨RX11, "alike", "(II)I"⟩
abbrev cX11_minutes : ByteArray := prog_1_method_15_code
def yX11_minutes : MethodName := ⟨RX11, "minutes", "(I)I"⟩
abbrev cX11_on : ByteArray := prog_1_method_16_code
def yX11_on : MethodName := ⟨RX11, "on", "(III)I"⟩
abbrev cX11_way : ByteArray := prog_1_method_17_code
def yX11_way : MethodName := ⟨RX11, "way", "(II)I"⟩
abbrev cX11_done : ByteArray := prog_1_method_18_code
def yX11_done : MethodName := ⟨RX11, "done", "()I"⟩
abbrev cX11_moved : ByteArray := prog_1_method_19_code
def yX11_moved : MethodName := ⟨RX11, "moved", "(I)I"⟩
abbrev cX11_rule : ByteArray := prog_1_method_20_code
def yX11_rule : MethodName := ⟨RX11, "rule", "(II)I"⟩
abbrev cX11_send : ByteArray := prog_1_method_21_code
def yX11_send : MethodName := ⟨RX11, "send", "(II)I"⟩
abbrev cX11_kind : ByteArray := prog_1_method_22_code
def yX11_kind : MethodName := ⟨RX11, "kind", "(II)I"⟩
abbrev cX11_pair : ByteArray := prog_1_method_23_code
def yX11_pair : MethodName := ⟨RX11, "pair", "()I"⟩
abbrev cX11_fix : ByteArray := prog_1_method_24_code
def yX11_fix : MethodName := ⟨RX11, "fix", "(I)I"⟩
abbrev cX11_winner : ByteArray := prog_1_method_25_code
def yX11_winner : MethodName := ⟨RX11, "winner", "(I)I"⟩
abbrev cX11_largest : ByteArray := prog_1_method_26_code
def yX11_largest : MethodName := ⟨RX11, "largest", "(I)I"⟩
abbrev cX11_feed : ByteArray := prog_1_method_27_code
def yX11_feed : MethodName := ⟨RX11, "feed", "(II)I"⟩
abbrev cX11_wipe : ByteArray := prog_1_method_28_code
def yX11_wipe : MethodName := ⟨RX11, "wipe", "()I"⟩
abbrev cX11_wall : ByteArray := prog_1_method_29_code
def yX11_wall : MethodName := ⟨RX11, "wall", "()I"⟩
abbrev cX11_sheet : ByteArray := prog_1_method_30_code
def yX11_sheet : MethodName := ⟨RX11, "sheet", "(III)I"⟩
abbrev cX11_write : ByteArray := prog_1_method_31_code
def yX11_write : MethodName := ⟨RX11, "write", "(IIJ)J"⟩
abbrev cX11_copy : ByteArray := prog_1_method_32_code
def yX11_copy : MethodName := ⟨RX11, "copy", "(IIIII)I"⟩
abbrev cX11_lays : ByteArray := prog_1_method_33_code
def yX11_lays : MethodName := ⟨RX11, "lays", "(II)I"⟩
abbrev cX11_book : ByteArray := prog_1_method_34_code
def yX11_book : MethodName := ⟨RX11, "book", "(II)I"⟩
abbrev cX11_read : ByteArray := prog_1_method_35_code
def yX11_read : MethodName := ⟨RX11, "read", "(III)I"⟩
abbrev cX11_image : ByteArray := prog_1_method_36_code
def yX11_image : MethodName := ⟨RX11, "image", "()I"⟩
abbrev cX11_undo : ByteArray := prog_1_method_37_code
def yX11_undo : MethodName := ⟨RX11, "undo", "()I"⟩
abbrev cX11_tear : ByteArray := prog_1_method_38_code
def yX11_tear : MethodName := ⟨RX11, "tear", "()I"⟩
abbrev cX11_count : ByteArray := prog_1_method_39_code
def yX11_count : MethodName := ⟨RX11, "count", "(I)I"⟩
abbrev cX11_status : ByteArray := prog_1_method_40_code
def yX11_status : MethodName := ⟨RX11, "status", "(I)I"⟩
abbrev cX11_within : ByteArray := prog_1_method_41_code
def yX11_within : MethodName := ⟨RX11, "within", "(III)Z"⟩
abbrev cX11_noSlip : ByteArray := prog_1_method_42_code
def yX11_noSlip : MethodName := ⟨RX11, "noSlip", "(I)Z"⟩
abbrev cX11_noPerson : ByteArray := prog_1_method_43_code
def yX11_noPerson : MethodName := ⟨RX11, "noPerson", "(I)Z"⟩
abbrev cX11_noSheet : ByteArray := prog_1_method_44_code
def yX11_noSheet : MethodName := ⟨RX11, "noSheet", "(I)Z"⟩
abbrev cX11_finding : ByteArray := prog_1_method_45_code
def yX11_finding : MethodName := ⟨RX11, "finding", "(I)I"⟩
abbrev cX11_put : ByteArray := prog_1_method_46_code
def yX11_put : MethodName := ⟨RX11, "put", "([IIIII)I"⟩
abbrev cX11_tryOn : ByteArray := prog_1_method_47_code
def yX11_tryOn : MethodName := ⟨RX11, "tryOn", "(I)V"⟩
abbrev cX11_wayOfTrial : ByteArray := prog_1_method_48_code
def yX11_wayOfTrial : MethodName := ⟨RX11, "wayOfTrial", "(II)I"⟩
abbrev cX11_bestOrNone : ByteArray := prog_1_method_49_code
def yX11_bestOrNone : MethodName := ⟨RX11, "bestOrNone", "()I"⟩
abbrev cX11_groupMostWanted : ByteArray := prog_1_method_50_code
def yX11_groupMostWanted : MethodName := ⟨RX11, "groupMostWanted", "(I)I"⟩
abbrev cX11_trialGoesAs : ByteArray := prog_1_method_51_code
def yX11_trialGoesAs : MethodName := ⟨RX11, "trialGoesAs", "(LSlipWall$Row;I)Z"⟩
def RX12 : String := "SlipWallModel"
def TX12 : u_T := fun k => match k with
  | 0 => ("SlipWallModel", "m", "[I", true)
  | 1 => ("SlipWallModel", "kept", "[I", true)
  | 2 => ("SlipWallModel", "was", "[I", true)
  | 3 => ("SlipWallModel", "isKept", "Z", false)
  | 4 => ("SlipWallModel", "found", "[I", true)
  | 5 => ("SlipWallModel", "touched", "I", false)
  | 6 => ("SlipWallModel", "tape", "[I", true)
  | 7 => ("SlipWallModel", "taped", "I", false)
  | 8 => ("SlipWallModel", "token", "I", false)
  | 9 => ("SlipWallModel", "begin", "I", false)
  | 10 => ("SlipWallModel", "at", "I", false)
  | 11 => ("SlipWallModel", "value", "I", false)
  | 12 => ("SlipWallModel", "bad", "Z", false)
  | 13 => ("SlipWallModel", "bitsOf", "[I", true)
  | 14 => ("SlipWallModel", "sizeOf", "[I", true)
  | _ => ("SlipWallModel", "cells", "[J", true)
def tyX12 : Nat → FieldType := fun k => match k with
  | 0 => .array .int
  | 1 => .array .int
  | 2 => .array .int
  | 3 => .boolean
  | 4 => .array .int
  | 5 => .int
  | 6 => .array .int
  | 7 => .int
  | 8 => .int
  | 9 => .int
  | 10 => .int
  | 11 => .int
  | 12 => .boolean
  | 13 => .array .int
  | 14 => .array .int
  | _ => .array .long
theorem nmX12 : ∀ a, a < 16 → ∀ b, b < 16 → a ≠ b → (TX12 a).2.1 ≠ (TX12 b).2.1 := by decide +kernel
theorem tyX12_ok : ∀ k, k < 16 → parseFieldDescriptor (TX12 k).2.2.1 = some (tyX12 k) := by decide +kernel
abbrev cX12_init : ByteArray := prog_14_method_1_code
def yX12_init : MethodName := ⟨RX12, "<init>", "()V"⟩
abbrev cX12_finds : ByteArray := prog_14_method_2_code
def yX12_finds : MethodName := ⟨RX12, "finds", "(I)I"⟩
abbrev cX12_orNone : ByteArray := prog_14_method_3_code
def yX12_orNone : MethodName := ⟨RX12, "orNone", "(I)I"⟩
abbrev cX12_in : ByteArray := prog_14_method_4_code
def yX12_in : MethodName := ⟨RX12, "in", "(JII)Z"⟩
abbrev cX12_held : ByteArray := prog_14_method_5_code
def yX12_held : MethodName := ⟨RX12, "held", "(III)I"⟩
abbrev cX12_copyAll : ByteArray := prog_14_method_6_code
def yX12_copyAll : MethodName := ⟨RX12, "copyAll", "([I[I)V"⟩
abbrev cX12_bits : ByteArray := prog_14_method_7_code
def yX12_bits : MethodName := ⟨RX12, "bits", "(I)I"⟩
abbrev cX12_becomes : ByteArray := prog_14_method_8_code
def yX12_becomes : MethodName := ⟨RX12, "becomes", "(II)I"⟩
abbrev cX12_isSlip : ByteArray := prog_14_method_9_code
def yX12_isSlip : MethodName := ⟨RX12, "isSlip", "(I)Z"⟩
abbrev cX12_isPerson : ByteArray := prog_14_method_10_code
def yX12_isPerson : MethodName := ⟨RX12, "isPerson", "(I)Z"⟩
abbrev cX12_it : ByteArray := prog_14_method_11_code
def yX12_it : MethodName := ⟨RX12, "it", "(II)I"⟩
abbrev cX12_put : ByteArray := prog_14_method_12_code
def yX12_put : MethodName := ⟨RX12, "put", "(III)V"⟩
abbrev cX12_who : ByteArray := prog_14_method_13_code
def yX12_who : MethodName := ⟨RX12, "who", "(II)I"⟩
abbrev cX12_wish : ByteArray := prog_14_method_14_code
def yX12_wish : MethodName := ⟨RX12, "wish", "(II)I"⟩
abbrev cX12_mayTouch : ByteArray := prog_14_method_15_code
def yX12_mayTouch : MethodName := ⟨RX12, "mayTouch", "(II)Z"⟩
abbrev cX12_prefers : ByteArray := prog_14_method_16_code
def yX12_prefers : MethodName := ⟨RX12, "prefers", "(III)Z"⟩
abbrev cX12_picked : ByteArray := prog_14_method_17_code
def yX12_picked : MethodName := ⟨RX12, "picked", "(I)I"⟩
abbrev cX12_turnsOf : ByteArray := prog_14_method_18_code
def yX12_turnsOf : MethodName := ⟨RX12, "turnsOf", "(I)I"⟩
abbrev cX12_doesFix : ByteArray := prog_14_method_19_code
def yX12_doesFix : MethodName := ⟨RX12, "doesFix", "(II)Z"⟩
abbrev cX12_wayOf : ByteArray := prog_14_method_20_code
def yX12_wayOf : MethodName := ⟨RX12, "wayOf", "(I)I"⟩
abbrev cX12_moves : ByteArray := prog_14_method_21_code
def yX12_moves : MethodName := ⟨RX12, "moves", "(I)I"⟩
abbrev cX12_comesTo : ByteArray := prog_14_method_22_code
def yX12_comesTo : MethodName := ⟨RX12, "comesTo", "(II)I"⟩
abbrev cX12_slip : ByteArray := prog_14_method_23_code
def yX12_slip : MethodName := ⟨RX12, "slip", "(I)I"⟩
abbrev cX12_happyWith : ByteArray := prog_14_method_24_code
def yX12_happyWith : MethodName := ⟨RX12, "happyWith", "(I)I"⟩
abbrev cX12_wantMost : ByteArray := prog_14_method_25_code
def yX12_wantMost : MethodName := ⟨RX12, "wantMost", "(I)I"⟩
abbrev cX12_slipOf : ByteArray := prog_14_method_26_code
def yX12_slipOf : MethodName := ⟨RX12, "slipOf", "(II)I"⟩
abbrev cX12_stick : ByteArray := prog_14_method_27_code
def yX12_stick : MethodName := ⟨RX12, "stick", "(III)I"⟩
abbrev cX12_slipsIn : ByteArray := prog_14_method_28_code
def yX12_slipsIn : MethodName := ⟨RX12, "slipsIn", "(I)I"⟩
abbrev cX12_group : ByteArray := prog_14_method_29_code
def yX12_group : MethodName := ⟨RX12, "group", "(I)I"⟩
abbrev cX12_groupsHad : ByteArray := prog_14_method_30_code
def yX12_groupsHad : MethodName := ⟨RX12, "groupsHad", "()I"⟩
abbrev cX12_fixedOnes : ByteArray := prog_14_method_31_code
def yX12_fixedOnes : MethodName := ⟨RX12, "fixedOnes", "()I"⟩
abbrev cX12_allMoved : ByteArray := prog_14_method_32_code
def yX12_allMoved : MethodName := ⟨RX12, "allMoved", "()I"⟩
abbrev cX12_now : ByteArray := prog_14_method_33_code
def yX12_now : MethodName := ⟨RX12, "now", "(I)I"⟩
abbrev cX12_comesAs : ByteArray := prog_14_method_34_code
def yX12_comesAs : MethodName := ⟨RX12, "comesAs", "(I)I"⟩
abbrev cX12_person : ByteArray := prog_14_method_35_code
def yX12_person : MethodName := ⟨RX12, "person", "(I)I"⟩
abbrev cX12_of : ByteArray := prog_14_method_36_code
def yX12_of : MethodName := ⟨RX12, "of", "(II)I"⟩
abbrev cX12_wants : ByteArray := prog_14_method_37_code
def yX12_wants : MethodName := ⟨RX12, "wants", "(III)I"⟩
abbrev cX12_out : ByteArray := prog_14_method_38_code
def yX12_out : MethodName := ⟨RX12, "out", "(II)I"⟩
abbrev cX12_turn : ByteArray := prog_14_method_39_code
def yX12_turn : MethodName := ⟨RX12, "turn", "(II)I"⟩
abbrev cX12_as : ByteArray := prog_14_method_40_code
def yX12_as : MethodName := ⟨RX12, "as", "(II)I"⟩
abbrev cX12_sameOf : ByteArray := prog_14_method_41_code
def yX12_sameOf : MethodName := ⟨RX12, "sameOf", "(II)I"⟩
abbrev cX12_alike : ByteArray := prog_14_method_42_code
def yX12_alike : MethodName := ⟨RX12, "alike", "(II)I"⟩
abbrev cX12_movesOne : ByteArray := prog_14_method_43_code
def yX12_movesOne : MethodName := ⟨RX12, "movesOne", "(I)V"⟩
abbrev cX12_goes : ByteArray := prog_14_method_44_code
def yX12_goes : MethodName := ⟨RX12, "goes", "()V"⟩
abbrev cX12_goesFor : ByteArray := prog_14_method_45_code
def yX12_goesFor : MethodName := ⟨RX12, "goesFor", "(I)V"⟩
abbrev cX12_minutes : ByteArray := prog_14_method_46_code
def yX12_minutes : MethodName := ⟨RX12, "minutes", "(I)I"⟩
abbrev cX12_thinks : ByteArray := prog_14_method_47_code
def yX12_thinks : MethodName := ⟨RX12, "thinks", "()V"⟩
abbrev cX12_putsBack : ByteArray := prog_14_method_48_code
def yX12_putsBack : MethodName := ⟨RX12, "putsBack", "()V"⟩
abbrev cX12_on : ByteArray := prog_14_method_49_code
def yX12_on : MethodName := ⟨RX12, "on", "(III)I"⟩
abbrev cX12_way : ByteArray := prog_14_method_50_code
def yX12_way : MethodName := ⟨RX12, "way", "(II)I"⟩
abbrev cX12_done : ByteArray := prog_14_method_51_code
def yX12_done : MethodName := ⟨RX12, "done", "()I"⟩
abbrev cX12_moved : ByteArray := prog_14_method_52_code
def yX12_moved : MethodName := ⟨RX12, "moved", "(I)I"⟩
abbrev cX12_wayOn : ByteArray := prog_14_method_53_code
def yX12_wayOn : MethodName := ⟨RX12, "wayOn", "(II)I"⟩
abbrev cX12_bestAt : ByteArray := prog_14_method_54_code
def yX12_bestAt : MethodName := ⟨RX12, "bestAt", "(IIII)I"⟩
abbrev cX12_rule : ByteArray := prog_14_method_55_code
def yX12_rule : MethodName := ⟨RX12, "rule", "(II)I"⟩
abbrev cX12_send : ByteArray := prog_14_method_56_code
def yX12_send : MethodName := ⟨RX12, "send", "(II)I"⟩
abbrev cX12_kind : ByteArray := prog_14_method_57_code
def yX12_kind : MethodName := ⟨RX12, "kind", "(II)I"⟩
abbrev cX12_pair : ByteArray := prog_14_method_58_code
def yX12_pair : MethodName := ⟨RX12, "pair", "()I"⟩
abbrev cX12_fix : ByteArray := prog_14_method_59_code
def yX12_fix : MethodName := ⟨RX12, "fix", "(I)I"⟩
abbrev cX12_winner : ByteArray := prog_14_method_60_code
def yX12_winner : MethodName := ⟨RX12, "winner", "(I)I"⟩
abbrev cX12_largest : ByteArray := prog_14_method_61_code
def yX12_largest : MethodName := ⟨RX12, "largest", "(I)I"⟩
abbrev cX12_feed : ByteArray := prog_14_method_62_code
def yX12_feed : MethodName := ⟨RX12, "feed", "(II)I"⟩
abbrev cX12_wipe : ByteArray := prog_14_method_63_code
def yX12_wipe : MethodName := ⟨RX12, "wipe", "()I"⟩
abbrev cX12_isByte : ByteArray := prog_14_method_64_code
def yX12_isByte : MethodName := ⟨RX12, "isByte", "(III)Z"⟩
abbrev cX12_isName : ByteArray := prog_14_method_65_code
def yX12_isName : MethodName := ⟨RX12, "isName", "(II)Z"⟩
abbrev cX12_wordHere : ByteArray := prog_14_method_66_code
def yX12_wordHere : MethodName := ⟨RX12, "wordHere", "()I"⟩
abbrev cX12_reads : ByteArray := prog_14_method_67_code
def yX12_reads : MethodName := ⟨RX12, "reads", "()V"⟩
abbrev cX12_passes : ByteArray := prog_14_method_68_code
def yX12_passes : MethodName := ⟨RX12, "passes", "(I)Z"⟩
abbrev cX12_number : ByteArray := prog_14_method_69_code
def yX12_number : MethodName := ⟨RX12, "number", "(II)I"⟩
abbrev cX12_slipItem : ByteArray := prog_14_method_70_code
def yX12_slipItem : MethodName := ⟨RX12, "slipItem", "()V"⟩
abbrev cX12_personItem : ByteArray := prog_14_method_71_code
def yX12_personItem : MethodName := ⟨RX12, "personItem", "()V"⟩
abbrev cX12_item : ByteArray := prog_14_method_72_code
def yX12_item : MethodName := ⟨RX12, "item", "()V"⟩
abbrev cX12_wall : ByteArray := prog_14_method_73_code
def yX12_wall : MethodName := ⟨RX12, "wall", "()I"⟩
abbrev cX12_isSheet : ByteArray := prog_14_method_74_code
def yX12_isSheet : MethodName := ⟨RX12, "isSheet", "(I)Z"⟩
abbrev cX12_sheet : ByteArray := prog_14_method_75_code
def yX12_sheet : MethodName := ⟨RX12, "sheet", "(III)I"⟩
abbrev cX12_notThere : ByteArray := prog_14_method_76_code
def yX12_notThere : MethodName := ⟨RX12, "notThere", "(I)I"⟩
abbrev cX12_cutTo : ByteArray := prog_14_method_77_code
def yX12_cutTo : MethodName := ⟨RX12, "cutTo", "(IJ)J"⟩
abbrev cX12_write : ByteArray := prog_14_method_78_code
def yX12_write : MethodName := ⟨RX12, "write", "(IIJ)J"⟩
abbrev cX12_notCopied : ByteArray := prog_14_method_79_code
def yX12_notCopied : MethodName := ⟨RX12, "notCopied", "(IIIII)I"⟩
abbrev cX12_copy : ByteArray := prog_14_method_80_code
def yX12_copy : MethodName := ⟨RX12, "copy", "(IIIII)I"⟩
abbrev cX12_lays : ByteArray := prog_14_method_81_code
def yX12_lays : MethodName := ⟨RX12, "lays", "(II)I"⟩
abbrev cX12_book : ByteArray := prog_14_method_82_code
def yX12_book : MethodName := ⟨RX12, "book", "(II)I"⟩
abbrev cX12_isBook : ByteArray := prog_14_method_83_code
def yX12_isBook : MethodName := ⟨RX12, "isBook", "(II)Z"⟩
abbrev cX12_read : ByteArray := prog_14_method_84_code
def yX12_read : MethodName := ⟨RX12, "read", "(III)I"⟩
abbrev cX12_image : ByteArray := prog_14_method_85_code
def yX12_image : MethodName := ⟨RX12, "image", "()I"⟩
abbrev cX12_undo : ByteArray := prog_14_method_86_code
def yX12_undo : MethodName := ⟨RX12, "undo", "()I"⟩
abbrev cX12_tear : ByteArray := prog_14_method_87_code
def yX12_tear : MethodName := ⟨RX12, "tear", "()I"⟩
abbrev cX12_count : ByteArray := prog_14_method_88_code
def yX12_count : MethodName := ⟨RX12, "count", "(I)I"⟩
abbrev cX12_status : ByteArray := prog_14_method_89_code
def yX12_status : MethodName := ⟨RX12, "status", "(I)I"⟩
def RJ6 : String := "java/lang/Integer"
abbrev cJ6_bitCount_0f7a4 : ByteArray := prog_15_method_49_code
def yJ6_bitCount_0f7a4 : MethodName := ⟨RJ6, "bitCount", "(I)I"⟩
def RJ9 : String := "java/lang/Math"
abbrev cJ9_min_7cf53 : ByteArray := prog_16_method_69_code
def yJ9_min_7cf53 : MethodName := ⟨RJ9, "min", "(II)I"⟩
def RJ0 : String := "java/lang/String"
abbrev cJ0_length_8abf5 : ByteArray := prog_17_method_54_code
def yJ0_length_8abf5 : MethodName := ⟨RJ0, "length", "()I"⟩
abbrev cJ0_charAt_5068e : ByteArray := prog_17_method_56_code
def yJ0_charAt_5068e : MethodName := ⟨RJ0, "charAt", "(I)C"⟩
abbrev cJ0_coder_7d493 : ByteArray := prog_17_method_152_code
def yJ0_coder_7d493 : MethodName := ⟨RJ0, "coder", "()B"⟩
abbrev cJ0_isLatin1_aae02 : ByteArray := prog_17_method_154_code
def yJ0_isLatin1_aae02 : MethodName := ⟨RJ0, "isLatin1", "()Z"⟩
abbrev cJ0_checkIndex_df160 : ByteArray := prog_17_method_155_code
def yJ0_checkIndex_df160 : MethodName := ⟨RJ0, "checkIndex", "(II)V"⟩
def RJ1 : String := "java/lang/StringLatin1"
abbrev cJ1_charAt_3b067 : ByteArray := prog_18_method_2_code
def yJ1_charAt_3b067 : MethodName := ⟨RJ1, "charAt", "([BI)C"⟩
def RJ2 : String := "java/lang/StringUTF16"
abbrev cJ2_getChar_3b067 : ByteArray := prog_19_method_5_code
def yJ2_getChar_3b067 : MethodName := ⟨RJ2, "getChar", "([BI)C"⟩
abbrev cJ2_length_9d52b : ByteArray := prog_19_method_6_code
def yJ2_length_9d52b : MethodName := ⟨RJ2, "length", "([B)I"⟩
abbrev cJ2_charAt_3b067 : ByteArray := prog_19_method_83_code
def yJ2_charAt_3b067 : MethodName := ⟨RJ2, "charAt", "([BI)C"⟩
abbrev cJ2_checkIndex_2214a : ByteArray := prog_19_method_91_code
def yJ2_checkIndex_2214a : MethodName := ⟨RJ2, "checkIndex", "(I[B)V"⟩
def RJ10 : String := "java/lang/System"
def RJ3 : String := "jdk/internal/util/Preconditions"
abbrev cJ3_checkIndex_8e157 : ByteArray := prog_21_method_11_code
def yJ3_checkIndex_8e157 : MethodName := ⟨RJ3, "checkIndex", "(IILjava/util/function/BiFunction;)I"⟩
def RL : String := "SlipWallLaw"
abbrev cL_law : ByteArray := code
def yL_law : MethodName := ⟨RL, "law", "([I)Z"⟩
abbrev vwCl : List vw_C := [(RX0, TX0, 2), (RX1, TX1, 0), (RX2, TX2, 0), (RX3, TX3, 0), (RX4, TX4, 0), (RX5, TX5, 0), (RX6, TX6, 11), (RX7, TX7, 3), (RX8, TX8, 0), (RX9, TX9, 6), (RX10, TX10, 1), (RX11, TX11, 9), (RX12, TX12, 16)]
end
section
theorem dX0_init_0 : decode cX0_init 0 = .ok (.aload_n 0, 1) := by decide +kernel
theorem dX0_init_1 : decode cX0_init 1 = .ok (.invokespecial 3, 3) := by decide +kernel
theorem dX0_init_4 : decode cX0_init 4 = .ok (.aload_n 0, 1) := by decide +kernel
theorem dX0_init_5 : decode cX0_init 5 = .ok (.iconst (-1), 1) := by decide +kernel
theorem dX0_init_6 : decode cX0_init 6 = .ok (.putfield 9, 3) := by decide +kernel
theorem dX0_init_9 : decode cX0_init 9 = .ok (.aload_n 0, 1) := by decide +kernel
theorem dX0_init_10 : decode cX0_init 10 = .ok (.iconst 0, 1) := by decide +kernel
theorem dX0_init_11 : decode cX0_init 11 = .ok (.putfield 15, 3) := by decide +kernel
theorem dX0_init_14 : decode cX0_init 14 = .ok (.return_, 1) := by decide +kernel
theorem dX0_forget_0 : decode cX0_forget 0 = .ok (.aload_n 0, 1) := by decide +kernel
theorem dX0_forget_1 : decode cX0_forget 1 = .ok (.iconst (-1), 1) := by decide +kernel
theorem dX0_forget_2 : decode cX0_forget 2 = .ok (.putfield 9, 3) := by decide +kernel
theorem dX0_forget_5 : decode cX0_forget 5 = .ok (.aload_n 0, 1) := by decide +kernel
theorem dX0_forget_6 : decode cX0_forget 6 = .ok (.iconst 0, 1) := by decide +kernel
theorem dX0_forget_7 : decode cX0_forget 7 = .ok (.putfield 15, 3) := by decide +kernel
theorem dX0_forget_10 : decode cX0_forget 10 = .ok (.return_, 1) := by decide +kernel
theorem dX0_offer_0 : decode cX0_offer 0 = .ok (.aload_n 0, 1) := by decide +kernel
theorem dX0_offer_1 : decode cX0_offer 1 = .ok (.getfield 9, 3) := by decide +kernel
theorem dX0_offer_4 : decode cX0_offer 4 = .ok (.iconst (-1), 1) := by decide +kernel
theorem dX0_offer_5 : decode cX0_offer 5 = .ok (.if_icmp .eq 11, 3) := by decide +kernel
theorem dX0_offer_8 : decode cX0_offer 8 = .ok (.iload_n 2, 1) := by decide +kernel
theorem dX0_offer_9 : decode cX0_offer 9 = .ok (.aload_n 0, 1) := by decide +kernel
theorem dX0_offer_10 : decode cX0_offer 10 = .ok (.getfield 15, 3) := by decide +kernel
theorem dX0_offer_13 : decode cX0_offer 13 = .ok (.if_icmp .le 13, 3) := by decide +kernel
theorem dX0_offer_16 : decode cX0_offer 16 = .ok (.aload_n 0, 1) := by decide +kernel
theorem dX0_offer_17 : decode cX0_offer 17 = .ok (.iload_n 1, 1) := by decide +kernel
theorem dX0_offer_18 : decode cX0_offer 18 = .ok (.putfield 9, 3) := by decide +kernel
theorem dX0_offer_21 : decode cX0_offer 21 = .ok (.aload_n 0, 1) := by decide +kernel
theorem dX0_offer_22 : decode cX0_offer 22 = .ok (.iload_n 2, 1) := by decide +kernel
theorem dX0_offer_23 : decode cX0_offer 23 = .ok (.putfield 15, 3) := by decide +kernel
theorem dX0_offer_26 : decode cX0_offer 26 = .ok (.return_, 1) := by decide +kernel
theorem dX1_init_0 : decode cX1_init 0 = .ok (.aload_n 0, 1) := by decide +kernel
theorem dX1_init_1 : decode cX1_init 1 = .ok (.invokespecial 1, 3) := by decide +kernel
theorem dX1_init_4 : decode cX1_init 4 = .ok (.return_, 1) := by decide +kernel
theorem dX1_isKind_0 : decode cX1_isKind 0 = .ok (.iload_n 1, 1) := by decide +kernel
theorem dX1_isKind_1 : decode cX1_isKind 1 = .ok (.iconst 3, 1) := by decide +kernel
theorem dX1_isKind_2 : decode cX1_isKind 2 = .ok (.if_icmp .eq 11, 3) := by decide +kernel
theorem dX1_isKind_5 : decode cX1_isKind 5 = .ok (.aload_n 0, 1) := by decide +kernel
theorem dX1_isKind_6 : decode cX1_isKind 6 = .ok (.iload_n 1, 1) := by decide +kernel
theorem dX1_isKind_7 : decode cX1_isKind 7 = .ok (.invokespecial 7, 3) := by decide +kernel
theorem dX1_isKind_10 : decode cX1_isKind 10 = .ok (.ifCond .eq 7, 3) := by decide +kernel
theorem dX1_isKind_13 : decode cX1_isKind 13 = .ok (.iconst 1, 1) := by decide +kernel
theorem dX1_isKind_14 : decode cX1_isKind 14 = .ok (.goto 4, 3) := by decide +kernel
theorem dX1_isKind_17 : decode cX1_isKind 17 = .ok (.iconst 0, 1) := by decide +kernel
theorem dX1_isKind_18 : decode cX1_isKind 18 = .ok (.ireturn, 1) := by decide +kernel
theorem dX1_mayTouch_0 : decode cX1_mayTouch 0 = .ok (.iconst 1, 1) := by decide +kernel
theorem dX1_mayTouch_1 : decode cX1_mayTouch 1 = .ok (.ireturn, 1) := by decide +kernel
theorem dX1_prefers_0 : decode cX1_prefers 0 = .ok (.iload_n 1, 1) := by decide +kernel
theorem dX1_prefers_1 : decode cX1_prefers 1 = .ok (.iload_n 2, 1) := by decide +kernel
theorem dX1_prefers_2 : decode cX1_prefers 2 = .ok (.if_icmp .le 7, 3) := by decide +kernel
theorem dX1_prefers_5 : decode cX1_prefers 5 = .ok (.iconst 1, 1) := by decide +kernel
theorem dX1_prefers_6 : decode cX1_prefers 6 = .ok (.goto 4, 3) := by decide +kernel
theorem dX1_prefers_9 : decode cX1_prefers 9 = .ok (.iconst 0, 1) := by decide +kernel
theorem dX1_prefers_10 : decode cX1_prefers 10 = .ok (.ireturn, 1) := by decide +kernel
theorem dX1_fixes_0 : decode cX1_fixes 0 = .ok (.iconst 1, 1) := by decide +kernel
theorem dX1_fixes_1 : decode cX1_fixes 1 = .ok (.ireturn, 1) := by decide +kernel
theorem dX2_init_0 : decode cX2_init 0 = .ok (.aload_n 0, 1) := by decide +kernel
theorem dX2_init_1 : decode cX2_init 1 = .ok (.invokespecial 1, 3) := by decide +kernel
theorem dX2_init_4 : decode cX2_init 4 = .ok (.return_, 1) := by decide +kernel
theorem dX2_isKind_0 : decode cX2_isKind 0 = .ok (.iload_n 1, 1) := by decide +kernel
theorem dX2_isKind_1 : decode cX2_isKind 1 = .ok (.iconst 1, 1) := by decide +kernel
theorem dX2_isKind_2 : decode cX2_isKind 2 = .ok (.if_icmp .eq 11, 3) := by decide +kernel
theorem dX2_isKind_5 : decode cX2_isKind 5 = .ok (.aload_n 0, 1) := by decide +kernel
theorem dX2_isKind_6 : decode cX2_isKind 6 = .ok (.iload_n 1, 1) := by decide +kernel
theorem dX2_isKind_7 : decode cX2_isKind 7 = .ok (.invokespecial 7, 3) := by decide +kernel
theorem dX2_isKind_10 : decode cX2_isKind 10 = .ok (.ifCond .eq 7, 3) := by decide +kernel
theorem dX2_isKind_13 : decode cX2_isKind 13 = .ok (.iconst 1, 1) := by decide +kernel
theorem dX2_isKind_14 : decode cX2_isKind 14 = .ok (.goto 4, 3) := by decide +kernel
theorem dX2_isKind_17 : decode cX2_isKind 17 = .ok (.iconst 0, 1) := by decide +kernel
theorem dX2_isKind_18 : decode cX2_isKind 18 = .ok (.ireturn, 1) := by decide +kernel
theorem dX2_mayTouch_0 : decode cX2_mayTouch 0 = .ok (.aload_n 0, 1) := by decide +kernel
theorem dX2_mayTouch_1 : decode cX2_mayTouch 1 = .ok (.iload_n 1, 1) := by decide +kernel
theorem dX2_mayTouch_2 : decode cX2_mayTouch 2 = .ok (.iload_n 2, 1) := by decide +kernel
theorem dX2_mayTouch_3 : decode cX2_mayTouch 3 = .ok (.iload_n 3, 1) := by decide +kernel
theorem dX2_mayTouch_4 : decode cX2_mayTouch 4 = .ok (.invokespecial 11, 3) := by decide +kernel
theorem dX2_mayTouch_7 : decode cX2_mayTouch 7 = .ok (.ifCond .ne 8, 3) := by decide +kernel
theorem dX2_mayTouch_10 : decode cX2_mayTouch 10 = .ok (.iload_n 1, 1) := by decide +kernel
theorem dX2_mayTouch_11 : decode cX2_mayTouch 11 = .ok (.iconst 2, 1) := by decide +kernel
theorem dX2_mayTouch_12 : decode cX2_mayTouch 12 = .ok (.if_icmp .ge 7, 3) := by decide +kernel
theorem dX2_mayTouch_15 : decode cX2_mayTouch 15 = .ok (.iconst 1, 1) := by decide +kernel
theorem dX2_mayTouch_16 : decode cX2_mayTouch 16 = .ok (.goto 4, 3) := by decide +kernel
theorem dX2_mayTouch_19 : decode cX2_mayTouch 19 = .ok (.iconst 0, 1) := by decide +kernel
theorem dX2_mayTouch_20 : decode cX2_mayTouch 20 = .ok (.ireturn, 1) := by decide +kernel
theorem dX2_prefers_0 : decode cX2_prefers 0 = .ok (.iconst 1, 1) := by decide +kernel
theorem dX2_prefers_1 : decode cX2_prefers 1 = .ok (.ireturn, 1) := by decide +kernel
theorem dX2_turns_0 : decode cX2_turns 0 = .ok (.aload_n 0, 1) := by decide +kernel
theorem dX2_turns_1 : decode cX2_turns 1 = .ok (.invokespecial 15, 3) := by decide +kernel
theorem dX2_turns_4 : decode cX2_turns 4 = .ok (.iconst 1, 1) := by decide +kernel
theorem dX2_turns_5 : decode cX2_turns 5 = .ok (.iadd, 1) := by decide +kernel
theorem dX2_turns_6 : decode cX2_turns 6 = .ok (.ireturn, 1) := by decide +kernel
theorem dX3_init_0 : decode cX3_init 0 = .ok (.aload_n 0, 1) := by decide +kernel
theorem dX3_init_1 : decode cX3_init 1 = .ok (.invokespecial 1, 3) := by decide +kernel
theorem dX3_init_4 : decode cX3_init 4 = .ok (.return_, 1) := by decide +kernel
theorem dX3_isKind_0 : decode cX3_isKind 0 = .ok (.iload_n 1, 1) := by decide +kernel
theorem dX3_isKind_1 : decode cX3_isKind 1 = .ok (.iconst 4, 1) := by decide +kernel
theorem dX3_isKind_2 : decode cX3_isKind 2 = .ok (.if_icmp .eq 11, 3) := by decide +kernel
theorem dX3_isKind_5 : decode cX3_isKind 5 = .ok (.aload_n 0, 1) := by decide +kernel
theorem dX3_isKind_6 : decode cX3_isKind 6 = .ok (.iload_n 1, 1) := by decide +kernel
theorem dX3_isKind_7 : decode cX3_isKind 7 = .ok (.invokespecial 7, 3) := by decide +kernel
theorem dX3_isKind_10 : decode cX3_isKind 10 = .ok (.ifCond .eq 7, 3) := by decide +kernel
theorem dX3_isKind_13 : decode cX3_isKind 13 = .ok (.iconst 1, 1) := by decide +kernel
theorem dX3_isKind_14 : decode cX3_isKind 14 = .ok (.goto 4, 3) := by decide +kernel
theorem dX3_isKind_17 : decode cX3_isKind 17 = .ok (.iconst 0, 1) := by decide +kernel
theorem dX3_isKind_18 : decode cX3_isKind 18 = .ok (.ireturn, 1) := by decide +kernel
theorem dX3_turns_0 : decode cX3_turns 0 = .ok (.aload_n 0, 1) := by decide +kernel
theorem dX3_turns_1 : decode cX3_turns 1 = .ok (.invokespecial 11, 3) := by decide +kernel
theorem dX3_turns_4 : decode cX3_turns 4 = .ok (.iconst 1, 1) := by decide +kernel
theorem dX3_turns_5 : decode cX3_turns 5 = .ok (.iadd, 1) := by decide +kernel
theorem dX3_turns_6 : decode cX3_turns 6 = .ok (.ireturn, 1) := by decide +kernel
theorem dX3_fixes_0 : decode cX3_fixes 0 = .ok (.iload_n 1, 1) := by decide +kernel
theorem dX3_fixes_1 : decode cX3_fixes 1 = .ok (.iconst 5, 1) := by decide +kernel
theorem dX3_fixes_2 : decode cX3_fixes 2 = .ok (.if_icmp .lt 7, 3) := by decide +kernel
theorem dX3_fixes_5 : decode cX3_fixes 5 = .ok (.iconst 1, 1) := by decide +kernel
theorem dX3_fixes_6 : decode cX3_fixes 6 = .ok (.goto 4, 3) := by decide +kernel
theorem dX3_fixes_9 : decode cX3_fixes 9 = .ok (.iconst 0, 1) := by decide +kernel
theorem dX3_fixes_10 : decode cX3_fixes 10 = .ok (.ireturn, 1) := by decide +kernel
theorem dX4_init_0 : decode cX4_init 0 = .ok (.aload_n 0, 1) := by decide +kernel
theorem dX4_init_1 : decode cX4_init 1 = .ok (.invokespecial 1, 3) := by decide +kernel
theorem dX4_init_4 : decode cX4_init 4 = .ok (.return_, 1) := by decide +kernel
theorem dX4_isKind_0 : decode cX4_isKind 0 = .ok (.iload_n 1, 1) := by decide +kernel
theorem dX4_isKind_1 : decode cX4_isKind 1 = .ok (.ifCond .ne 7, 3) := by decide +kernel
theorem dX4_isKind_4 : decode cX4_isKind 4 = .ok (.iconst 1, 1) := by decide +kernel
theorem dX4_isKind_5 : decode cX4_isKind 5 = .ok (.goto 4, 3) := by decide +kernel
theorem dX4_isKind_8 : decode cX4_isKind 8 = .ok (.iconst 0, 1) := by decide +kernel
theorem dX4_isKind_9 : decode cX4_isKind 9 = .ok (.ireturn, 1) := by decide +kernel
theorem dX4_mayTouch_0 : decode cX4_mayTouch 0 = .ok (.iload_n 1, 1) := by decide +kernel
theorem dX4_mayTouch_1 : decode cX4_mayTouch 1 = .ok (.iload_n 2, 1) := by decide +kernel
theorem dX4_mayTouch_2 : decode cX4_mayTouch 2 = .ok (.if_icmp .ge 7, 3) := by decide +kernel
theorem dX4_mayTouch_5 : decode cX4_mayTouch 5 = .ok (.iconst 1, 1) := by decide +kernel
theorem dX4_mayTouch_6 : decode cX4_mayTouch 6 = .ok (.goto 4, 3) := by decide +kernel
theorem dX4_mayTouch_9 : decode cX4_mayTouch 9 = .ok (.iconst 0, 1) := by decide +kernel
theorem dX4_mayTouch_10 : decode cX4_mayTouch 10 = .ok (.ireturn, 1) := by decide +kernel
theorem dX4_prefers_0 : decode cX4_prefers 0 = .ok (.iconst 0, 1) := by decide +kernel
theorem dX4_prefers_1 : decode cX4_prefers 1 = .ok (.ireturn, 1) := by decide +kernel
theorem dX4_turns_0 : decode cX4_turns 0 = .ok (.iconst 1, 1) := by decide +kernel
theorem dX4_turns_1 : decode cX4_turns 1 = .ok (.ireturn, 1) := by decide +kernel
theorem dX4_fixes_0 : decode cX4_fixes 0 = .ok (.iconst 0, 1) := by decide +kernel
theorem dX4_fixes_1 : decode cX4_fixes 1 = .ok (.ireturn, 1) := by decide +kernel
theorem dX5_init_0 : decode cX5_init 0 = .ok (.aload_n 0, 1) := by decide +kernel
theorem dX5_init_1 : decode cX5_init 1 = .ok (.invokespecial 1, 3) := by decide +kernel
theorem dX5_init_4 : decode cX5_init 4 = .ok (.return_, 1) := by decide +kernel
theorem dX5_isKind_0 : decode cX5_isKind 0 = .ok (.iload_n 1, 1) := by decide +kernel
theorem dX5_isKind_1 : decode cX5_isKind 1 = .ok (.iconst 5, 1) := by decide +kernel
theorem dX5_isKind_2 : decode cX5_isKind 2 = .ok (.if_icmp .eq 11, 3) := by decide +kernel
theorem dX5_isKind_5 : decode cX5_isKind 5 = .ok (.aload_n 0, 1) := by decide +kernel
theorem dX5_isKind_6 : decode cX5_isKind 6 = .ok (.iload_n 1, 1) := by decide +kernel
theorem dX5_isKind_7 : decode cX5_isKind 7 = .ok (.invokespecial 7, 3) := by decide +kernel
theorem dX5_isKind_10 : decode cX5_isKind 10 = .ok (.ifCond .eq 7, 3) := by decide +kernel
theorem dX5_isKind_13 : decode cX5_isKind 13 = .ok (.iconst 1, 1) := by decide +kernel
theorem dX5_isKind_14 : decode cX5_isKind 14 = .ok (.goto 4, 3) := by decide +kernel
theorem dX5_isKind_17 : decode cX5_isKind 17 = .ok (.iconst 0, 1) := by decide +kernel
theorem dX5_isKind_18 : decode cX5_isKind 18 = .ok (.ireturn, 1) := by decide +kernel
theorem dX5_mayTouch_0 : decode cX5_mayTouch 0 = .ok (.aload_n 0, 1) := by decide +kernel
theorem dX5_mayTouch_1 : decode cX5_mayTouch 1 = .ok (.iload_n 1, 1) := by decide +kernel
theorem dX5_mayTouch_2 : decode cX5_mayTouch 2 = .ok (.iload_n 2, 1) := by decide +kernel
theorem dX5_mayTouch_3 : decode cX5_mayTouch 3 = .ok (.iload_n 3, 1) := by decide +kernel
theorem dX5_mayTouch_4 : decode cX5_mayTouch 4 = .ok (.invokespecial 11, 3) := by decide +kernel
theorem dX5_mayTouch_7 : decode cX5_mayTouch 7 = .ok (.ifCond .ne 15, 3) := by decide +kernel
theorem dX5_mayTouch_10 : decode cX5_mayTouch 10 = .ok (.iload_n 3, 1) := by decide +kernel
theorem dX5_mayTouch_11 : decode cX5_mayTouch 11 = .ok (.iconst 2, 1) := by decide +kernel
theorem dX5_mayTouch_12 : decode cX5_mayTouch 12 = .ok (.irem, 1) := by decide +kernel
theorem dX5_mayTouch_13 : decode cX5_mayTouch 13 = .ok (.iconst 1, 1) := by decide +kernel
theorem dX5_mayTouch_14 : decode cX5_mayTouch 14 = .ok (.if_icmp .ne 12, 3) := by decide +kernel
theorem dX5_mayTouch_17 : decode cX5_mayTouch 17 = .ok (.iload_n 1, 1) := by decide +kernel
theorem dX5_mayTouch_18 : decode cX5_mayTouch 18 = .ok (.iload_n 2, 1) := by decide +kernel
theorem dX5_mayTouch_19 : decode cX5_mayTouch 19 = .ok (.if_icmp .ge 7, 3) := by decide +kernel
theorem dX5_mayTouch_22 : decode cX5_mayTouch 22 = .ok (.iconst 1, 1) := by decide +kernel
theorem dX5_mayTouch_23 : decode cX5_mayTouch 23 = .ok (.goto 4, 3) := by decide +kernel
theorem dX5_mayTouch_26 : decode cX5_mayTouch 26 = .ok (.iconst 0, 1) := by decide +kernel
theorem dX5_mayTouch_27 : decode cX5_mayTouch 27 = .ok (.ireturn, 1) := by decide +kernel
theorem dX6_init_0 : decode cX6_init 0 = .ok (.aload_n 0, 1) := by decide +kernel
theorem dX6_init_1 : decode cX6_init 1 = .ok (.invokespecial 3, 3) := by decide +kernel
theorem dX6_init_4 : decode cX6_init 4 = .ok (.aload_n 0, 1) := by decide +kernel
theorem dX6_init_5 : decode cX6_init 5 = .ok (.aload_n 1, 1) := by decide +kernel
theorem dX6_init_6 : decode cX6_init 6 = .ok (.putfield 9, 3) := by decide +kernel
theorem dX6_init_9 : decode cX6_init 9 = .ok (.aload_n 0, 1) := by decide +kernel
theorem dX6_init_10 : decode cX6_init 10 = .ok (.iconst 0, 1) := by decide +kernel
theorem dX6_init_11 : decode cX6_init 11 = .ok (.putfield 15, 3) := by decide +kernel
theorem dX6_init_14 : decode cX6_init 14 = .ok (.aload_n 0, 1) := by decide +kernel
theorem dX6_init_15 : decode cX6_init 15 = .ok (.iconst 3, 1) := by decide +kernel
theorem dX6_init_16 : decode cX6_init 16 = .ok (.putfield 19, 3) := by decide +kernel
theorem dX6_init_19 : decode cX6_init 19 = .ok (.aload_n 0, 1) := by decide +kernel
theorem dX6_init_20 : decode cX6_init 20 = .ok (.iconst 0, 1) := by decide +kernel
theorem dX6_init_21 : decode cX6_init 21 = .ok (.putfield 22, 3) := by decide +kernel
theorem dX6_init_24 : decode cX6_init 24 = .ok (.aload_n 0, 1) := by decide +kernel
theorem dX6_init_25 : decode cX6_init 25 = .ok (.iconst 0, 1) := by decide +kernel
theorem dX6_init_26 : decode cX6_init 26 = .ok (.putfield 25, 3) := by decide +kernel
theorem dX6_init_29 : decode cX6_init 29 = .ok (.aload_n 0, 1) := by decide +kernel
theorem dX6_init_30 : decode cX6_init 30 = .ok (.bipush 10, 2) := by decide +kernel
theorem dX6_init_32 : decode cX6_init 32 = .ok (.newarray .int, 2) := by decide +kernel
theorem dX6_init_34 : decode cX6_init 34 = .ok (.putfield 28, 3) := by decide +kernel
theorem dX6_init_37 : decode cX6_init 37 = .ok (.aload_n 0, 1) := by decide +kernel
theorem dX6_init_38 : decode cX6_init 38 = .ok (.bipush 10, 2) := by decide +kernel
theorem dX6_init_40 : decode cX6_init 40 = .ok (.newarray .int, 2) := by decide +kernel
theorem dX6_init_42 : decode cX6_init 42 = .ok (.putfield 32, 3) := by decide +kernel
theorem dX6_init_45 : decode cX6_init 45 = .ok (.aload_n 0, 1) := by decide +kernel
theorem dX6_init_46 : decode cX6_init 46 = .ok (.bipush 10, 2) := by decide +kernel
theorem dX6_init_48 : decode cX6_init 48 = .ok (.newarray .int, 2) := by decide +kernel
theorem dX6_init_50 : decode cX6_init 50 = .ok (.putfield 35, 3) := by decide +kernel
theorem dX6_init_53 : decode cX6_init 53 = .ok (.aload_n 0, 1) := by decide +kernel
theorem dX6_init_54 : decode cX6_init 54 = .ok (.bipush 6, 2) := by decide +kernel
theorem dX6_init_56 : decode cX6_init 56 = .ok (.newarray .int, 2) := by decide +kernel
theorem dX6_init_58 : decode cX6_init 58 = .ok (.putfield 38, 3) := by decide +kernel
theorem dX6_init_61 : decode cX6_init 61 = .ok (.aload_n 0, 1) := by decide +kernel
theorem dX6_init_62 : decode cX6_init 62 = .ok (.bipush 6, 2) := by decide +kernel
theorem dX6_init_64 : decode cX6_init 64 = .ok (.newarray .int, 2) := by decide +kernel
theorem dX6_init_66 : decode cX6_init 66 = .ok (.putfield 41, 3) := by decide +kernel
theorem dX6_init_69 : decode cX6_init 69 = .ok (.aload_n 0, 1) := by decide +kernel
theorem dX6_init_70 : decode cX6_init 70 = .ok (.bipush 60, 2) := by decide +kernel
theorem dX6_init_72 : decode cX6_init 72 = .ok (.newarray .int, 2) := by decide +kernel
theorem dX6_init_74 : decode cX6_init 74 = .ok (.putfield 44, 3) := by decide +kernel
theorem dX6_init_77 : decode cX6_init 77 = .ok (.return_, 1) := by decide +kernel
theorem dX6_wish_0 : decode cX6_wish 0 = .ok (.iload_n 0, 1) := by decide +kernel
theorem dX6_wish_1 : decode cX6_wish 1 = .ok (.bipush 10, 2) := by decide +kernel
theorem dX6_wish_3 : decode cX6_wish 3 = .ok (.imul, 1) := by decide +kernel
theorem dX6_wish_4 : decode cX6_wish 4 = .ok (.iload_n 1, 1) := by decide +kernel
theorem dX6_wish_5 : decode cX6_wish 5 = .ok (.iadd, 1) := by decide +kernel
theorem dX6_wish_6 : decode cX6_wish 6 = .ok (.ireturn, 1) := by decide +kernel
theorem dX6_copyFrom_0 : decode cX6_copyFrom 0 = .ok (.aload_n 0, 1) := by decide +kernel
theorem dX6_copyFrom_1 : decode cX6_copyFrom 1 = .ok (.aload_n 1, 1) := by decide +kernel
theorem dX6_copyFrom_2 : decode cX6_copyFrom 2 = .ok (.getfield 15, 3) := by decide +kernel
theorem dX6_copyFrom_5 : decode cX6_copyFrom 5 = .ok (.putfield 15, 3) := by decide +kernel
theorem dX6_copyFrom_8 : decode cX6_copyFrom 8 = .ok (.aload_n 0, 1) := by decide +kernel
theorem dX6_copyFrom_9 : decode cX6_copyFrom 9 = .ok (.aload_n 1, 1) := by decide +kernel
theorem dX6_copyFrom_10 : decode cX6_copyFrom 10 = .ok (.getfield 19, 3) := by decide +kernel
theorem dX6_copyFrom_13 : decode cX6_copyFrom 13 = .ok (.putfield 19, 3) := by decide +kernel
theorem dX6_copyFrom_16 : decode cX6_copyFrom 16 = .ok (.aload_n 0, 1) := by decide +kernel
theorem dX6_copyFrom_17 : decode cX6_copyFrom 17 = .ok (.aload_n 1, 1) := by decide +kernel
theorem dX6_copyFrom_18 : decode cX6_copyFrom 18 = .ok (.getfield 22, 3) := by decide +kernel
theorem dX6_copyFrom_21 : decode cX6_copyFrom 21 = .ok (.putfield 22, 3) := by decide +kernel
theorem dX6_copyFrom_24 : decode cX6_copyFrom 24 = .ok (.aload_n 0, 1) := by decide +kernel
theorem dX6_copyFrom_25 : decode cX6_copyFrom 25 = .ok (.aload_n 1, 1) := by decide +kernel
theorem dX6_copyFrom_26 : decode cX6_copyFrom 26 = .ok (.getfield 25, 3) := by decide +kernel
theorem dX6_copyFrom_29 : decode cX6_copyFrom 29 = .ok (.putfield 25, 3) := by decide +kernel
theorem dX6_copyFrom_32 : decode cX6_copyFrom 32 = .ok (.aload_n 1, 1) := by decide +kernel
theorem dX6_copyFrom_33 : decode cX6_copyFrom 33 = .ok (.getfield 28, 3) := by decide +kernel
theorem dX6_copyFrom_36 : decode cX6_copyFrom 36 = .ok (.iconst 0, 1) := by decide +kernel
theorem dX6_copyFrom_37 : decode cX6_copyFrom 37 = .ok (.aload_n 0, 1) := by decide +kernel
theorem dX6_copyFrom_38 : decode cX6_copyFrom 38 = .ok (.getfield 28, 3) := by decide +kernel
theorem dX6_copyFrom_41 : decode cX6_copyFrom 41 = .ok (.iconst 0, 1) := by decide +kernel
theorem dX6_copyFrom_42 : decode cX6_copyFrom 42 = .ok (.bipush 10, 2) := by decide +kernel
theorem dX6_copyFrom_44 : decode cX6_copyFrom 44 = .ok (.invokestatic 47, 3) := by decide +kernel
theorem dX6_copyFrom_47 : decode cX6_copyFrom 47 = .ok (.aload_n 1, 1) := by decide +kernel
theorem dX6_copyFrom_48 : decode cX6_copyFrom 48 = .ok (.getfield 32, 3) := by decide +kernel
theorem dX6_copyFrom_51 : decode cX6_copyFrom 51 = .ok (.iconst 0, 1) := by decide +kernel
theorem dX6_copyFrom_52 : decode cX6_copyFrom 52 = .ok (.aload_n 0, 1) := by decide +kernel
theorem dX6_copyFrom_53 : decode cX6_copyFrom 53 = .ok (.getfield 32, 3) := by decide +kernel
theorem dX6_copyFrom_56 : decode cX6_copyFrom 56 = .ok (.iconst 0, 1) := by decide +kernel
theorem dX6_copyFrom_57 : decode cX6_copyFrom 57 = .ok (.bipush 10, 2) := by decide +kernel
theorem dX6_copyFrom_59 : decode cX6_copyFrom 59 = .ok (.invokestatic 47, 3) := by decide +kernel
theorem dX6_copyFrom_62 : decode cX6_copyFrom 62 = .ok (.aload_n 1, 1) := by decide +kernel
theorem dX6_copyFrom_63 : decode cX6_copyFrom 63 = .ok (.getfield 35, 3) := by decide +kernel
theorem dX6_copyFrom_66 : decode cX6_copyFrom 66 = .ok (.iconst 0, 1) := by decide +kernel
theorem dX6_copyFrom_67 : decode cX6_copyFrom 67 = .ok (.aload_n 0, 1) := by decide +kernel
theorem dX6_copyFrom_68 : decode cX6_copyFrom 68 = .ok (.getfield 35, 3) := by decide +kernel
theorem dX6_copyFrom_71 : decode cX6_copyFrom 71 = .ok (.iconst 0, 1) := by decide +kernel
theorem dX6_copyFrom_72 : decode cX6_copyFrom 72 = .ok (.bipush 10, 2) := by decide +kernel
theorem dX6_copyFrom_74 : decode cX6_copyFrom 74 = .ok (.invokestatic 47, 3) := by decide +kernel
theorem dX6_copyFrom_77 : decode cX6_copyFrom 77 = .ok (.aload_n 1, 1) := by decide +kernel
theorem dX6_copyFrom_78 : decode cX6_copyFrom 78 = .ok (.getfield 38, 3) := by decide +kernel
theorem dX6_copyFrom_81 : decode cX6_copyFrom 81 = .ok (.iconst 0, 1) := by decide +kernel
theorem dX6_copyFrom_82 : decode cX6_copyFrom 82 = .ok (.aload_n 0, 1) := by decide +kernel
theorem dX6_copyFrom_83 : decode cX6_copyFrom 83 = .ok (.getfield 38, 3) := by decide +kernel
theorem dX6_copyFrom_86 : decode cX6_copyFrom 86 = .ok (.iconst 0, 1) := by decide +kernel
theorem dX6_copyFrom_87 : decode cX6_copyFrom 87 = .ok (.bipush 6, 2) := by decide +kernel
theorem dX6_copyFrom_89 : decode cX6_copyFrom 89 = .ok (.invokestatic 47, 3) := by decide +kernel
theorem dX6_copyFrom_92 : decode cX6_copyFrom 92 = .ok (.aload_n 1, 1) := by decide +kernel
theorem dX6_copyFrom_93 : decode cX6_copyFrom 93 = .ok (.getfield 41, 3) := by decide +kernel
theorem dX6_copyFrom_96 : decode cX6_copyFrom 96 = .ok (.iconst 0, 1) := by decide +kernel
theorem dX6_copyFrom_97 : decode cX6_copyFrom 97 = .ok (.aload_n 0, 1) := by decide +kernel
theorem dX6_copyFrom_98 : decode cX6_copyFrom 98 = .ok (.getfield 41, 3) := by decide +kernel
theorem dX6_copyFrom_101 : decode cX6_copyFrom 101 = .ok (.iconst 0, 1) := by decide +kernel
theorem dX6_copyFrom_102 : decode cX6_copyFrom 102 = .ok (.bipush 6, 2) := by decide +kernel
theorem dX6_copyFrom_104 : decode cX6_copyFrom 104 = .ok (.invokestatic 47, 3) := by decide +kernel
theorem dX6_copyFrom_107 : decode cX6_copyFrom 107 = .ok (.aload_n 1, 1) := by decide +kernel
theorem dX6_copyFrom_108 : decode cX6_copyFrom 108 = .ok (.getfield 44, 3) := by decide +kernel
theorem dX6_copyFrom_111 : decode cX6_copyFrom 111 = .ok (.iconst 0, 1) := by decide +kernel
theorem dX6_copyFrom_112 : decode cX6_copyFrom 112 = .ok (.aload_n 0, 1) := by decide +kernel
theorem dX6_copyFrom_113 : decode cX6_copyFrom 113 = .ok (.getfield 44, 3) := by decide +kernel
theorem dX6_copyFrom_116 : decode cX6_copyFrom 116 = .ok (.iconst 0, 1) := by decide +kernel
theorem dX6_copyFrom_117 : decode cX6_copyFrom 117 = .ok (.bipush 60, 2) := by decide +kernel
theorem dX6_copyFrom_119 : decode cX6_copyFrom 119 = .ok (.invokestatic 47, 3) := by decide +kernel
theorem dX6_copyFrom_122 : decode cX6_copyFrom 122 = .ok (.return_, 1) := by decide +kernel
theorem dX6_addSlip_0 : decode cX6_addSlip 0 = .ok (.aload_n 0, 1) := by decide +kernel
theorem dX6_addSlip_1 : decode cX6_addSlip 1 = .ok (.getfield 28, 3) := by decide +kernel
theorem dX6_addSlip_4 : decode cX6_addSlip 4 = .ok (.aload_n 0, 1) := by decide +kernel
theorem dX6_addSlip_5 : decode cX6_addSlip 5 = .ok (.getfield 22, 3) := by decide +kernel
theorem dX6_addSlip_8 : decode cX6_addSlip 8 = .ok (.iload_n 1, 1) := by decide +kernel
theorem dX6_addSlip_9 : decode cX6_addSlip 9 = .ok (.iastore, 1) := by decide +kernel
theorem dX6_addSlip_10 : decode cX6_addSlip 10 = .ok (.aload_n 0, 1) := by decide +kernel
theorem dX6_addSlip_11 : decode cX6_addSlip 11 = .ok (.getfield 32, 3) := by decide +kernel
theorem dX6_addSlip_14 : decode cX6_addSlip 14 = .ok (.aload_n 0, 1) := by decide +kernel
theorem dX6_addSlip_15 : decode cX6_addSlip 15 = .ok (.getfield 22, 3) := by decide +kernel
theorem dX6_addSlip_18 : decode cX6_addSlip 18 = .ok (.iconst 0, 1) := by decide +kernel
theorem dX6_addSlip_19 : decode cX6_addSlip 19 = .ok (.iastore, 1) := by decide +kernel
theorem dX6_addSlip_20 : decode cX6_addSlip 20 = .ok (.aload_n 0, 1) := by decide +kernel
theorem dX6_addSlip_21 : decode cX6_addSlip 21 = .ok (.getfield 35, 3) := by decide +kernel
theorem dX6_addSlip_24 : decode cX6_addSlip 24 = .ok (.aload_n 0, 1) := by decide +kernel
theorem dX6_addSlip_25 : decode cX6_addSlip 25 = .ok (.getfield 22, 3) := by decide +kernel
theorem dX6_addSlip_28 : decode cX6_addSlip 28 = .ok (.iload_n 2, 1) := by decide +kernel
theorem dX6_addSlip_29 : decode cX6_addSlip 29 = .ok (.iastore, 1) := by decide +kernel
theorem dX6_addSlip_30 : decode cX6_addSlip 30 = .ok (.aload_n 0, 1) := by decide +kernel
theorem dX6_addSlip_31 : decode cX6_addSlip 31 = .ok (.dup, 1) := by decide +kernel
theorem dX6_addSlip_32 : decode cX6_addSlip 32 = .ok (.getfield 22, 3) := by decide +kernel
theorem dX6_addSlip_35 : decode cX6_addSlip 35 = .ok (.dup_x1, 1) := by decide +kernel
theorem dX6_addSlip_36 : decode cX6_addSlip 36 = .ok (.iconst 1, 1) := by decide +kernel
theorem dX6_addSlip_37 : decode cX6_addSlip 37 = .ok (.iadd, 1) := by decide +kernel
theorem dX6_addSlip_38 : decode cX6_addSlip 38 = .ok (.putfield 22, 3) := by decide +kernel
theorem dX6_addSlip_41 : decode cX6_addSlip 41 = .ok (.ireturn, 1) := by decide +kernel
theorem dX6_addPerson_0 : decode cX6_addPerson 0 = .ok (.aload_n 0, 1) := by decide +kernel
theorem dX6_addPerson_1 : decode cX6_addPerson 1 = .ok (.getfield 38, 3) := by decide +kernel
theorem dX6_addPerson_4 : decode cX6_addPerson 4 = .ok (.aload_n 0, 1) := by decide +kernel
theorem dX6_addPerson_5 : decode cX6_addPerson 5 = .ok (.getfield 25, 3) := by decide +kernel
theorem dX6_addPerson_8 : decode cX6_addPerson 8 = .ok (.iload_n 1, 1) := by decide +kernel
theorem dX6_addPerson_9 : decode cX6_addPerson 9 = .ok (.iastore, 1) := by decide +kernel
theorem dX6_addPerson_10 : decode cX6_addPerson 10 = .ok (.aload_n 0, 1) := by decide +kernel
theorem dX6_addPerson_11 : decode cX6_addPerson 11 = .ok (.getfield 41, 3) := by decide +kernel
theorem dX6_addPerson_14 : decode cX6_addPerson 14 = .ok (.aload_n 0, 1) := by decide +kernel
theorem dX6_addPerson_15 : decode cX6_addPerson 15 = .ok (.getfield 25, 3) := by decide +kernel
theorem dX6_addPerson_18 : decode cX6_addPerson 18 = .ok (.iconst 0, 1) := by decide +kernel
theorem dX6_addPerson_19 : decode cX6_addPerson 19 = .ok (.iastore, 1) := by decide +kernel
theorem dX6_addPerson_20 : decode cX6_addPerson 20 = .ok (.iconst 0, 1) := by decide +kernel
theorem dX6_addPerson_21 : decode cX6_addPerson 21 = .ok (.istore_n 2, 1) := by decide +kernel
theorem dX6_addPerson_22 : decode cX6_addPerson 22 = .ok (.iload_n 2, 1) := by decide +kernel
theorem dX6_addPerson_23 : decode cX6_addPerson 23 = .ok (.bipush 10, 2) := by decide +kernel
theorem dX6_addPerson_25 : decode cX6_addPerson 25 = .ok (.if_icmp .ge 26, 3) := by decide +kernel
theorem dX6_addPerson_28 : decode cX6_addPerson 28 = .ok (.aload_n 0, 1) := by decide +kernel
theorem dX6_addPerson_29 : decode cX6_addPerson 29 = .ok (.getfield 44, 3) := by decide +kernel
theorem dX6_addPerson_32 : decode cX6_addPerson 32 = .ok (.aload_n 0, 1) := by decide +kernel
theorem dX6_addPerson_33 : decode cX6_addPerson 33 = .ok (.getfield 25, 3) := by decide +kernel
theorem dX6_addPerson_36 : decode cX6_addPerson 36 = .ok (.iload_n 2, 1) := by decide +kernel
theorem dX6_addPerson_37 : decode cX6_addPerson 37 = .ok (.invokestatic 53, 3) := by decide +kernel
theorem dX6_addPerson_40 : decode cX6_addPerson 40 = .ok (.iload_n 2, 1) := by decide +kernel
theorem dX6_addPerson_41 : decode cX6_addPerson 41 = .ok (.bipush 6, 2) := by decide +kernel
theorem dX6_addPerson_43 : decode cX6_addPerson 43 = .ok (.irem, 1) := by decide +kernel
theorem dX6_addPerson_44 : decode cX6_addPerson 44 = .ok (.iastore, 1) := by decide +kernel
theorem dX6_addPerson_45 : decode cX6_addPerson 45 = .ok (.iinc 2 1, 3) := by decide +kernel
theorem dX6_addPerson_48 : decode cX6_addPerson 48 = .ok (.goto (-26), 3) := by decide +kernel
theorem dX6_addPerson_51 : decode cX6_addPerson 51 = .ok (.aload_n 0, 1) := by decide +kernel
theorem dX6_addPerson_52 : decode cX6_addPerson 52 = .ok (.dup, 1) := by decide +kernel
theorem dX6_addPerson_53 : decode cX6_addPerson 53 = .ok (.getfield 25, 3) := by decide +kernel
theorem dX6_addPerson_56 : decode cX6_addPerson 56 = .ok (.dup_x1, 1) := by decide +kernel
theorem dX6_addPerson_57 : decode cX6_addPerson 57 = .ok (.iconst 1, 1) := by decide +kernel
theorem dX6_addPerson_58 : decode cX6_addPerson 58 = .ok (.iadd, 1) := by decide +kernel
theorem dX6_addPerson_59 : decode cX6_addPerson 59 = .ok (.putfield 25, 3) := by decide +kernel
theorem dX6_addPerson_62 : decode cX6_addPerson 62 = .ok (.ireturn, 1) := by decide +kernel
theorem dX6_whoseTurn_0 : decode cX6_whoseTurn 0 = .ok (.aload_n 0, 1) := by decide +kernel
theorem dX6_whoseTurn_1 : decode cX6_whoseTurn 1 = .ok (.getfield 25, 3) := by decide +kernel
theorem dX6_whoseTurn_4 : decode cX6_whoseTurn 4 = .ok (.ifCond .le 15, 3) := by decide +kernel
theorem dX6_whoseTurn_7 : decode cX6_whoseTurn 7 = .ok (.aload_n 0, 1) := by decide +kernel
theorem dX6_whoseTurn_8 : decode cX6_whoseTurn 8 = .ok (.getfield 15, 3) := by decide +kernel
theorem dX6_whoseTurn_11 : decode cX6_whoseTurn 11 = .ok (.aload_n 0, 1) := by decide +kernel
theorem dX6_whoseTurn_12 : decode cX6_whoseTurn 12 = .ok (.getfield 25, 3) := by decide +kernel
theorem dX6_whoseTurn_15 : decode cX6_whoseTurn 15 = .ok (.irem, 1) := by decide +kernel
theorem dX6_whoseTurn_16 : decode cX6_whoseTurn 16 = .ok (.goto 4, 3) := by decide +kernel
theorem dX6_whoseTurn_19 : decode cX6_whoseTurn 19 = .ok (.iconst (-1), 1) := by decide +kernel
theorem dX6_whoseTurn_20 : decode cX6_whoseTurn 20 = .ok (.ireturn, 1) := by decide +kernel
theorem dX6_passMinutes_0 : decode cX6_passMinutes 0 = .ok (.iconst 0, 1) := by decide +kernel
theorem dX6_passMinutes_1 : decode cX6_passMinutes 1 = .ok (.istore_n 2, 1) := by decide +kernel
theorem dX6_passMinutes_2 : decode cX6_passMinutes 2 = .ok (.iload_n 2, 1) := by decide +kernel
theorem dX6_passMinutes_3 : decode cX6_passMinutes 3 = .ok (.iload_n 1, 1) := by decide +kernel
theorem dX6_passMinutes_4 : decode cX6_passMinutes 4 = .ok (.if_icmp .ge 14, 3) := by decide +kernel
theorem dX6_passMinutes_7 : decode cX6_passMinutes 7 = .ok (.aload_n 0, 1) := by decide +kernel
theorem dX6_passMinutes_8 : decode cX6_passMinutes 8 = .ok (.invokevirtual 57, 3) := by decide +kernel
theorem dX6_passMinutes_11 : decode cX6_passMinutes 11 = .ok (.pop, 1) := by decide +kernel
theorem dX6_passMinutes_12 : decode cX6_passMinutes 12 = .ok (.iinc 2 1, 3) := by decide +kernel
theorem dX6_passMinutes_15 : decode cX6_passMinutes 15 = .ok (.goto (-13), 3) := by decide +kernel
theorem dX6_passMinutes_18 : decode cX6_passMinutes 18 = .ok (.return_, 1) := by decide +kernel
theorem dX6_passMinute_0 : decode cX6_passMinute 0 = .ok (.aload_n 0, 1) := by decide +kernel
theorem dX6_passMinute_1 : decode cX6_passMinute 1 = .ok (.invokevirtual 61, 3) := by decide +kernel
theorem dX6_passMinute_4 : decode cX6_passMinute 4 = .ok (.istore_n 1, 1) := by decide +kernel
theorem dX6_passMinute_5 : decode cX6_passMinute 5 = .ok (.iconst 0, 1) := by decide +kernel
theorem dX6_passMinute_6 : decode cX6_passMinute 6 = .ok (.istore_n 2, 1) := by decide +kernel
theorem dX6_passMinute_7 : decode cX6_passMinute 7 = .ok (.iload_n 1, 1) := by decide +kernel
theorem dX6_passMinute_8 : decode cX6_passMinute 8 = .ok (.iconst (-1), 1) := by decide +kernel
theorem dX6_passMinute_9 : decode cX6_passMinute 9 = .ok (.if_icmp .eq 60, 3) := by decide +kernel
theorem dX6_passMinute_12 : decode cX6_passMinute 12 = .ok (.aload_n 0, 1) := by decide +kernel
theorem dX6_passMinute_13 : decode cX6_passMinute 13 = .ok (.getfield 41, 3) := by decide +kernel
theorem dX6_passMinute_16 : decode cX6_passMinute 16 = .ok (.iload_n 1, 1) := by decide +kernel
theorem dX6_passMinute_17 : decode cX6_passMinute 17 = .ok (.iaload, 1) := by decide +kernel
theorem dX6_passMinute_18 : decode cX6_passMinute 18 = .ok (.ifCond .ne 51, 3) := by decide +kernel
theorem dX6_passMinute_21 : decode cX6_passMinute 21 = .ok (.aload_n 0, 1) := by decide +kernel
theorem dX6_passMinute_22 : decode cX6_passMinute 22 = .ok (.iload_n 1, 1) := by decide +kernel
theorem dX6_passMinute_23 : decode cX6_passMinute 23 = .ok (.invokevirtual 64, 3) := by decide +kernel
theorem dX6_passMinute_26 : decode cX6_passMinute 26 = .ok (.istore_n 3, 1) := by decide +kernel
theorem dX6_passMinute_27 : decode cX6_passMinute 27 = .ok (.iconst 0, 1) := by decide +kernel
theorem dX6_passMinute_28 : decode cX6_passMinute 28 = .ok (.istore 4, 2) := by decide +kernel
theorem dX6_passMinute_30 : decode cX6_passMinute 30 = .ok (.iload 4, 2) := by decide +kernel
theorem dX6_passMinute_32 : decode cX6_passMinute 32 = .ok (.iload_n 3, 1) := by decide +kernel
theorem dX6_passMinute_33 : decode cX6_passMinute 33 = .ok (.if_icmp .ge 36, 3) := by decide +kernel
theorem dX6_passMinute_36 : decode cX6_passMinute 36 = .ok (.aload_n 0, 1) := by decide +kernel
theorem dX6_passMinute_37 : decode cX6_passMinute 37 = .ok (.iload_n 1, 1) := by decide +kernel
theorem dX6_passMinute_38 : decode cX6_passMinute 38 = .ok (.invokevirtual 68, 3) := by decide +kernel
theorem dX6_passMinute_41 : decode cX6_passMinute 41 = .ok (.istore 5, 2) := by decide +kernel
theorem dX6_passMinute_43 : decode cX6_passMinute 43 = .ok (.iload 5, 2) := by decide +kernel
theorem dX6_passMinute_45 : decode cX6_passMinute 45 = .ok (.iconst (-1), 1) := by decide +kernel
theorem dX6_passMinute_46 : decode cX6_passMinute 46 = .ok (.if_icmp .eq 17, 3) := by decide +kernel
theorem dX6_passMinute_49 : decode cX6_passMinute 49 = .ok (.aload_n 0, 1) := by decide +kernel
theorem dX6_passMinute_50 : decode cX6_passMinute 50 = .ok (.iload_n 1, 1) := by decide +kernel
theorem dX6_passMinute_51 : decode cX6_passMinute 51 = .ok (.iload 5, 2) := by decide +kernel
theorem dX6_passMinute_53 : decode cX6_passMinute 53 = .ok (.invokevirtual 71, 3) := by decide +kernel
theorem dX6_passMinute_56 : decode cX6_passMinute 56 = .ok (.iload_n 2, 1) := by decide +kernel
theorem dX6_passMinute_57 : decode cX6_passMinute 57 = .ok (.iconst 1, 1) := by decide +kernel
theorem dX6_passMinute_58 : decode cX6_passMinute 58 = .ok (.iload 5, 2) := by decide +kernel
theorem dX6_passMinute_60 : decode cX6_passMinute 60 = .ok (.ishl, 1) := by decide +kernel
theorem dX6_passMinute_61 : decode cX6_passMinute 61 = .ok (.ior, 1) := by decide +kernel
theorem dX6_passMinute_62 : decode cX6_passMinute 62 = .ok (.istore_n 2, 1) := by decide +kernel
theorem dX6_passMinute_63 : decode cX6_passMinute 63 = .ok (.iinc 4 1, 3) := by decide +kernel
theorem dX6_passMinute_66 : decode cX6_passMinute 66 = .ok (.goto (-36), 3) := by decide +kernel
theorem dX6_passMinute_69 : decode cX6_passMinute 69 = .ok (.aload_n 0, 1) := by decide +kernel
theorem dX6_passMinute_70 : decode cX6_passMinute 70 = .ok (.dup, 1) := by decide +kernel
theorem dX6_passMinute_71 : decode cX6_passMinute 71 = .ok (.getfield 15, 3) := by decide +kernel
theorem dX6_passMinute_74 : decode cX6_passMinute 74 = .ok (.iconst 1, 1) := by decide +kernel
theorem dX6_passMinute_75 : decode cX6_passMinute 75 = .ok (.iadd, 1) := by decide +kernel
theorem dX6_passMinute_76 : decode cX6_passMinute 76 = .ok (.putfield 15, 3) := by decide +kernel
theorem dX6_passMinute_79 : decode cX6_passMinute 79 = .ok (.iload_n 2, 1) := by decide +kernel
theorem dX6_passMinute_80 : decode cX6_passMinute 80 = .ok (.ireturn, 1) := by decide +kernel
theorem dX6_shift_0 : decode cX6_shift 0 = .ok (.aload_n 0, 1) := by decide +kernel
theorem dX6_shift_1 : decode cX6_shift 1 = .ok (.getfield 28, 3) := by decide +kernel
theorem dX6_shift_4 : decode cX6_shift 4 = .ok (.iload_n 2, 1) := by decide +kernel
theorem dX6_shift_5 : decode cX6_shift 5 = .ok (.aload_n 0, 1) := by decide +kernel
theorem dX6_shift_6 : decode cX6_shift 6 = .ok (.getfield 44, 3) := by decide +kernel
theorem dX6_shift_9 : decode cX6_shift 9 = .ok (.iload_n 1, 1) := by decide +kernel
theorem dX6_shift_10 : decode cX6_shift 10 = .ok (.iload_n 2, 1) := by decide +kernel
theorem dX6_shift_11 : decode cX6_shift 11 = .ok (.invokestatic 53, 3) := by decide +kernel
theorem dX6_shift_14 : decode cX6_shift 14 = .ok (.iaload, 1) := by decide +kernel
theorem dX6_shift_15 : decode cX6_shift 15 = .ok (.iastore, 1) := by decide +kernel
theorem dX6_shift_16 : decode cX6_shift 16 = .ok (.aload_n 0, 1) := by decide +kernel
theorem dX6_shift_17 : decode cX6_shift 17 = .ok (.getfield 32, 3) := by decide +kernel
theorem dX6_shift_20 : decode cX6_shift 20 = .ok (.iload_n 2, 1) := by decide +kernel
theorem dX6_shift_21 : decode cX6_shift 21 = .ok (.aload_n 0, 1) := by decide +kernel
theorem dX6_shift_22 : decode cX6_shift 22 = .ok (.getfield 32, 3) := by decide +kernel
theorem dX6_shift_25 : decode cX6_shift 25 = .ok (.iload_n 2, 1) := by decide +kernel
theorem dX6_shift_26 : decode cX6_shift 26 = .ok (.iaload, 1) := by decide +kernel
theorem dX6_shift_27 : decode cX6_shift 27 = .ok (.iconst 1, 1) := by decide +kernel
theorem dX6_shift_28 : decode cX6_shift 28 = .ok (.iadd, 1) := by decide +kernel
theorem dX6_shift_29 : decode cX6_shift 29 = .ok (.sipush 999, 3) := by decide +kernel
theorem dX6_shift_32 : decode cX6_shift 32 = .ok (.invokestatic 75, 3) := by decide +kernel
theorem dX6_shift_35 : decode cX6_shift 35 = .ok (.iastore, 1) := by decide +kernel
theorem dX6_shift_36 : decode cX6_shift 36 = .ok (.aload_n 0, 1) := by decide +kernel
theorem dX6_shift_37 : decode cX6_shift 37 = .ok (.getfield 35, 3) := by decide +kernel
theorem dX6_shift_40 : decode cX6_shift 40 = .ok (.iload_n 2, 1) := by decide +kernel
theorem dX6_shift_41 : decode cX6_shift 41 = .ok (.aload_n 0, 1) := by decide +kernel
theorem dX6_shift_42 : decode cX6_shift 42 = .ok (.getfield 9, 3) := by decide +kernel
theorem dX6_shift_45 : decode cX6_shift 45 = .ok (.aload_n 0, 1) := by decide +kernel
theorem dX6_shift_46 : decode cX6_shift 46 = .ok (.getfield 38, 3) := by decide +kernel
theorem dX6_shift_49 : decode cX6_shift 49 = .ok (.iload_n 1, 1) := by decide +kernel
theorem dX6_shift_50 : decode cX6_shift 50 = .ok (.iaload, 1) := by decide +kernel
theorem dX6_shift_51 : decode cX6_shift 51 = .ok (.aaload, 1) := by decide +kernel
theorem dX6_shift_52 : decode cX6_shift 52 = .ok (.aload_n 0, 1) := by decide +kernel
theorem dX6_shift_53 : decode cX6_shift 53 = .ok (.getfield 32, 3) := by decide +kernel
theorem dX6_shift_56 : decode cX6_shift 56 = .ok (.iload_n 2, 1) := by decide +kernel
theorem dX6_shift_57 : decode cX6_shift 57 = .ok (.iaload, 1) := by decide +kernel
theorem dX6_shift_58 : decode cX6_shift 58 = .ok (.invokevirtual 80, 3) := by decide +kernel
theorem dX6_shift_61 : decode cX6_shift 61 = .ok (.ifCond .eq 7, 3) := by decide +kernel
theorem dX6_shift_64 : decode cX6_shift 64 = .ok (.iconst 1, 1) := by decide +kernel
theorem dX6_shift_65 : decode cX6_shift 65 = .ok (.goto 4, 3) := by decide +kernel
theorem dX6_shift_68 : decode cX6_shift 68 = .ok (.iconst 0, 1) := by decide +kernel
theorem dX6_shift_69 : decode cX6_shift 69 = .ok (.iastore, 1) := by decide +kernel
theorem dX6_shift_70 : decode cX6_shift 70 = .ok (.return_, 1) := by decide +kernel
theorem dX6_pickOf_0 : decode cX6_pickOf 0 = .ok (.aload_n 0, 1) := by decide +kernel
theorem dX6_pickOf_1 : decode cX6_pickOf 1 = .ok (.getfield 9, 3) := by decide +kernel
theorem dX6_pickOf_4 : decode cX6_pickOf 4 = .ok (.aload_n 0, 1) := by decide +kernel
theorem dX6_pickOf_5 : decode cX6_pickOf 5 = .ok (.getfield 38, 3) := by decide +kernel
theorem dX6_pickOf_8 : decode cX6_pickOf 8 = .ok (.iload_n 1, 1) := by decide +kernel
theorem dX6_pickOf_9 : decode cX6_pickOf 9 = .ok (.iaload, 1) := by decide +kernel
theorem dX6_pickOf_10 : decode cX6_pickOf 10 = .ok (.aaload, 1) := by decide +kernel
theorem dX6_pickOf_11 : decode cX6_pickOf 11 = .ok (.astore_n 2, 1) := by decide +kernel
theorem dX6_pickOf_12 : decode cX6_pickOf 12 = .ok (.iconst (-1), 1) := by decide +kernel
theorem dX6_pickOf_13 : decode cX6_pickOf 13 = .ok (.istore_n 3, 1) := by decide +kernel
theorem dX6_pickOf_14 : decode cX6_pickOf 14 = .ok (.iconst 0, 1) := by decide +kernel
theorem dX6_pickOf_15 : decode cX6_pickOf 15 = .ok (.istore 4, 2) := by decide +kernel
theorem dX6_pickOf_17 : decode cX6_pickOf 17 = .ok (.iload 4, 2) := by decide +kernel
theorem dX6_pickOf_19 : decode cX6_pickOf 19 = .ok (.aload_n 0, 1) := by decide +kernel
theorem dX6_pickOf_20 : decode cX6_pickOf 20 = .ok (.getfield 22, 3) := by decide +kernel
theorem dX6_pickOf_23 : decode cX6_pickOf 23 = .ok (.if_icmp .ge 79, 3) := by decide +kernel
theorem dX6_pickOf_26 : decode cX6_pickOf 26 = .ok (.aload_n 0, 1) := by decide +kernel
theorem dX6_pickOf_27 : decode cX6_pickOf 27 = .ok (.getfield 35, 3) := by decide +kernel
theorem dX6_pickOf_30 : decode cX6_pickOf 30 = .ok (.iload 4, 2) := by decide +kernel
theorem dX6_pickOf_32 : decode cX6_pickOf 32 = .ok (.iaload, 1) := by decide +kernel
theorem dX6_pickOf_33 : decode cX6_pickOf 33 = .ok (.ifCond .ne 63, 3) := by decide +kernel
theorem dX6_pickOf_36 : decode cX6_pickOf 36 = .ok (.aload_n 0, 1) := by decide +kernel
theorem dX6_pickOf_37 : decode cX6_pickOf 37 = .ok (.iload_n 1, 1) := by decide +kernel
theorem dX6_pickOf_38 : decode cX6_pickOf 38 = .ok (.iload 4, 2) := by decide +kernel
theorem dX6_pickOf_40 : decode cX6_pickOf 40 = .ok (.invokevirtual 86, 3) := by decide +kernel
theorem dX6_pickOf_43 : decode cX6_pickOf 43 = .ok (.ifCond .ne 53, 3) := by decide +kernel
theorem dX6_pickOf_46 : decode cX6_pickOf 46 = .ok (.aload_n 2, 1) := by decide +kernel
theorem dX6_pickOf_47 : decode cX6_pickOf 47 = .ok (.aload_n 0, 1) := by decide +kernel
theorem dX6_pickOf_48 : decode cX6_pickOf 48 = .ok (.getfield 32, 3) := by decide +kernel
theorem dX6_pickOf_51 : decode cX6_pickOf 51 = .ok (.iload 4, 2) := by decide +kernel
theorem dX6_pickOf_53 : decode cX6_pickOf 53 = .ok (.iaload, 1) := by decide +kernel
theorem dX6_pickOf_54 : decode cX6_pickOf 54 = .ok (.aload_n 0, 1) := by decide +kernel
theorem dX6_pickOf_55 : decode cX6_pickOf 55 = .ok (.getfield 19, 3) := by decide +kernel
theorem dX6_pickOf_58 : decode cX6_pickOf 58 = .ok (.aload_n 0, 1) := by decide +kernel
theorem dX6_pickOf_59 : decode cX6_pickOf 59 = .ok (.getfield 15, 3) := by decide +kernel
theorem dX6_pickOf_62 : decode cX6_pickOf 62 = .ok (.invokevirtual 90, 3) := by decide +kernel
theorem dX6_pickOf_65 : decode cX6_pickOf 65 = .ok (.ifCond .eq 31, 3) := by decide +kernel
theorem dX6_pickOf_68 : decode cX6_pickOf 68 = .ok (.iload_n 3, 1) := by decide +kernel
theorem dX6_pickOf_69 : decode cX6_pickOf 69 = .ok (.iconst (-1), 1) := by decide +kernel
theorem dX6_pickOf_70 : decode cX6_pickOf 70 = .ok (.if_icmp .eq 23, 3) := by decide +kernel
theorem dX6_pickOf_73 : decode cX6_pickOf 73 = .ok (.aload_n 2, 1) := by decide +kernel
theorem dX6_pickOf_74 : decode cX6_pickOf 74 = .ok (.aload_n 0, 1) := by decide +kernel
theorem dX6_pickOf_75 : decode cX6_pickOf 75 = .ok (.getfield 32, 3) := by decide +kernel
theorem dX6_pickOf_78 : decode cX6_pickOf 78 = .ok (.iload 4, 2) := by decide +kernel
theorem dX6_pickOf_80 : decode cX6_pickOf 80 = .ok (.iaload, 1) := by decide +kernel
theorem dX6_pickOf_81 : decode cX6_pickOf 81 = .ok (.aload_n 0, 1) := by decide +kernel
theorem dX6_pickOf_82 : decode cX6_pickOf 82 = .ok (.getfield 32, 3) := by decide +kernel
theorem dX6_pickOf_85 : decode cX6_pickOf 85 = .ok (.iload_n 3, 1) := by decide +kernel
theorem dX6_pickOf_86 : decode cX6_pickOf 86 = .ok (.iaload, 1) := by decide +kernel
theorem dX6_pickOf_87 : decode cX6_pickOf 87 = .ok (.invokevirtual 94, 3) := by decide +kernel
theorem dX6_pickOf_90 : decode cX6_pickOf 90 = .ok (.ifCond .eq 6, 3) := by decide +kernel
theorem dX6_pickOf_93 : decode cX6_pickOf 93 = .ok (.iload 4, 2) := by decide +kernel
theorem dX6_pickOf_95 : decode cX6_pickOf 95 = .ok (.istore_n 3, 1) := by decide +kernel
theorem dX6_pickOf_96 : decode cX6_pickOf 96 = .ok (.iinc 4 1, 3) := by decide +kernel
theorem dX6_pickOf_99 : decode cX6_pickOf 99 = .ok (.goto (-82), 3) := by decide +kernel
theorem dX6_pickOf_102 : decode cX6_pickOf 102 = .ok (.iload_n 3, 1) := by decide +kernel
theorem dX6_pickOf_103 : decode cX6_pickOf 103 = .ok (.ireturn, 1) := by decide +kernel
theorem dX6_turnsOf_0 : decode cX6_turnsOf 0 = .ok (.aload_n 0, 1) := by decide +kernel
theorem dX6_turnsOf_1 : decode cX6_turnsOf 1 = .ok (.getfield 9, 3) := by decide +kernel
theorem dX6_turnsOf_4 : decode cX6_turnsOf 4 = .ok (.aload_n 0, 1) := by decide +kernel
theorem dX6_turnsOf_5 : decode cX6_turnsOf 5 = .ok (.getfield 38, 3) := by decide +kernel
theorem dX6_turnsOf_8 : decode cX6_turnsOf 8 = .ok (.iload_n 1, 1) := by decide +kernel
theorem dX6_turnsOf_9 : decode cX6_turnsOf 9 = .ok (.iaload, 1) := by decide +kernel
theorem dX6_turnsOf_10 : decode cX6_turnsOf 10 = .ok (.aaload, 1) := by decide +kernel
theorem dX6_turnsOf_11 : decode cX6_turnsOf 11 = .ok (.invokevirtual 97, 3) := by decide +kernel
theorem dX6_turnsOf_14 : decode cX6_turnsOf 14 = .ok (.ireturn, 1) := by decide +kernel
theorem dX6_isOfKind_0 : decode cX6_isOfKind 0 = .ok (.aload_n 0, 1) := by decide +kernel
theorem dX6_isOfKind_1 : decode cX6_isOfKind 1 = .ok (.getfield 9, 3) := by decide +kernel
theorem dX6_isOfKind_4 : decode cX6_isOfKind 4 = .ok (.aload_n 0, 1) := by decide +kernel
theorem dX6_isOfKind_5 : decode cX6_isOfKind 5 = .ok (.getfield 38, 3) := by decide +kernel
theorem dX6_isOfKind_8 : decode cX6_isOfKind 8 = .ok (.iload_n 1, 1) := by decide +kernel
theorem dX6_isOfKind_9 : decode cX6_isOfKind 9 = .ok (.iaload, 1) := by decide +kernel
theorem dX6_isOfKind_10 : decode cX6_isOfKind 10 = .ok (.aaload, 1) := by decide +kernel
theorem dX6_isOfKind_11 : decode cX6_isOfKind 11 = .ok (.iload_n 2, 1) := by decide +kernel
theorem dX6_isOfKind_12 : decode cX6_isOfKind 12 = .ok (.invokevirtual 100, 3) := by decide +kernel
theorem dX6_isOfKind_15 : decode cX6_isOfKind 15 = .ok (.ireturn, 1) := by decide +kernel
theorem dX6_pleases_0 : decode cX6_pleases 0 = .ok (.aload_n 0, 1) := by decide +kernel
theorem dX6_pleases_1 : decode cX6_pleases 1 = .ok (.getfield 28, 3) := by decide +kernel
theorem dX6_pleases_4 : decode cX6_pleases 4 = .ok (.iload_n 2, 1) := by decide +kernel
theorem dX6_pleases_5 : decode cX6_pleases 5 = .ok (.iaload, 1) := by decide +kernel
theorem dX6_pleases_6 : decode cX6_pleases 6 = .ok (.aload_n 0, 1) := by decide +kernel
theorem dX6_pleases_7 : decode cX6_pleases 7 = .ok (.getfield 44, 3) := by decide +kernel
theorem dX6_pleases_10 : decode cX6_pleases 10 = .ok (.iload_n 1, 1) := by decide +kernel
theorem dX6_pleases_11 : decode cX6_pleases 11 = .ok (.iload_n 2, 1) := by decide +kernel
theorem dX6_pleases_12 : decode cX6_pleases 12 = .ok (.invokestatic 53, 3) := by decide +kernel
theorem dX6_pleases_15 : decode cX6_pleases 15 = .ok (.iaload, 1) := by decide +kernel
theorem dX6_pleases_16 : decode cX6_pleases 16 = .ok (.if_icmp .ne 7, 3) := by decide +kernel
theorem dX6_pleases_19 : decode cX6_pleases 19 = .ok (.iconst 1, 1) := by decide +kernel
theorem dX6_pleases_20 : decode cX6_pleases 20 = .ok (.goto 4, 3) := by decide +kernel
theorem dX6_pleases_23 : decode cX6_pleases 23 = .ok (.iconst 0, 1) := by decide +kernel
theorem dX6_pleases_24 : decode cX6_pleases 24 = .ok (.ireturn, 1) := by decide +kernel
theorem dX6_slipsPleasing_0 : decode cX6_slipsPleasing 0 = .ok (.iconst 0, 1) := by decide +kernel
theorem dX6_slipsPleasing_1 : decode cX6_slipsPleasing 1 = .ok (.istore_n 2, 1) := by decide +kernel
theorem dX6_slipsPleasing_2 : decode cX6_slipsPleasing 2 = .ok (.iconst 0, 1) := by decide +kernel
theorem dX6_slipsPleasing_3 : decode cX6_slipsPleasing 3 = .ok (.istore_n 3, 1) := by decide +kernel
theorem dX6_slipsPleasing_4 : decode cX6_slipsPleasing 4 = .ok (.iload_n 3, 1) := by decide +kernel
theorem dX6_slipsPleasing_5 : decode cX6_slipsPleasing 5 = .ok (.aload_n 0, 1) := by decide +kernel
theorem dX6_slipsPleasing_6 : decode cX6_slipsPleasing 6 = .ok (.getfield 22, 3) := by decide +kernel
theorem dX6_slipsPleasing_9 : decode cX6_slipsPleasing 9 = .ok (.if_icmp .ge 24, 3) := by decide +kernel
theorem dX6_slipsPleasing_12 : decode cX6_slipsPleasing 12 = .ok (.aload_n 0, 1) := by decide +kernel
theorem dX6_slipsPleasing_13 : decode cX6_slipsPleasing 13 = .ok (.iload_n 1, 1) := by decide +kernel
theorem dX6_slipsPleasing_14 : decode cX6_slipsPleasing 14 = .ok (.iload_n 3, 1) := by decide +kernel
theorem dX6_slipsPleasing_15 : decode cX6_slipsPleasing 15 = .ok (.invokevirtual 86, 3) := by decide +kernel
theorem dX6_slipsPleasing_18 : decode cX6_slipsPleasing 18 = .ok (.ifCond .eq 9, 3) := by decide +kernel
theorem dX6_slipsPleasing_21 : decode cX6_slipsPleasing 21 = .ok (.iload_n 2, 1) := by decide +kernel
theorem dX6_slipsPleasing_22 : decode cX6_slipsPleasing 22 = .ok (.iconst 1, 1) := by decide +kernel
theorem dX6_slipsPleasing_23 : decode cX6_slipsPleasing 23 = .ok (.iload_n 3, 1) := by decide +kernel
theorem dX6_slipsPleasing_24 : decode cX6_slipsPleasing 24 = .ok (.ishl, 1) := by decide +kernel
theorem dX6_slipsPleasing_25 : decode cX6_slipsPleasing 25 = .ok (.ior, 1) := by decide +kernel
theorem dX6_slipsPleasing_26 : decode cX6_slipsPleasing 26 = .ok (.istore_n 2, 1) := by decide +kernel
theorem dX6_slipsPleasing_27 : decode cX6_slipsPleasing 27 = .ok (.iinc 3 1, 3) := by decide +kernel
theorem dX6_slipsPleasing_30 : decode cX6_slipsPleasing 30 = .ok (.goto (-26), 3) := by decide +kernel
theorem dX6_slipsPleasing_33 : decode cX6_slipsPleasing 33 = .ok (.iload_n 2, 1) := by decide +kernel
theorem dX6_slipsPleasing_34 : decode cX6_slipsPleasing 34 = .ok (.ireturn, 1) := by decide +kernel
theorem dX6_wayCount_0 : decode cX6_wayCount 0 = .ok (.aload_n 0, 1) := by decide +kernel
theorem dX6_wayCount_1 : decode cX6_wayCount 1 = .ok (.iload_n 1, 1) := by decide +kernel
theorem dX6_wayCount_2 : decode cX6_wayCount 2 = .ok (.invokevirtual 103, 3) := by decide +kernel
theorem dX6_wayCount_5 : decode cX6_wayCount 5 = .ok (.invokestatic 106, 3) := by decide +kernel
theorem dX6_wayCount_8 : decode cX6_wayCount 8 = .ok (.ireturn, 1) := by decide +kernel
theorem dX6_peopleContentWith_0 : decode cX6_peopleContentWith 0 = .ok (.iconst 0, 1) := by decide +kernel
theorem dX6_peopleContentWith_1 : decode cX6_peopleContentWith 1 = .ok (.istore_n 2, 1) := by decide +kernel
theorem dX6_peopleContentWith_2 : decode cX6_peopleContentWith 2 = .ok (.iconst 0, 1) := by decide +kernel
theorem dX6_peopleContentWith_3 : decode cX6_peopleContentWith 3 = .ok (.istore_n 3, 1) := by decide +kernel
theorem dX6_peopleContentWith_4 : decode cX6_peopleContentWith 4 = .ok (.iload_n 3, 1) := by decide +kernel
theorem dX6_peopleContentWith_5 : decode cX6_peopleContentWith 5 = .ok (.aload_n 0, 1) := by decide +kernel
theorem dX6_peopleContentWith_6 : decode cX6_peopleContentWith 6 = .ok (.getfield 25, 3) := by decide +kernel
theorem dX6_peopleContentWith_9 : decode cX6_peopleContentWith 9 = .ok (.if_icmp .ge 24, 3) := by decide +kernel
theorem dX6_peopleContentWith_12 : decode cX6_peopleContentWith 12 = .ok (.aload_n 0, 1) := by decide +kernel
theorem dX6_peopleContentWith_13 : decode cX6_peopleContentWith 13 = .ok (.iload_n 3, 1) := by decide +kernel
theorem dX6_peopleContentWith_14 : decode cX6_peopleContentWith 14 = .ok (.iload_n 1, 1) := by decide +kernel
theorem dX6_peopleContentWith_15 : decode cX6_peopleContentWith 15 = .ok (.invokevirtual 86, 3) := by decide +kernel
theorem dX6_peopleContentWith_18 : decode cX6_peopleContentWith 18 = .ok (.ifCond .eq 9, 3) := by decide +kernel
theorem dX6_peopleContentWith_21 : decode cX6_peopleContentWith 21 = .ok (.iload_n 2, 1) := by decide +kernel
theorem dX6_peopleContentWith_22 : decode cX6_peopleContentWith 22 = .ok (.iconst 1, 1) := by decide +kernel
theorem dX6_peopleContentWith_23 : decode cX6_peopleContentWith 23 = .ok (.iload_n 3, 1) := by decide +kernel
theorem dX6_peopleContentWith_24 : decode cX6_peopleContentWith 24 = .ok (.ishl, 1) := by decide +kernel
theorem dX6_peopleContentWith_25 : decode cX6_peopleContentWith 25 = .ok (.ior, 1) := by decide +kernel
theorem dX6_peopleContentWith_26 : decode cX6_peopleContentWith 26 = .ok (.istore_n 2, 1) := by decide +kernel
theorem dX6_peopleContentWith_27 : decode cX6_peopleContentWith 27 = .ok (.iinc 3 1, 3) := by decide +kernel
theorem dX6_peopleContentWith_30 : decode cX6_peopleContentWith 30 = .ok (.goto (-26), 3) := by decide +kernel
theorem dX6_peopleContentWith_33 : decode cX6_peopleContentWith 33 = .ok (.iload_n 2, 1) := by decide +kernel
theorem dX6_peopleContentWith_34 : decode cX6_peopleContentWith 34 = .ok (.ireturn, 1) := by decide +kernel
theorem dX6_howManyWant_0 : decode cX6_howManyWant 0 = .ok (.iconst 0, 1) := by decide +kernel
theorem dX6_howManyWant_1 : decode cX6_howManyWant 1 = .ok (.istore_n 3, 1) := by decide +kernel
theorem dX6_howManyWant_2 : decode cX6_howManyWant 2 = .ok (.iconst 0, 1) := by decide +kernel
theorem dX6_howManyWant_3 : decode cX6_howManyWant 3 = .ok (.istore 4, 2) := by decide +kernel
theorem dX6_howManyWant_5 : decode cX6_howManyWant 5 = .ok (.iload 4, 2) := by decide +kernel
theorem dX6_howManyWant_7 : decode cX6_howManyWant 7 = .ok (.aload_n 0, 1) := by decide +kernel
theorem dX6_howManyWant_8 : decode cX6_howManyWant 8 = .ok (.getfield 25, 3) := by decide +kernel
theorem dX6_howManyWant_11 : decode cX6_howManyWant 11 = .ok (.if_icmp .ge 27, 3) := by decide +kernel
theorem dX6_howManyWant_14 : decode cX6_howManyWant 14 = .ok (.aload_n 0, 1) := by decide +kernel
theorem dX6_howManyWant_15 : decode cX6_howManyWant 15 = .ok (.getfield 44, 3) := by decide +kernel
theorem dX6_howManyWant_18 : decode cX6_howManyWant 18 = .ok (.iload 4, 2) := by decide +kernel
theorem dX6_howManyWant_20 : decode cX6_howManyWant 20 = .ok (.iload_n 1, 1) := by decide +kernel
theorem dX6_howManyWant_21 : decode cX6_howManyWant 21 = .ok (.invokestatic 53, 3) := by decide +kernel
theorem dX6_howManyWant_24 : decode cX6_howManyWant 24 = .ok (.iaload, 1) := by decide +kernel
theorem dX6_howManyWant_25 : decode cX6_howManyWant 25 = .ok (.iload_n 2, 1) := by decide +kernel
theorem dX6_howManyWant_26 : decode cX6_howManyWant 26 = .ok (.if_icmp .ne 6, 3) := by decide +kernel
theorem dX6_howManyWant_29 : decode cX6_howManyWant 29 = .ok (.iinc 3 1, 3) := by decide +kernel
theorem dX6_howManyWant_32 : decode cX6_howManyWant 32 = .ok (.iinc 4 1, 3) := by decide +kernel
theorem dX6_howManyWant_35 : decode cX6_howManyWant 35 = .ok (.goto (-30), 3) := by decide +kernel
theorem dX6_howManyWant_38 : decode cX6_howManyWant 38 = .ok (.iload_n 3, 1) := by decide +kernel
theorem dX6_howManyWant_39 : decode cX6_howManyWant 39 = .ok (.ireturn, 1) := by decide +kernel
theorem dX6_sameWishes_0 : decode cX6_sameWishes 0 = .ok (.iconst 0, 1) := by decide +kernel
theorem dX6_sameWishes_1 : decode cX6_sameWishes 1 = .ok (.istore_n 3, 1) := by decide +kernel
theorem dX6_sameWishes_2 : decode cX6_sameWishes 2 = .ok (.iconst 0, 1) := by decide +kernel
theorem dX6_sameWishes_3 : decode cX6_sameWishes 3 = .ok (.istore 4, 2) := by decide +kernel
theorem dX6_sameWishes_5 : decode cX6_sameWishes 5 = .ok (.iload 4, 2) := by decide +kernel
theorem dX6_sameWishes_7 : decode cX6_sameWishes 7 = .ok (.aload_n 0, 1) := by decide +kernel
theorem dX6_sameWishes_8 : decode cX6_sameWishes 8 = .ok (.getfield 22, 3) := by decide +kernel
theorem dX6_sameWishes_11 : decode cX6_sameWishes 11 = .ok (.if_icmp .ge 37, 3) := by decide +kernel
theorem dX6_sameWishes_14 : decode cX6_sameWishes 14 = .ok (.aload_n 0, 1) := by decide +kernel
theorem dX6_sameWishes_15 : decode cX6_sameWishes 15 = .ok (.getfield 44, 3) := by decide +kernel
theorem dX6_sameWishes_18 : decode cX6_sameWishes 18 = .ok (.iload_n 1, 1) := by decide +kernel
theorem dX6_sameWishes_19 : decode cX6_sameWishes 19 = .ok (.iload 4, 2) := by decide +kernel
theorem dX6_sameWishes_21 : decode cX6_sameWishes 21 = .ok (.invokestatic 53, 3) := by decide +kernel
theorem dX6_sameWishes_24 : decode cX6_sameWishes 24 = .ok (.iaload, 1) := by decide +kernel
theorem dX6_sameWishes_25 : decode cX6_sameWishes 25 = .ok (.aload_n 0, 1) := by decide +kernel
theorem dX6_sameWishes_26 : decode cX6_sameWishes 26 = .ok (.getfield 44, 3) := by decide +kernel
theorem dX6_sameWishes_29 : decode cX6_sameWishes 29 = .ok (.iload_n 2, 1) := by decide +kernel
theorem dX6_sameWishes_30 : decode cX6_sameWishes 30 = .ok (.iload 4, 2) := by decide +kernel
theorem dX6_sameWishes_32 : decode cX6_sameWishes 32 = .ok (.invokestatic 53, 3) := by decide +kernel
theorem dX6_sameWishes_35 : decode cX6_sameWishes 35 = .ok (.iaload, 1) := by decide +kernel
theorem dX6_sameWishes_36 : decode cX6_sameWishes 36 = .ok (.if_icmp .ne 6, 3) := by decide +kernel
theorem dX6_sameWishes_39 : decode cX6_sameWishes 39 = .ok (.iinc 3 1, 3) := by decide +kernel
theorem dX6_sameWishes_42 : decode cX6_sameWishes 42 = .ok (.iinc 4 1, 3) := by decide +kernel
theorem dX6_sameWishes_45 : decode cX6_sameWishes 45 = .ok (.goto (-40), 3) := by decide +kernel
theorem dX6_sameWishes_48 : decode cX6_sameWishes 48 = .ok (.iload_n 3, 1) := by decide +kernel
theorem dX6_sameWishes_49 : decode cX6_sameWishes 49 = .ok (.ireturn, 1) := by decide +kernel
theorem dX6_slipsIn_0 : decode cX6_slipsIn 0 = .ok (.iconst 0, 1) := by decide +kernel
theorem dX6_slipsIn_1 : decode cX6_slipsIn 1 = .ok (.istore_n 2, 1) := by decide +kernel
theorem dX6_slipsIn_2 : decode cX6_slipsIn 2 = .ok (.iconst 0, 1) := by decide +kernel
theorem dX6_slipsIn_3 : decode cX6_slipsIn 3 = .ok (.istore_n 3, 1) := by decide +kernel
theorem dX6_slipsIn_4 : decode cX6_slipsIn 4 = .ok (.iload_n 3, 1) := by decide +kernel
theorem dX6_slipsIn_5 : decode cX6_slipsIn 5 = .ok (.aload_n 0, 1) := by decide +kernel
theorem dX6_slipsIn_6 : decode cX6_slipsIn 6 = .ok (.getfield 22, 3) := by decide +kernel
theorem dX6_slipsIn_9 : decode cX6_slipsIn 9 = .ok (.if_icmp .ge 25, 3) := by decide +kernel
theorem dX6_slipsIn_12 : decode cX6_slipsIn 12 = .ok (.aload_n 0, 1) := by decide +kernel
theorem dX6_slipsIn_13 : decode cX6_slipsIn 13 = .ok (.getfield 28, 3) := by decide +kernel
theorem dX6_slipsIn_16 : decode cX6_slipsIn 16 = .ok (.iload_n 3, 1) := by decide +kernel
theorem dX6_slipsIn_17 : decode cX6_slipsIn 17 = .ok (.iaload, 1) := by decide +kernel
theorem dX6_slipsIn_18 : decode cX6_slipsIn 18 = .ok (.iload_n 1, 1) := by decide +kernel
theorem dX6_slipsIn_19 : decode cX6_slipsIn 19 = .ok (.if_icmp .ne 9, 3) := by decide +kernel
theorem dX6_slipsIn_22 : decode cX6_slipsIn 22 = .ok (.iload_n 2, 1) := by decide +kernel
theorem dX6_slipsIn_23 : decode cX6_slipsIn 23 = .ok (.iconst 1, 1) := by decide +kernel
theorem dX6_slipsIn_24 : decode cX6_slipsIn 24 = .ok (.iload_n 3, 1) := by decide +kernel
theorem dX6_slipsIn_25 : decode cX6_slipsIn 25 = .ok (.ishl, 1) := by decide +kernel
theorem dX6_slipsIn_26 : decode cX6_slipsIn 26 = .ok (.ior, 1) := by decide +kernel
theorem dX6_slipsIn_27 : decode cX6_slipsIn 27 = .ok (.istore_n 2, 1) := by decide +kernel
theorem dX6_slipsIn_28 : decode cX6_slipsIn 28 = .ok (.iinc 3 1, 3) := by decide +kernel
theorem dX6_slipsIn_31 : decode cX6_slipsIn 31 = .ok (.goto (-27), 3) := by decide +kernel
theorem dX6_slipsIn_34 : decode cX6_slipsIn 34 = .ok (.iload_n 2, 1) := by decide +kernel
theorem dX6_slipsIn_35 : decode cX6_slipsIn 35 = .ok (.ireturn, 1) := by decide +kernel
theorem dX6_groupsWithSlips_0 : decode cX6_groupsWithSlips 0 = .ok (.iconst 0, 1) := by decide +kernel
theorem dX6_groupsWithSlips_1 : decode cX6_groupsWithSlips 1 = .ok (.istore_n 1, 1) := by decide +kernel
theorem dX6_groupsWithSlips_2 : decode cX6_groupsWithSlips 2 = .ok (.iconst 0, 1) := by decide +kernel
theorem dX6_groupsWithSlips_3 : decode cX6_groupsWithSlips 3 = .ok (.istore_n 2, 1) := by decide +kernel
theorem dX6_groupsWithSlips_4 : decode cX6_groupsWithSlips 4 = .ok (.iload_n 2, 1) := by decide +kernel
theorem dX6_groupsWithSlips_5 : decode cX6_groupsWithSlips 5 = .ok (.aload_n 0, 1) := by decide +kernel
theorem dX6_groupsWithSlips_6 : decode cX6_groupsWithSlips 6 = .ok (.getfield 22, 3) := by decide +kernel
theorem dX6_groupsWithSlips_9 : decode cX6_groupsWithSlips 9 = .ok (.if_icmp .ge 30, 3) := by decide +kernel
theorem dX6_groupsWithSlips_12 : decode cX6_groupsWithSlips 12 = .ok (.aload_n 0, 1) := by decide +kernel
theorem dX6_groupsWithSlips_13 : decode cX6_groupsWithSlips 13 = .ok (.getfield 28, 3) := by decide +kernel
theorem dX6_groupsWithSlips_16 : decode cX6_groupsWithSlips 16 = .ok (.iload_n 2, 1) := by decide +kernel
theorem dX6_groupsWithSlips_17 : decode cX6_groupsWithSlips 17 = .ok (.iaload, 1) := by decide +kernel
theorem dX6_groupsWithSlips_18 : decode cX6_groupsWithSlips 18 = .ok (.iconst (-1), 1) := by decide +kernel
theorem dX6_groupsWithSlips_19 : decode cX6_groupsWithSlips 19 = .ok (.if_icmp .eq 14, 3) := by decide +kernel
theorem dX6_groupsWithSlips_22 : decode cX6_groupsWithSlips 22 = .ok (.iload_n 1, 1) := by decide +kernel
theorem dX6_groupsWithSlips_23 : decode cX6_groupsWithSlips 23 = .ok (.iconst 1, 1) := by decide +kernel
theorem dX6_groupsWithSlips_24 : decode cX6_groupsWithSlips 24 = .ok (.aload_n 0, 1) := by decide +kernel
theorem dX6_groupsWithSlips_25 : decode cX6_groupsWithSlips 25 = .ok (.getfield 28, 3) := by decide +kernel
theorem dX6_groupsWithSlips_28 : decode cX6_groupsWithSlips 28 = .ok (.iload_n 2, 1) := by decide +kernel
theorem dX6_groupsWithSlips_29 : decode cX6_groupsWithSlips 29 = .ok (.iaload, 1) := by decide +kernel
theorem dX6_groupsWithSlips_30 : decode cX6_groupsWithSlips 30 = .ok (.ishl, 1) := by decide +kernel
theorem dX6_groupsWithSlips_31 : decode cX6_groupsWithSlips 31 = .ok (.ior, 1) := by decide +kernel
theorem dX6_groupsWithSlips_32 : decode cX6_groupsWithSlips 32 = .ok (.istore_n 1, 1) := by decide +kernel
theorem dX6_groupsWithSlips_33 : decode cX6_groupsWithSlips 33 = .ok (.iinc 2 1, 3) := by decide +kernel
theorem dX6_groupsWithSlips_36 : decode cX6_groupsWithSlips 36 = .ok (.goto (-32), 3) := by decide +kernel
theorem dX6_groupsWithSlips_39 : decode cX6_groupsWithSlips 39 = .ok (.iload_n 1, 1) := by decide +kernel
theorem dX6_groupsWithSlips_40 : decode cX6_groupsWithSlips 40 = .ok (.ireturn, 1) := by decide +kernel
theorem dX6_fixedSlips_0 : decode cX6_fixedSlips 0 = .ok (.iconst 0, 1) := by decide +kernel
theorem dX6_fixedSlips_1 : decode cX6_fixedSlips 1 = .ok (.istore_n 1, 1) := by decide +kernel
theorem dX6_fixedSlips_2 : decode cX6_fixedSlips 2 = .ok (.iconst 0, 1) := by decide +kernel
theorem dX6_fixedSlips_3 : decode cX6_fixedSlips 3 = .ok (.istore_n 2, 1) := by decide +kernel
theorem dX6_fixedSlips_4 : decode cX6_fixedSlips 4 = .ok (.iload_n 2, 1) := by decide +kernel
theorem dX6_fixedSlips_5 : decode cX6_fixedSlips 5 = .ok (.aload_n 0, 1) := by decide +kernel
theorem dX6_fixedSlips_6 : decode cX6_fixedSlips 6 = .ok (.getfield 22, 3) := by decide +kernel
theorem dX6_fixedSlips_9 : decode cX6_fixedSlips 9 = .ok (.if_icmp .ge 25, 3) := by decide +kernel
theorem dX6_fixedSlips_12 : decode cX6_fixedSlips 12 = .ok (.aload_n 0, 1) := by decide +kernel
theorem dX6_fixedSlips_13 : decode cX6_fixedSlips 13 = .ok (.getfield 35, 3) := by decide +kernel
theorem dX6_fixedSlips_16 : decode cX6_fixedSlips 16 = .ok (.iload_n 2, 1) := by decide +kernel
theorem dX6_fixedSlips_17 : decode cX6_fixedSlips 17 = .ok (.iaload, 1) := by decide +kernel
theorem dX6_fixedSlips_18 : decode cX6_fixedSlips 18 = .ok (.iconst 1, 1) := by decide +kernel
theorem dX6_fixedSlips_19 : decode cX6_fixedSlips 19 = .ok (.if_icmp .ne 9, 3) := by decide +kernel
theorem dX6_fixedSlips_22 : decode cX6_fixedSlips 22 = .ok (.iload_n 1, 1) := by decide +kernel
theorem dX6_fixedSlips_23 : decode cX6_fixedSlips 23 = .ok (.iconst 1, 1) := by decide +kernel
theorem dX6_fixedSlips_24 : decode cX6_fixedSlips 24 = .ok (.iload_n 2, 1) := by decide +kernel
theorem dX6_fixedSlips_25 : decode cX6_fixedSlips 25 = .ok (.ishl, 1) := by decide +kernel
theorem dX6_fixedSlips_26 : decode cX6_fixedSlips 26 = .ok (.ior, 1) := by decide +kernel
theorem dX6_fixedSlips_27 : decode cX6_fixedSlips 27 = .ok (.istore_n 1, 1) := by decide +kernel
theorem dX6_fixedSlips_28 : decode cX6_fixedSlips 28 = .ok (.iinc 2 1, 3) := by decide +kernel
theorem dX6_fixedSlips_31 : decode cX6_fixedSlips 31 = .ok (.goto (-27), 3) := by decide +kernel
theorem dX6_fixedSlips_34 : decode cX6_fixedSlips 34 = .ok (.iload_n 1, 1) := by decide +kernel
theorem dX6_fixedSlips_35 : decode cX6_fixedSlips 35 = .ok (.ireturn, 1) := by decide +kernel
theorem dX6_movedTogether_0 : decode cX6_movedTogether 0 = .ok (.iconst 0, 1) := by decide +kernel
theorem dX6_movedTogether_1 : decode cX6_movedTogether 1 = .ok (.istore_n 1, 1) := by decide +kernel
theorem dX6_movedTogether_2 : decode cX6_movedTogether 2 = .ok (.iconst 0, 1) := by decide +kernel
theorem dX6_movedTogether_3 : decode cX6_movedTogether 3 = .ok (.istore_n 2, 1) := by decide +kernel
theorem dX6_movedTogether_4 : decode cX6_movedTogether 4 = .ok (.iload_n 2, 1) := by decide +kernel
theorem dX6_movedTogether_5 : decode cX6_movedTogether 5 = .ok (.aload_n 0, 1) := by decide +kernel
theorem dX6_movedTogether_6 : decode cX6_movedTogether 6 = .ok (.getfield 22, 3) := by decide +kernel
theorem dX6_movedTogether_9 : decode cX6_movedTogether 9 = .ok (.if_icmp .ge 18, 3) := by decide +kernel
theorem dX6_movedTogether_12 : decode cX6_movedTogether 12 = .ok (.iload_n 1, 1) := by decide +kernel
theorem dX6_movedTogether_13 : decode cX6_movedTogether 13 = .ok (.aload_n 0, 1) := by decide +kernel
theorem dX6_movedTogether_14 : decode cX6_movedTogether 14 = .ok (.getfield 32, 3) := by decide +kernel
theorem dX6_movedTogether_17 : decode cX6_movedTogether 17 = .ok (.iload_n 2, 1) := by decide +kernel
theorem dX6_movedTogether_18 : decode cX6_movedTogether 18 = .ok (.iaload, 1) := by decide +kernel
theorem dX6_movedTogether_19 : decode cX6_movedTogether 19 = .ok (.iadd, 1) := by decide +kernel
theorem dX6_movedTogether_20 : decode cX6_movedTogether 20 = .ok (.istore_n 1, 1) := by decide +kernel
theorem dX6_movedTogether_21 : decode cX6_movedTogether 21 = .ok (.iinc 2 1, 3) := by decide +kernel
theorem dX6_movedTogether_24 : decode cX6_movedTogether 24 = .ok (.goto (-20), 3) := by decide +kernel
theorem dX6_movedTogether_27 : decode cX6_movedTogether 27 = .ok (.iload_n 1, 1) := by decide +kernel
theorem dX6_movedTogether_28 : decode cX6_movedTogether 28 = .ok (.ireturn, 1) := by decide +kernel
theorem dX7_init_0 : decode cX7_init 0 = .ok (.aload_n 0, 1) := by decide +kernel
theorem dX7_init_1 : decode cX7_init 1 = .ok (.invokespecial 3, 3) := by decide +kernel
theorem dX7_init_4 : decode cX7_init 4 = .ok (.aload_n 0, 1) := by decide +kernel
theorem dX7_init_5 : decode cX7_init 5 = .ok (.iconst 0, 1) := by decide +kernel
theorem dX7_init_6 : decode cX7_init 6 = .ok (.putfield 9, 3) := by decide +kernel
theorem dX7_init_9 : decode cX7_init 9 = .ok (.aload_n 0, 1) := by decide +kernel
theorem dX7_init_10 : decode cX7_init 10 = .ok (.iconst 0, 1) := by decide +kernel
theorem dX7_init_11 : decode cX7_init 11 = .ok (.putfield 15, 3) := by decide +kernel
theorem dX7_init_14 : decode cX7_init 14 = .ok (.aload_n 0, 1) := by decide +kernel
theorem dX7_init_15 : decode cX7_init 15 = .ok (.bipush 40, 2) := by decide +kernel
theorem dX7_init_17 : decode cX7_init 17 = .ok (.newarray .long, 2) := by decide +kernel
theorem dX7_init_19 : decode cX7_init 19 = .ok (.putfield 18, 3) := by decide +kernel
theorem dX7_init_22 : decode cX7_init 22 = .ok (.return_, 1) := by decide +kernel
theorem dX7_isMissing_0 : decode cX7_isMissing 0 = .ok (.aload_n 0, 1) := by decide +kernel
theorem dX7_isMissing_1 : decode cX7_isMissing 1 = .ok (.getfield 9, 3) := by decide +kernel
theorem dX7_isMissing_4 : decode cX7_isMissing 4 = .ok (.ifCond .ne 7, 3) := by decide +kernel
theorem dX7_isMissing_7 : decode cX7_isMissing 7 = .ok (.iconst 1, 1) := by decide +kernel
theorem dX7_isMissing_8 : decode cX7_isMissing 8 = .ok (.goto 4, 3) := by decide +kernel
theorem dX7_isMissing_11 : decode cX7_isMissing 11 = .ok (.iconst 0, 1) := by decide +kernel
theorem dX7_isMissing_12 : decode cX7_isMissing 12 = .ok (.ireturn, 1) := by decide +kernel
theorem dX7_become_0 : decode cX7_become 0 = .ok (.aload_n 0, 1) := by decide +kernel
theorem dX7_become_1 : decode cX7_become 1 = .ok (.iload_n 1, 1) := by decide +kernel
theorem dX7_become_2 : decode cX7_become 2 = .ok (.putfield 9, 3) := by decide +kernel
theorem dX7_become_5 : decode cX7_become 5 = .ok (.aload_n 0, 1) := by decide +kernel
theorem dX7_become_6 : decode cX7_become 6 = .ok (.iload_n 1, 1) := by decide +kernel
theorem dX7_become_7 : decode cX7_become 7 = .ok (.ifCond .ne 7, 3) := by decide +kernel
theorem dX7_become_10 : decode cX7_become 10 = .ok (.iconst 0, 1) := by decide +kernel
theorem dX7_become_11 : decode cX7_become 11 = .ok (.goto 4, 3) := by decide +kernel
theorem dX7_become_14 : decode cX7_become 14 = .ok (.iload_n 2, 1) := by decide +kernel
theorem dX7_become_15 : decode cX7_become 15 = .ok (.putfield 15, 3) := by decide +kernel
theorem dX7_become_18 : decode cX7_become 18 = .ok (.iconst 0, 1) := by decide +kernel
theorem dX7_become_19 : decode cX7_become 19 = .ok (.istore_n 3, 1) := by decide +kernel
theorem dX7_become_20 : decode cX7_become 20 = .ok (.iload_n 3, 1) := by decide +kernel
theorem dX7_become_21 : decode cX7_become 21 = .ok (.bipush 40, 2) := by decide +kernel
theorem dX7_become_23 : decode cX7_become 23 = .ok (.if_icmp .ge 16, 3) := by decide +kernel
theorem dX7_become_26 : decode cX7_become 26 = .ok (.aload_n 0, 1) := by decide +kernel
theorem dX7_become_27 : decode cX7_become 27 = .ok (.getfield 18, 3) := by decide +kernel
theorem dX7_become_30 : decode cX7_become 30 = .ok (.iload_n 3, 1) := by decide +kernel
theorem dX7_become_31 : decode cX7_become 31 = .ok (.lconst 0, 1) := by decide +kernel
theorem dX7_become_32 : decode cX7_become 32 = .ok (.lastore, 1) := by decide +kernel
theorem dX7_become_33 : decode cX7_become 33 = .ok (.iinc 3 1, 3) := by decide +kernel
theorem dX7_become_36 : decode cX7_become 36 = .ok (.goto (-16), 3) := by decide +kernel
theorem dX7_become_39 : decode cX7_become 39 = .ok (.return_, 1) := by decide +kernel
theorem dX7_put_0 : decode cX7_put 0 = .ok (.aload_n 0, 1) := by decide +kernel
theorem dX7_put_1 : decode cX7_put 1 = .ok (.getfield 9, 3) := by decide +kernel
theorem dX7_put_4 : decode cX7_put 4 = .ok (.bipush 8, 2) := by decide +kernel
theorem dX7_put_6 : decode cX7_put 6 = .ok (.if_icmp .ne 16, 3) := by decide +kernel
theorem dX7_put_9 : decode cX7_put 9 = .ok (.aload_n 0, 1) := by decide +kernel
theorem dX7_put_10 : decode cX7_put 10 = .ok (.getfield 18, 3) := by decide +kernel
theorem dX7_put_13 : decode cX7_put 13 = .ok (.iload_n 1, 1) := by decide +kernel
theorem dX7_put_14 : decode cX7_put 14 = .ok (.lload_n 2, 1) := by decide +kernel
theorem dX7_put_15 : decode cX7_put 15 = .ok (.l2i, 1) := by decide +kernel
theorem dX7_put_16 : decode cX7_put 16 = .ok (.i2b, 1) := by decide +kernel
theorem dX7_put_17 : decode cX7_put 17 = .ok (.i2l, 1) := by decide +kernel
theorem dX7_put_18 : decode cX7_put 18 = .ok (.lastore, 1) := by decide +kernel
theorem dX7_put_19 : decode cX7_put 19 = .ok (.goto 32, 3) := by decide +kernel
theorem dX7_put_22 : decode cX7_put 22 = .ok (.aload_n 0, 1) := by decide +kernel
theorem dX7_put_23 : decode cX7_put 23 = .ok (.getfield 9, 3) := by decide +kernel
theorem dX7_put_26 : decode cX7_put 26 = .ok (.bipush 16, 2) := by decide +kernel
theorem dX7_put_28 : decode cX7_put 28 = .ok (.if_icmp .ne 16, 3) := by decide +kernel
theorem dX7_put_31 : decode cX7_put 31 = .ok (.aload_n 0, 1) := by decide +kernel
theorem dX7_put_32 : decode cX7_put 32 = .ok (.getfield 18, 3) := by decide +kernel
theorem dX7_put_35 : decode cX7_put 35 = .ok (.iload_n 1, 1) := by decide +kernel
theorem dX7_put_36 : decode cX7_put 36 = .ok (.lload_n 2, 1) := by decide +kernel
theorem dX7_put_37 : decode cX7_put 37 = .ok (.l2i, 1) := by decide +kernel
theorem dX7_put_38 : decode cX7_put 38 = .ok (.i2s, 1) := by decide +kernel
theorem dX7_put_39 : decode cX7_put 39 = .ok (.i2l, 1) := by decide +kernel
theorem dX7_put_40 : decode cX7_put 40 = .ok (.lastore, 1) := by decide +kernel
theorem dX7_put_41 : decode cX7_put 41 = .ok (.goto 10, 3) := by decide +kernel
theorem dX7_put_44 : decode cX7_put 44 = .ok (.aload_n 0, 1) := by decide +kernel
theorem dX7_put_45 : decode cX7_put 45 = .ok (.getfield 18, 3) := by decide +kernel
theorem dX7_put_48 : decode cX7_put 48 = .ok (.iload_n 1, 1) := by decide +kernel
theorem dX7_put_49 : decode cX7_put 49 = .ok (.lload_n 2, 1) := by decide +kernel
theorem dX7_put_50 : decode cX7_put 50 = .ok (.lastore, 1) := by decide +kernel
theorem dX7_put_51 : decode cX7_put 51 = .ok (.return_, 1) := by decide +kernel
theorem dX7_hasFrom_0 : decode cX7_hasFrom 0 = .ok (.iload_n 1, 1) := by decide +kernel
theorem dX7_hasFrom_1 : decode cX7_hasFrom 1 = .ok (.ifCond .lt 21, 3) := by decide +kernel
theorem dX7_hasFrom_4 : decode cX7_hasFrom 4 = .ok (.iload_n 2, 1) := by decide +kernel
theorem dX7_hasFrom_5 : decode cX7_hasFrom 5 = .ok (.ifCond .lt 17, 3) := by decide +kernel
theorem dX7_hasFrom_8 : decode cX7_hasFrom 8 = .ok (.iload_n 2, 1) := by decide +kernel
theorem dX7_hasFrom_9 : decode cX7_hasFrom 9 = .ok (.aload_n 0, 1) := by decide +kernel
theorem dX7_hasFrom_10 : decode cX7_hasFrom 10 = .ok (.getfield 15, 3) := by decide +kernel
theorem dX7_hasFrom_13 : decode cX7_hasFrom 13 = .ok (.iload_n 1, 1) := by decide +kernel
theorem dX7_hasFrom_14 : decode cX7_hasFrom 14 = .ok (.isub, 1) := by decide +kernel
theorem dX7_hasFrom_15 : decode cX7_hasFrom 15 = .ok (.if_icmp .gt 7, 3) := by decide +kernel
theorem dX7_hasFrom_18 : decode cX7_hasFrom 18 = .ok (.iconst 1, 1) := by decide +kernel
theorem dX7_hasFrom_19 : decode cX7_hasFrom 19 = .ok (.goto 4, 3) := by decide +kernel
theorem dX7_hasFrom_22 : decode cX7_hasFrom 22 = .ok (.iconst 0, 1) := by decide +kernel
theorem dX7_hasFrom_23 : decode cX7_hasFrom 23 = .ok (.ireturn, 1) := by decide +kernel
theorem dX8_init_0 : decode cX8_init 0 = .ok (.aload_n 0, 1) := by decide +kernel
theorem dX8_init_1 : decode cX8_init 1 = .ok (.invokespecial 1, 3) := by decide +kernel
theorem dX8_init_4 : decode cX8_init 4 = .ok (.return_, 1) := by decide +kernel
theorem dX8_isKind_0 : decode cX8_isKind 0 = .ok (.iload_n 1, 1) := by decide +kernel
theorem dX8_isKind_1 : decode cX8_isKind 1 = .ok (.iconst 2, 1) := by decide +kernel
theorem dX8_isKind_2 : decode cX8_isKind 2 = .ok (.if_icmp .eq 11, 3) := by decide +kernel
theorem dX8_isKind_5 : decode cX8_isKind 5 = .ok (.aload_n 0, 1) := by decide +kernel
theorem dX8_isKind_6 : decode cX8_isKind 6 = .ok (.iload_n 1, 1) := by decide +kernel
theorem dX8_isKind_7 : decode cX8_isKind 7 = .ok (.invokespecial 7, 3) := by decide +kernel
theorem dX8_isKind_10 : decode cX8_isKind 10 = .ok (.ifCond .eq 7, 3) := by decide +kernel
theorem dX8_isKind_13 : decode cX8_isKind 13 = .ok (.iconst 1, 1) := by decide +kernel
theorem dX8_isKind_14 : decode cX8_isKind 14 = .ok (.goto 4, 3) := by decide +kernel
theorem dX8_isKind_17 : decode cX8_isKind 17 = .ok (.iconst 0, 1) := by decide +kernel
theorem dX8_isKind_18 : decode cX8_isKind 18 = .ok (.ireturn, 1) := by decide +kernel
theorem dX8_mayTouch_0 : decode cX8_mayTouch 0 = .ok (.aload_n 0, 1) := by decide +kernel
theorem dX8_mayTouch_1 : decode cX8_mayTouch 1 = .ok (.iload_n 1, 1) := by decide +kernel
theorem dX8_mayTouch_2 : decode cX8_mayTouch 2 = .ok (.iload_n 2, 1) := by decide +kernel
theorem dX8_mayTouch_3 : decode cX8_mayTouch 3 = .ok (.iload_n 3, 1) := by decide +kernel
theorem dX8_mayTouch_4 : decode cX8_mayTouch 4 = .ok (.invokespecial 11, 3) := by decide +kernel
theorem dX8_mayTouch_7 : decode cX8_mayTouch 7 = .ok (.ifCond .eq 11, 3) := by decide +kernel
theorem dX8_mayTouch_10 : decode cX8_mayTouch 10 = .ok (.iload_n 1, 1) := by decide +kernel
theorem dX8_mayTouch_11 : decode cX8_mayTouch 11 = .ok (.ifCond .ne 7, 3) := by decide +kernel
theorem dX8_mayTouch_14 : decode cX8_mayTouch 14 = .ok (.iconst 1, 1) := by decide +kernel
theorem dX8_mayTouch_15 : decode cX8_mayTouch 15 = .ok (.goto 4, 3) := by decide +kernel
theorem dX8_mayTouch_18 : decode cX8_mayTouch 18 = .ok (.iconst 0, 1) := by decide +kernel
theorem dX8_mayTouch_19 : decode cX8_mayTouch 19 = .ok (.ireturn, 1) := by decide +kernel
theorem dX9_init_0 : decode cX9_init 0 = .ok (.aload_n 0, 1) := by decide +kernel
theorem dX9_init_1 : decode cX9_init 1 = .ok (.invokespecial 3, 3) := by decide +kernel
theorem dX9_init_4 : decode cX9_init 4 = .ok (.aload_n 0, 1) := by decide +kernel
theorem dX9_init_5 : decode cX9_init 5 = .ok (.bipush 120, 2) := by decide +kernel
theorem dX9_init_7 : decode cX9_init 7 = .ok (.newarray .int, 2) := by decide +kernel
theorem dX9_init_9 : decode cX9_init 9 = .ok (.putfield 9, 3) := by decide +kernel
theorem dX9_init_12 : decode cX9_init 12 = .ok (.aload_n 0, 1) := by decide +kernel
theorem dX9_init_13 : decode cX9_init 13 = .ok (.iconst 0, 1) := by decide +kernel
theorem dX9_init_14 : decode cX9_init 14 = .ok (.putfield 15, 3) := by decide +kernel
theorem dX9_init_17 : decode cX9_init 17 = .ok (.aload_n 0, 1) := by decide +kernel
theorem dX9_init_18 : decode cX9_init 18 = .ok (.iconst 0, 1) := by decide +kernel
theorem dX9_init_19 : decode cX9_init 19 = .ok (.putfield 19, 3) := by decide +kernel
theorem dX9_init_22 : decode cX9_init 22 = .ok (.aload_n 0, 1) := by decide +kernel
theorem dX9_init_23 : decode cX9_init 23 = .ok (.iconst 0, 1) := by decide +kernel
theorem dX9_init_24 : decode cX9_init 24 = .ok (.putfield 22, 3) := by decide +kernel
theorem dX9_init_27 : decode cX9_init 27 = .ok (.aload_n 0, 1) := by decide +kernel
theorem dX9_init_28 : decode cX9_init 28 = .ok (.iconst 0, 1) := by decide +kernel
theorem dX9_init_29 : decode cX9_init 29 = .ok (.putfield 25, 3) := by decide +kernel
theorem dX9_init_32 : decode cX9_init 32 = .ok (.aload_n 0, 1) := by decide +kernel
theorem dX9_init_33 : decode cX9_init 33 = .ok (.iconst 0, 1) := by decide +kernel
theorem dX9_init_34 : decode cX9_init 34 = .ok (.putfield 28, 3) := by decide +kernel
theorem dX9_init_37 : decode cX9_init 37 = .ok (.return_, 1) := by decide +kernel
theorem dX9_append_0 : decode cX9_append 0 = .ok (.aload_n 0, 1) := by decide +kernel
theorem dX9_append_1 : decode cX9_append 1 = .ok (.getfield 9, 3) := by decide +kernel
theorem dX9_append_4 : decode cX9_append 4 = .ok (.aload_n 0, 1) := by decide +kernel
theorem dX9_append_5 : decode cX9_append 5 = .ok (.getfield 15, 3) := by decide +kernel
theorem dX9_append_8 : decode cX9_append 8 = .ok (.iload_n 1, 1) := by decide +kernel
theorem dX9_append_9 : decode cX9_append 9 = .ok (.iastore, 1) := by decide +kernel
theorem dX9_append_10 : decode cX9_append 10 = .ok (.aload_n 0, 1) := by decide +kernel
theorem dX9_append_11 : decode cX9_append 11 = .ok (.dup, 1) := by decide +kernel
theorem dX9_append_12 : decode cX9_append 12 = .ok (.getfield 15, 3) := by decide +kernel
theorem dX9_append_15 : decode cX9_append 15 = .ok (.iconst 1, 1) := by decide +kernel
theorem dX9_append_16 : decode cX9_append 16 = .ok (.iadd, 1) := by decide +kernel
theorem dX9_append_17 : decode cX9_append 17 = .ok (.putfield 15, 3) := by decide +kernel
theorem dX9_append_20 : decode cX9_append 20 = .ok (.return_, 1) := by decide +kernel
theorem dX9_firstToken_0 : decode cX9_firstToken 0 = .ok (.aload_n 0, 1) := by decide +kernel
theorem dX9_firstToken_1 : decode cX9_firstToken 1 = .ok (.iconst 0, 1) := by decide +kernel
theorem dX9_firstToken_2 : decode cX9_firstToken 2 = .ok (.putfield 25, 3) := by decide +kernel
theorem dX9_firstToken_5 : decode cX9_firstToken 5 = .ok (.aload_n 0, 1) := by decide +kernel
theorem dX9_firstToken_6 : decode cX9_firstToken 6 = .ok (.invokevirtual 31, 3) := by decide +kernel
theorem dX9_firstToken_9 : decode cX9_firstToken 9 = .ok (.return_, 1) := by decide +kernel
theorem dX9_nextToken_0 : decode cX9_nextToken 0 = .ok (.aload_n 0, 1) := by decide +kernel
theorem dX9_nextToken_1 : decode cX9_nextToken 1 = .ok (.aload_n 0, 1) := by decide +kernel
theorem dX9_nextToken_2 : decode cX9_nextToken 2 = .ok (.getfield 25, 3) := by decide +kernel
theorem dX9_nextToken_5 : decode cX9_nextToken 5 = .ok (.putfield 22, 3) := by decide +kernel
theorem dX9_nextToken_8 : decode cX9_nextToken 8 = .ok (.aload_n 0, 1) := by decide +kernel
theorem dX9_nextToken_9 : decode cX9_nextToken 9 = .ok (.getfield 22, 3) := by decide +kernel
theorem dX9_nextToken_12 : decode cX9_nextToken 12 = .ok (.aload_n 0, 1) := by decide +kernel
theorem dX9_nextToken_13 : decode cX9_nextToken 13 = .ok (.getfield 15, 3) := by decide +kernel
theorem dX9_nextToken_16 : decode cX9_nextToken 16 = .ok (.if_icmp .ge 30, 3) := by decide +kernel
theorem dX9_nextToken_19 : decode cX9_nextToken 19 = .ok (.aload_n 0, 1) := by decide +kernel
theorem dX9_nextToken_20 : decode cX9_nextToken 20 = .ok (.getfield 9, 3) := by decide +kernel
theorem dX9_nextToken_23 : decode cX9_nextToken 23 = .ok (.aload_n 0, 1) := by decide +kernel
theorem dX9_nextToken_24 : decode cX9_nextToken 24 = .ok (.getfield 22, 3) := by decide +kernel
theorem dX9_nextToken_27 : decode cX9_nextToken 27 = .ok (.iaload, 1) := by decide +kernel
theorem dX9_nextToken_28 : decode cX9_nextToken 28 = .ok (.bipush 32, 2) := by decide +kernel
theorem dX9_nextToken_30 : decode cX9_nextToken 30 = .ok (.if_icmp .ne 16, 3) := by decide +kernel
theorem dX9_nextToken_33 : decode cX9_nextToken 33 = .ok (.aload_n 0, 1) := by decide +kernel
theorem dX9_nextToken_34 : decode cX9_nextToken 34 = .ok (.dup, 1) := by decide +kernel
theorem dX9_nextToken_35 : decode cX9_nextToken 35 = .ok (.getfield 22, 3) := by decide +kernel
theorem dX9_nextToken_38 : decode cX9_nextToken 38 = .ok (.iconst 1, 1) := by decide +kernel
theorem dX9_nextToken_39 : decode cX9_nextToken 39 = .ok (.iadd, 1) := by decide +kernel
theorem dX9_nextToken_40 : decode cX9_nextToken 40 = .ok (.putfield 22, 3) := by decide +kernel
theorem dX9_nextToken_43 : decode cX9_nextToken 43 = .ok (.goto (-35), 3) := by decide +kernel
theorem dX9_nextToken_46 : decode cX9_nextToken 46 = .ok (.aload_n 0, 1) := by decide +kernel
theorem dX9_nextToken_47 : decode cX9_nextToken 47 = .ok (.aload_n 0, 1) := by decide +kernel
theorem dX9_nextToken_48 : decode cX9_nextToken 48 = .ok (.getfield 22, 3) := by decide +kernel
theorem dX9_nextToken_51 : decode cX9_nextToken 51 = .ok (.putfield 25, 3) := by decide +kernel
theorem dX9_nextToken_54 : decode cX9_nextToken 54 = .ok (.aload_n 0, 1) := by decide +kernel
theorem dX9_nextToken_55 : decode cX9_nextToken 55 = .ok (.getfield 22, 3) := by decide +kernel
theorem dX9_nextToken_58 : decode cX9_nextToken 58 = .ok (.aload_n 0, 1) := by decide +kernel
theorem dX9_nextToken_59 : decode cX9_nextToken 59 = .ok (.getfield 15, 3) := by decide +kernel
theorem dX9_nextToken_62 : decode cX9_nextToken 62 = .ok (.if_icmp .lt 11, 3) := by decide +kernel
theorem dX9_nextToken_65 : decode cX9_nextToken 65 = .ok (.aload_n 0, 1) := by decide +kernel
theorem dX9_nextToken_66 : decode cX9_nextToken 66 = .ok (.iconst 0, 1) := by decide +kernel
theorem dX9_nextToken_67 : decode cX9_nextToken 67 = .ok (.putfield 19, 3) := by decide +kernel
theorem dX9_nextToken_70 : decode cX9_nextToken 70 = .ok (.goto 80, 3) := by decide +kernel
theorem dX9_nextToken_73 : decode cX9_nextToken 73 = .ok (.aload_n 0, 1) := by decide +kernel
theorem dX9_nextToken_74 : decode cX9_nextToken 74 = .ok (.getfield 9, 3) := by decide +kernel
theorem dX9_nextToken_77 : decode cX9_nextToken 77 = .ok (.aload_n 0, 1) := by decide +kernel
theorem dX9_nextToken_78 : decode cX9_nextToken 78 = .ok (.getfield 22, 3) := by decide +kernel
theorem dX9_nextToken_81 : decode cX9_nextToken 81 = .ok (.iaload, 1) := by decide +kernel
theorem dX9_nextToken_82 : decode cX9_nextToken 82 = .ok (.invokestatic 34, 3) := by decide +kernel
theorem dX9_nextToken_85 : decode cX9_nextToken 85 = .ok (.ifCond .eq 10, 3) := by decide +kernel
theorem dX9_nextToken_88 : decode cX9_nextToken 88 = .ok (.aload_n 0, 1) := by decide +kernel
theorem dX9_nextToken_89 : decode cX9_nextToken 89 = .ok (.invokevirtual 38, 3) := by decide +kernel
theorem dX9_nextToken_92 : decode cX9_nextToken 92 = .ok (.goto 58, 3) := by decide +kernel
theorem dX9_nextToken_95 : decode cX9_nextToken 95 = .ok (.aload_n 0, 1) := by decide +kernel
theorem dX9_nextToken_96 : decode cX9_nextToken 96 = .ok (.getfield 9, 3) := by decide +kernel
theorem dX9_nextToken_99 : decode cX9_nextToken 99 = .ok (.aload_n 0, 1) := by decide +kernel
theorem dX9_nextToken_100 : decode cX9_nextToken 100 = .ok (.getfield 22, 3) := by decide +kernel
theorem dX9_nextToken_103 : decode cX9_nextToken 103 = .ok (.iaload, 1) := by decide +kernel
theorem dX9_nextToken_104 : decode cX9_nextToken 104 = .ok (.invokestatic 41, 3) := by decide +kernel
theorem dX9_nextToken_107 : decode cX9_nextToken 107 = .ok (.ifCond .eq 10, 3) := by decide +kernel
theorem dX9_nextToken_110 : decode cX9_nextToken 110 = .ok (.aload_n 0, 1) := by decide +kernel
theorem dX9_nextToken_111 : decode cX9_nextToken 111 = .ok (.invokevirtual 44, 3) := by decide +kernel
theorem dX9_nextToken_114 : decode cX9_nextToken 114 = .ok (.goto 36, 3) := by decide +kernel
theorem dX9_nextToken_117 : decode cX9_nextToken 117 = .ok (.aload_n 0, 1) := by decide +kernel
theorem dX9_nextToken_118 : decode cX9_nextToken 118 = .ok (.aload_n 0, 1) := by decide +kernel
theorem dX9_nextToken_119 : decode cX9_nextToken 119 = .ok (.getfield 9, 3) := by decide +kernel
theorem dX9_nextToken_122 : decode cX9_nextToken 122 = .ok (.aload_n 0, 1) := by decide +kernel
theorem dX9_nextToken_123 : decode cX9_nextToken 123 = .ok (.getfield 22, 3) := by decide +kernel
theorem dX9_nextToken_126 : decode cX9_nextToken 126 = .ok (.iaload, 1) := by decide +kernel
theorem dX9_nextToken_127 : decode cX9_nextToken 127 = .ok (.bipush 59, 2) := by decide +kernel
theorem dX9_nextToken_129 : decode cX9_nextToken 129 = .ok (.if_icmp .ne 7, 3) := by decide +kernel
theorem dX9_nextToken_132 : decode cX9_nextToken 132 = .ok (.iconst 3, 1) := by decide +kernel
theorem dX9_nextToken_133 : decode cX9_nextToken 133 = .ok (.goto 4, 3) := by decide +kernel
theorem dX9_nextToken_136 : decode cX9_nextToken 136 = .ok (.iconst 4, 1) := by decide +kernel
theorem dX9_nextToken_137 : decode cX9_nextToken 137 = .ok (.putfield 19, 3) := by decide +kernel
theorem dX9_nextToken_140 : decode cX9_nextToken 140 = .ok (.aload_n 0, 1) := by decide +kernel
theorem dX9_nextToken_141 : decode cX9_nextToken 141 = .ok (.dup, 1) := by decide +kernel
theorem dX9_nextToken_142 : decode cX9_nextToken 142 = .ok (.getfield 25, 3) := by decide +kernel
theorem dX9_nextToken_145 : decode cX9_nextToken 145 = .ok (.iconst 1, 1) := by decide +kernel
theorem dX9_nextToken_146 : decode cX9_nextToken 146 = .ok (.iadd, 1) := by decide +kernel
theorem dX9_nextToken_147 : decode cX9_nextToken 147 = .ok (.putfield 25, 3) := by decide +kernel
theorem dX9_nextToken_150 : decode cX9_nextToken 150 = .ok (.return_, 1) := by decide +kernel
theorem dX9_takeWord_0 : decode cX9_takeWord 0 = .ok (.aload_n 0, 1) := by decide +kernel
theorem dX9_takeWord_1 : decode cX9_takeWord 1 = .ok (.iconst 1, 1) := by decide +kernel
theorem dX9_takeWord_2 : decode cX9_takeWord 2 = .ok (.putfield 19, 3) := by decide +kernel
theorem dX9_takeWord_5 : decode cX9_takeWord 5 = .ok (.aload_n 0, 1) := by decide +kernel
theorem dX9_takeWord_6 : decode cX9_takeWord 6 = .ok (.getfield 25, 3) := by decide +kernel
theorem dX9_takeWord_9 : decode cX9_takeWord 9 = .ok (.aload_n 0, 1) := by decide +kernel
theorem dX9_takeWord_10 : decode cX9_takeWord 10 = .ok (.getfield 15, 3) := by decide +kernel
theorem dX9_takeWord_13 : decode cX9_takeWord 13 = .ok (.if_icmp .ge 31, 3) := by decide +kernel
theorem dX9_takeWord_16 : decode cX9_takeWord 16 = .ok (.aload_n 0, 1) := by decide +kernel
theorem dX9_takeWord_17 : decode cX9_takeWord 17 = .ok (.getfield 9, 3) := by decide +kernel
theorem dX9_takeWord_20 : decode cX9_takeWord 20 = .ok (.aload_n 0, 1) := by decide +kernel
theorem dX9_takeWord_21 : decode cX9_takeWord 21 = .ok (.getfield 25, 3) := by decide +kernel
theorem dX9_takeWord_24 : decode cX9_takeWord 24 = .ok (.iaload, 1) := by decide +kernel
theorem dX9_takeWord_25 : decode cX9_takeWord 25 = .ok (.invokestatic 34, 3) := by decide +kernel
theorem dX9_takeWord_28 : decode cX9_takeWord 28 = .ok (.ifCond .eq 16, 3) := by decide +kernel
theorem dX9_takeWord_31 : decode cX9_takeWord 31 = .ok (.aload_n 0, 1) := by decide +kernel
theorem dX9_takeWord_32 : decode cX9_takeWord 32 = .ok (.dup, 1) := by decide +kernel
theorem dX9_takeWord_33 : decode cX9_takeWord 33 = .ok (.getfield 25, 3) := by decide +kernel
theorem dX9_takeWord_36 : decode cX9_takeWord 36 = .ok (.iconst 1, 1) := by decide +kernel
theorem dX9_takeWord_37 : decode cX9_takeWord 37 = .ok (.iadd, 1) := by decide +kernel
theorem dX9_takeWord_38 : decode cX9_takeWord 38 = .ok (.putfield 25, 3) := by decide +kernel
theorem dX9_takeWord_41 : decode cX9_takeWord 41 = .ok (.goto (-36), 3) := by decide +kernel
theorem dX9_takeWord_44 : decode cX9_takeWord 44 = .ok (.return_, 1) := by decide +kernel
theorem dX9_takeNumber_0 : decode cX9_takeNumber 0 = .ok (.aload_n 0, 1) := by decide +kernel
theorem dX9_takeNumber_1 : decode cX9_takeNumber 1 = .ok (.iconst 2, 1) := by decide +kernel
theorem dX9_takeNumber_2 : decode cX9_takeNumber 2 = .ok (.putfield 19, 3) := by decide +kernel
theorem dX9_takeNumber_5 : decode cX9_takeNumber 5 = .ok (.aload_n 0, 1) := by decide +kernel
theorem dX9_takeNumber_6 : decode cX9_takeNumber 6 = .ok (.iconst 0, 1) := by decide +kernel
theorem dX9_takeNumber_7 : decode cX9_takeNumber 7 = .ok (.putfield 28, 3) := by decide +kernel
theorem dX9_takeNumber_10 : decode cX9_takeNumber 10 = .ok (.aload_n 0, 1) := by decide +kernel
theorem dX9_takeNumber_11 : decode cX9_takeNumber 11 = .ok (.getfield 25, 3) := by decide +kernel
theorem dX9_takeNumber_14 : decode cX9_takeNumber 14 = .ok (.aload_n 0, 1) := by decide +kernel
theorem dX9_takeNumber_15 : decode cX9_takeNumber 15 = .ok (.getfield 15, 3) := by decide +kernel
theorem dX9_takeNumber_18 : decode cX9_takeNumber 18 = .ok (.if_icmp .ge 61, 3) := by decide +kernel
theorem dX9_takeNumber_21 : decode cX9_takeNumber 21 = .ok (.aload_n 0, 1) := by decide +kernel
theorem dX9_takeNumber_22 : decode cX9_takeNumber 22 = .ok (.getfield 9, 3) := by decide +kernel
theorem dX9_takeNumber_25 : decode cX9_takeNumber 25 = .ok (.aload_n 0, 1) := by decide +kernel
theorem dX9_takeNumber_26 : decode cX9_takeNumber 26 = .ok (.getfield 25, 3) := by decide +kernel
theorem dX9_takeNumber_29 : decode cX9_takeNumber 29 = .ok (.iaload, 1) := by decide +kernel
theorem dX9_takeNumber_30 : decode cX9_takeNumber 30 = .ok (.invokestatic 41, 3) := by decide +kernel
theorem dX9_takeNumber_33 : decode cX9_takeNumber 33 = .ok (.ifCond .eq 46, 3) := by decide +kernel
theorem dX9_takeNumber_36 : decode cX9_takeNumber 36 = .ok (.aload_n 0, 1) := by decide +kernel
theorem dX9_takeNumber_37 : decode cX9_takeNumber 37 = .ok (.bipush 10, 2) := by decide +kernel
theorem dX9_takeNumber_39 : decode cX9_takeNumber 39 = .ok (.aload_n 0, 1) := by decide +kernel
theorem dX9_takeNumber_40 : decode cX9_takeNumber 40 = .ok (.getfield 28, 3) := by decide +kernel
theorem dX9_takeNumber_43 : decode cX9_takeNumber 43 = .ok (.imul, 1) := by decide +kernel
theorem dX9_takeNumber_44 : decode cX9_takeNumber 44 = .ok (.aload_n 0, 1) := by decide +kernel
theorem dX9_takeNumber_45 : decode cX9_takeNumber 45 = .ok (.getfield 9, 3) := by decide +kernel
theorem dX9_takeNumber_48 : decode cX9_takeNumber 48 = .ok (.aload_n 0, 1) := by decide +kernel
theorem dX9_takeNumber_49 : decode cX9_takeNumber 49 = .ok (.getfield 25, 3) := by decide +kernel
theorem dX9_takeNumber_52 : decode cX9_takeNumber 52 = .ok (.iaload, 1) := by decide +kernel
theorem dX9_takeNumber_53 : decode cX9_takeNumber 53 = .ok (.iadd, 1) := by decide +kernel
theorem dX9_takeNumber_54 : decode cX9_takeNumber 54 = .ok (.bipush 48, 2) := by decide +kernel
theorem dX9_takeNumber_56 : decode cX9_takeNumber 56 = .ok (.isub, 1) := by decide +kernel
theorem dX9_takeNumber_57 : decode cX9_takeNumber 57 = .ok (.sipush 1000, 3) := by decide +kernel
theorem dX9_takeNumber_60 : decode cX9_takeNumber 60 = .ok (.invokestatic 47, 3) := by decide +kernel
theorem dX9_takeNumber_63 : decode cX9_takeNumber 63 = .ok (.putfield 28, 3) := by decide +kernel
theorem dX9_takeNumber_66 : decode cX9_takeNumber 66 = .ok (.aload_n 0, 1) := by decide +kernel
theorem dX9_takeNumber_67 : decode cX9_takeNumber 67 = .ok (.dup, 1) := by decide +kernel
theorem dX9_takeNumber_68 : decode cX9_takeNumber 68 = .ok (.getfield 25, 3) := by decide +kernel
theorem dX9_takeNumber_71 : decode cX9_takeNumber 71 = .ok (.iconst 1, 1) := by decide +kernel
theorem dX9_takeNumber_72 : decode cX9_takeNumber 72 = .ok (.iadd, 1) := by decide +kernel
theorem dX9_takeNumber_73 : decode cX9_takeNumber 73 = .ok (.putfield 25, 3) := by decide +kernel
theorem dX9_takeNumber_76 : decode cX9_takeNumber 76 = .ok (.goto (-66), 3) := by decide +kernel
theorem dX9_takeNumber_79 : decode cX9_takeNumber 79 = .ok (.return_, 1) := by decide +kernel
theorem dX9_isLetter_0 : decode cX9_isLetter 0 = .ok (.iload_n 0, 1) := by decide +kernel
theorem dX9_isLetter_1 : decode cX9_isLetter 1 = .ok (.bipush 97, 2) := by decide +kernel
theorem dX9_isLetter_3 : decode cX9_isLetter 3 = .ok (.bipush 122, 2) := by decide +kernel
theorem dX9_isLetter_5 : decode cX9_isLetter 5 = .ok (.invokestatic 53, 3) := by decide +kernel
theorem dX9_isLetter_8 : decode cX9_isLetter 8 = .ok (.ireturn, 1) := by decide +kernel
theorem dX9_isDigit_0 : decode cX9_isDigit 0 = .ok (.iload_n 0, 1) := by decide +kernel
theorem dX9_isDigit_1 : decode cX9_isDigit 1 = .ok (.bipush 48, 2) := by decide +kernel
theorem dX9_isDigit_3 : decode cX9_isDigit 3 = .ok (.bipush 57, 2) := by decide +kernel
theorem dX9_isDigit_5 : decode cX9_isDigit 5 = .ok (.invokestatic 53, 3) := by decide +kernel
theorem dX9_isDigit_8 : decode cX9_isDigit 8 = .ok (.ireturn, 1) := by decide +kernel
theorem dX9_isAtEnd_0 : decode cX9_isAtEnd 0 = .ok (.aload_n 0, 1) := by decide +kernel
theorem dX9_isAtEnd_1 : decode cX9_isAtEnd 1 = .ok (.getfield 19, 3) := by decide +kernel
theorem dX9_isAtEnd_4 : decode cX9_isAtEnd 4 = .ok (.ifCond .ne 7, 3) := by decide +kernel
theorem dX9_isAtEnd_7 : decode cX9_isAtEnd 7 = .ok (.iconst 1, 1) := by decide +kernel
theorem dX9_isAtEnd_8 : decode cX9_isAtEnd 8 = .ok (.goto 4, 3) := by decide +kernel
theorem dX9_isAtEnd_11 : decode cX9_isAtEnd 11 = .ok (.iconst 0, 1) := by decide +kernel
theorem dX9_isAtEnd_12 : decode cX9_isAtEnd 12 = .ok (.ireturn, 1) := by decide +kernel
theorem dX9_isSign_0 : decode cX9_isSign 0 = .ok (.aload_n 0, 1) := by decide +kernel
theorem dX9_isSign_1 : decode cX9_isSign 1 = .ok (.getfield 19, 3) := by decide +kernel
theorem dX9_isSign_4 : decode cX9_isSign 4 = .ok (.iconst 3, 1) := by decide +kernel
theorem dX9_isSign_5 : decode cX9_isSign 5 = .ok (.if_icmp .ne 7, 3) := by decide +kernel
theorem dX9_isSign_8 : decode cX9_isSign 8 = .ok (.iconst 1, 1) := by decide +kernel
theorem dX9_isSign_9 : decode cX9_isSign 9 = .ok (.goto 4, 3) := by decide +kernel
theorem dX9_isSign_12 : decode cX9_isSign 12 = .ok (.iconst 0, 1) := by decide +kernel
theorem dX9_isSign_13 : decode cX9_isSign 13 = .ok (.ireturn, 1) := by decide +kernel
theorem dX9_isNumberUpTo_0 : decode cX9_isNumberUpTo 0 = .ok (.aload_n 0, 1) := by decide +kernel
theorem dX9_isNumberUpTo_1 : decode cX9_isNumberUpTo 1 = .ok (.getfield 19, 3) := by decide +kernel
theorem dX9_isNumberUpTo_4 : decode cX9_isNumberUpTo 4 = .ok (.iconst 2, 1) := by decide +kernel
theorem dX9_isNumberUpTo_5 : decode cX9_isNumberUpTo 5 = .ok (.if_icmp .ne 15, 3) := by decide +kernel
theorem dX9_isNumberUpTo_8 : decode cX9_isNumberUpTo 8 = .ok (.aload_n 0, 1) := by decide +kernel
theorem dX9_isNumberUpTo_9 : decode cX9_isNumberUpTo 9 = .ok (.getfield 28, 3) := by decide +kernel
theorem dX9_isNumberUpTo_12 : decode cX9_isNumberUpTo 12 = .ok (.iload_n 1, 1) := by decide +kernel
theorem dX9_isNumberUpTo_13 : decode cX9_isNumberUpTo 13 = .ok (.if_icmp .gt 7, 3) := by decide +kernel
theorem dX9_isNumberUpTo_16 : decode cX9_isNumberUpTo 16 = .ok (.iconst 1, 1) := by decide +kernel
theorem dX9_isNumberUpTo_17 : decode cX9_isNumberUpTo 17 = .ok (.goto 4, 3) := by decide +kernel
theorem dX9_isNumberUpTo_20 : decode cX9_isNumberUpTo 20 = .ok (.iconst 0, 1) := by decide +kernel
theorem dX9_isNumberUpTo_21 : decode cX9_isNumberUpTo 21 = .ok (.ireturn, 1) := by decide +kernel
theorem dX9_isWord_0 : decode cX9_isWord 0 = .ok (.aload_n 0, 1) := by decide +kernel
theorem dX9_isWord_1 : decode cX9_isWord 1 = .ok (.getfield 19, 3) := by decide +kernel
theorem dX9_isWord_4 : decode cX9_isWord 4 = .ok (.iconst 1, 1) := by decide +kernel
theorem dX9_isWord_5 : decode cX9_isWord 5 = .ok (.if_icmp .ne 19, 3) := by decide +kernel
theorem dX9_isWord_8 : decode cX9_isWord 8 = .ok (.aload_n 0, 1) := by decide +kernel
theorem dX9_isWord_9 : decode cX9_isWord 9 = .ok (.getfield 25, 3) := by decide +kernel
theorem dX9_isWord_12 : decode cX9_isWord 12 = .ok (.aload_n 0, 1) := by decide +kernel
theorem dX9_isWord_13 : decode cX9_isWord 13 = .ok (.getfield 22, 3) := by decide +kernel
theorem dX9_isWord_16 : decode cX9_isWord 16 = .ok (.isub, 1) := by decide +kernel
theorem dX9_isWord_17 : decode cX9_isWord 17 = .ok (.aload_n 1, 1) := by decide +kernel
theorem dX9_isWord_18 : decode cX9_isWord 18 = .ok (.invokevirtual 57, 3) := by decide +kernel
theorem dX9_isWord_21 : decode cX9_isWord 21 = .ok (.if_icmp .eq 5, 3) := by decide +kernel
theorem dX9_isWord_24 : decode cX9_isWord 24 = .ok (.iconst 0, 1) := by decide +kernel
theorem dX9_isWord_25 : decode cX9_isWord 25 = .ok (.ireturn, 1) := by decide +kernel
theorem dX9_isWord_26 : decode cX9_isWord 26 = .ok (.iconst 0, 1) := by decide +kernel
theorem dX9_isWord_27 : decode cX9_isWord 27 = .ok (.istore_n 2, 1) := by decide +kernel
theorem dX9_isWord_28 : decode cX9_isWord 28 = .ok (.iload_n 2, 1) := by decide +kernel
theorem dX9_isWord_29 : decode cX9_isWord 29 = .ok (.aload_n 1, 1) := by decide +kernel
theorem dX9_isWord_30 : decode cX9_isWord 30 = .ok (.invokevirtual 57, 3) := by decide +kernel
theorem dX9_isWord_33 : decode cX9_isWord 33 = .ok (.if_icmp .ge 30, 3) := by decide +kernel
theorem dX9_isWord_36 : decode cX9_isWord 36 = .ok (.aload_n 0, 1) := by decide +kernel
theorem dX9_isWord_37 : decode cX9_isWord 37 = .ok (.getfield 9, 3) := by decide +kernel
theorem dX9_isWord_40 : decode cX9_isWord 40 = .ok (.aload_n 0, 1) := by decide +kernel
theorem dX9_isWord_41 : decode cX9_isWord 41 = .ok (.getfield 22, 3) := by decide +kernel
theorem dX9_isWord_44 : decode cX9_isWord 44 = .ok (.iload_n 2, 1) := by decide +kernel
theorem dX9_isWord_45 : decode cX9_isWord 45 = .ok (.iadd, 1) := by decide +kernel
theorem dX9_isWord_46 : decode cX9_isWord 46 = .ok (.iaload, 1) := by decide +kernel
theorem dX9_isWord_47 : decode cX9_isWord 47 = .ok (.aload_n 1, 1) := by decide +kernel
theorem dX9_isWord_48 : decode cX9_isWord 48 = .ok (.iload_n 2, 1) := by decide +kernel
theorem dX9_isWord_49 : decode cX9_isWord 49 = .ok (.invokevirtual 62, 3) := by decide +kernel
theorem dX9_isWord_52 : decode cX9_isWord 52 = .ok (.if_icmp .eq 5, 3) := by decide +kernel
theorem dX9_isWord_55 : decode cX9_isWord 55 = .ok (.iconst 0, 1) := by decide +kernel
theorem dX9_isWord_56 : decode cX9_isWord 56 = .ok (.ireturn, 1) := by decide +kernel
theorem dX9_isWord_57 : decode cX9_isWord 57 = .ok (.iinc 2 1, 3) := by decide +kernel
theorem dX9_isWord_60 : decode cX9_isWord 60 = .ok (.goto (-32), 3) := by decide +kernel
theorem dX9_isWord_63 : decode cX9_isWord 63 = .ok (.iconst 1, 1) := by decide +kernel
theorem dX9_isWord_64 : decode cX9_isWord 64 = .ok (.ireturn, 1) := by decide +kernel
theorem dX10_init_0 : decode cX10_init 0 = .ok (.aload_n 0, 1) := by decide +kernel
theorem dX10_init_1 : decode cX10_init 1 = .ok (.invokespecial 3, 3) := by decide +kernel
theorem dX10_init_4 : decode cX10_init 4 = .ok (.aload_n 0, 1) := by decide +kernel
theorem dX10_init_5 : decode cX10_init 5 = .ok (.aload_n 1, 1) := by decide +kernel
theorem dX10_init_6 : decode cX10_init 6 = .ok (.putfield 9, 3) := by decide +kernel
theorem dX10_init_9 : decode cX10_init 9 = .ok (.return_, 1) := by decide +kernel
theorem dX10_tellTo_0 : decode cX10_tellTo 0 = .ok (.aload_n 0, 1) := by decide +kernel
theorem dX10_tellTo_1 : decode cX10_tellTo 1 = .ok (.getfield 9, 3) := by decide +kernel
theorem dX10_tellTo_4 : decode cX10_tellTo 4 = .ok (.invokevirtual 15, 3) := by decide +kernel
theorem dX10_tellTo_7 : decode cX10_tellTo 7 = .ok (.iconst 1, 1) := by decide +kernel
theorem dX10_tellTo_8 : decode cX10_tellTo 8 = .ok (.istore_n 2, 1) := by decide +kernel
theorem dX10_tellTo_9 : decode cX10_tellTo 9 = .ok (.iload_n 2, 1) := by decide +kernel
theorem dX10_tellTo_10 : decode cX10_tellTo 10 = .ok (.bipush 120, 2) := by decide +kernel
theorem dX10_tellTo_12 : decode cX10_tellTo 12 = .ok (.if_icmp .gt 52, 3) := by decide +kernel
theorem dX10_tellTo_15 : decode cX10_tellTo 15 = .ok (.aload_n 0, 1) := by decide +kernel
theorem dX10_tellTo_16 : decode cX10_tellTo 16 = .ok (.aload_n 1, 1) := by decide +kernel
theorem dX10_tellTo_17 : decode cX10_tellTo 17 = .ok (.invokevirtual 20, 3) := by decide +kernel
theorem dX10_tellTo_20 : decode cX10_tellTo 20 = .ok (.ifCond .ne 6, 3) := by decide +kernel
theorem dX10_tellTo_23 : decode cX10_tellTo 23 = .ok (.goto 41, 3) := by decide +kernel
theorem dX10_tellTo_26 : decode cX10_tellTo 26 = .ok (.aload_n 0, 1) := by decide +kernel
theorem dX10_tellTo_27 : decode cX10_tellTo 27 = .ok (.getfield 9, 3) := by decide +kernel
theorem dX10_tellTo_30 : decode cX10_tellTo 30 = .ok (.invokevirtual 24, 3) := by decide +kernel
theorem dX10_tellTo_33 : decode cX10_tellTo 33 = .ok (.ifCond .eq 5, 3) := by decide +kernel
theorem dX10_tellTo_36 : decode cX10_tellTo 36 = .ok (.iload_n 2, 1) := by decide +kernel
theorem dX10_tellTo_37 : decode cX10_tellTo 37 = .ok (.ireturn, 1) := by decide +kernel
theorem dX10_tellTo_38 : decode cX10_tellTo 38 = .ok (.aload_n 0, 1) := by decide +kernel
theorem dX10_tellTo_39 : decode cX10_tellTo 39 = .ok (.getfield 9, 3) := by decide +kernel
theorem dX10_tellTo_42 : decode cX10_tellTo 42 = .ok (.invokevirtual 28, 3) := by decide +kernel
theorem dX10_tellTo_45 : decode cX10_tellTo 45 = .ok (.ifCond .ne 6, 3) := by decide +kernel
theorem dX10_tellTo_48 : decode cX10_tellTo 48 = .ok (.goto 16, 3) := by decide +kernel
theorem dX10_tellTo_51 : decode cX10_tellTo 51 = .ok (.aload_n 0, 1) := by decide +kernel
theorem dX10_tellTo_52 : decode cX10_tellTo 52 = .ok (.getfield 9, 3) := by decide +kernel
theorem dX10_tellTo_55 : decode cX10_tellTo 55 = .ok (.invokevirtual 31, 3) := by decide +kernel
theorem dX10_tellTo_58 : decode cX10_tellTo 58 = .ok (.iinc 2 1, 3) := by decide +kernel
theorem dX10_tellTo_61 : decode cX10_tellTo 61 = .ok (.goto (-52), 3) := by decide +kernel
theorem dX10_tellTo_64 : decode cX10_tellTo 64 = .ok (.iconst (-1), 1) := by decide +kernel
theorem dX10_tellTo_65 : decode cX10_tellTo 65 = .ok (.aload_n 0, 1) := by decide +kernel
theorem dX10_tellTo_66 : decode cX10_tellTo 66 = .ok (.getfield 9, 3) := by decide +kernel
theorem dX10_tellTo_69 : decode cX10_tellTo 69 = .ok (.getfield 34, 3) := by decide +kernel
theorem dX10_tellTo_72 : decode cX10_tellTo 72 = .ok (.isub, 1) := by decide +kernel
theorem dX10_tellTo_73 : decode cX10_tellTo 73 = .ok (.ireturn, 1) := by decide +kernel
theorem dX10_takeItem_0 : decode cX10_takeItem 0 = .ok (.aload_n 0, 1) := by decide +kernel
theorem dX10_takeItem_1 : decode cX10_takeItem 1 = .ok (.getfield 9, 3) := by decide +kernel
theorem dX10_takeItem_4 : decode cX10_takeItem 4 = .ok (.ldc 38, 2) := by decide +kernel
theorem dX10_takeItem_6 : decode cX10_takeItem 6 = .ok (.invokevirtual 40, 3) := by decide +kernel
theorem dX10_takeItem_9 : decode cX10_takeItem 9 = .ok (.ifCond .eq 9, 3) := by decide +kernel
theorem dX10_takeItem_12 : decode cX10_takeItem 12 = .ok (.aload_n 0, 1) := by decide +kernel
theorem dX10_takeItem_13 : decode cX10_takeItem 13 = .ok (.aload_n 1, 1) := by decide +kernel
theorem dX10_takeItem_14 : decode cX10_takeItem 14 = .ok (.invokevirtual 44, 3) := by decide +kernel
theorem dX10_takeItem_17 : decode cX10_takeItem 17 = .ok (.ireturn, 1) := by decide +kernel
theorem dX10_takeItem_18 : decode cX10_takeItem 18 = .ok (.aload_n 0, 1) := by decide +kernel
theorem dX10_takeItem_19 : decode cX10_takeItem 19 = .ok (.getfield 9, 3) := by decide +kernel
theorem dX10_takeItem_22 : decode cX10_takeItem 22 = .ok (.ldc 47, 2) := by decide +kernel
theorem dX10_takeItem_24 : decode cX10_takeItem 24 = .ok (.invokevirtual 40, 3) := by decide +kernel
theorem dX10_takeItem_27 : decode cX10_takeItem 27 = .ok (.ifCond .eq 9, 3) := by decide +kernel
theorem dX10_takeItem_30 : decode cX10_takeItem 30 = .ok (.aload_n 0, 1) := by decide +kernel
theorem dX10_takeItem_31 : decode cX10_takeItem 31 = .ok (.aload_n 1, 1) := by decide +kernel
theorem dX10_takeItem_32 : decode cX10_takeItem 32 = .ok (.invokevirtual 49, 3) := by decide +kernel
theorem dX10_takeItem_35 : decode cX10_takeItem 35 = .ok (.ireturn, 1) := by decide +kernel
theorem dX10_takeItem_36 : decode cX10_takeItem 36 = .ok (.aload_n 0, 1) := by decide +kernel
theorem dX10_takeItem_37 : decode cX10_takeItem 37 = .ok (.invokevirtual 52, 3) := by decide +kernel
theorem dX10_takeItem_40 : decode cX10_takeItem 40 = .ok (.istore_n 2, 1) := by decide +kernel
theorem dX10_takeItem_41 : decode cX10_takeItem 41 = .ok (.iload_n 2, 1) := by decide +kernel
theorem dX10_takeItem_42 : decode cX10_takeItem 42 = .ok (.iconst (-1), 1) := by decide +kernel
theorem dX10_takeItem_43 : decode cX10_takeItem 43 = .ok (.if_icmp .eq 16, 3) := by decide +kernel
theorem dX10_takeItem_46 : decode cX10_takeItem 46 = .ok (.aload_n 0, 1) := by decide +kernel
theorem dX10_takeItem_47 : decode cX10_takeItem 47 = .ok (.aload_n 1, 1) := by decide +kernel
theorem dX10_takeItem_48 : decode cX10_takeItem 48 = .ok (.iload_n 2, 1) := by decide +kernel
theorem dX10_takeItem_49 : decode cX10_takeItem 49 = .ok (.invokevirtual 56, 3) := by decide +kernel
theorem dX10_takeItem_52 : decode cX10_takeItem 52 = .ok (.ifCond .eq 7, 3) := by decide +kernel
theorem dX10_takeItem_55 : decode cX10_takeItem 55 = .ok (.iconst 1, 1) := by decide +kernel
theorem dX10_takeItem_56 : decode cX10_takeItem 56 = .ok (.goto 4, 3) := by decide +kernel
theorem dX10_takeItem_59 : decode cX10_takeItem 59 = .ok (.iconst 0, 1) := by decide +kernel
theorem dX10_takeItem_60 : decode cX10_takeItem 60 = .ok (.ireturn, 1) := by decide +kernel
theorem dX10_takeSlip_0 : decode cX10_takeSlip 0 = .ok (.aload_n 1, 1) := by decide +kernel
theorem dX10_takeSlip_1 : decode cX10_takeSlip 1 = .ok (.getfield 60, 3) := by decide +kernel
theorem dX10_takeSlip_4 : decode cX10_takeSlip 4 = .ok (.bipush 10, 2) := by decide +kernel
theorem dX10_takeSlip_6 : decode cX10_takeSlip 6 = .ok (.if_icmp .lt 5, 3) := by decide +kernel
theorem dX10_takeSlip_9 : decode cX10_takeSlip 9 = .ok (.iconst 0, 1) := by decide +kernel
theorem dX10_takeSlip_10 : decode cX10_takeSlip 10 = .ok (.ireturn, 1) := by decide +kernel
theorem dX10_takeSlip_11 : decode cX10_takeSlip 11 = .ok (.aload_n 0, 1) := by decide +kernel
theorem dX10_takeSlip_12 : decode cX10_takeSlip 12 = .ok (.getfield 9, 3) := by decide +kernel
theorem dX10_takeSlip_15 : decode cX10_takeSlip 15 = .ok (.invokevirtual 31, 3) := by decide +kernel
theorem dX10_takeSlip_18 : decode cX10_takeSlip 18 = .ok (.iconst (-1), 1) := by decide +kernel
theorem dX10_takeSlip_19 : decode cX10_takeSlip 19 = .ok (.istore_n 2, 1) := by decide +kernel
theorem dX10_takeSlip_20 : decode cX10_takeSlip 20 = .ok (.aload_n 0, 1) := by decide +kernel
theorem dX10_takeSlip_21 : decode cX10_takeSlip 21 = .ok (.getfield 9, 3) := by decide +kernel
theorem dX10_takeSlip_24 : decode cX10_takeSlip 24 = .ok (.iconst 5, 1) := by decide +kernel
theorem dX10_takeSlip_25 : decode cX10_takeSlip 25 = .ok (.invokevirtual 65, 3) := by decide +kernel
theorem dX10_takeSlip_28 : decode cX10_takeSlip 28 = .ok (.ifCond .eq 14, 3) := by decide +kernel
theorem dX10_takeSlip_31 : decode cX10_takeSlip 31 = .ok (.aload_n 0, 1) := by decide +kernel
theorem dX10_takeSlip_32 : decode cX10_takeSlip 32 = .ok (.getfield 9, 3) := by decide +kernel
theorem dX10_takeSlip_35 : decode cX10_takeSlip 35 = .ok (.getfield 69, 3) := by decide +kernel
theorem dX10_takeSlip_38 : decode cX10_takeSlip 38 = .ok (.istore_n 2, 1) := by decide +kernel
theorem dX10_takeSlip_39 : decode cX10_takeSlip 39 = .ok (.goto 17, 3) := by decide +kernel
theorem dX10_takeSlip_42 : decode cX10_takeSlip 42 = .ok (.aload_n 0, 1) := by decide +kernel
theorem dX10_takeSlip_43 : decode cX10_takeSlip 43 = .ok (.getfield 9, 3) := by decide +kernel
theorem dX10_takeSlip_46 : decode cX10_takeSlip 46 = .ok (.ldc 72, 2) := by decide +kernel
theorem dX10_takeSlip_48 : decode cX10_takeSlip 48 = .ok (.invokevirtual 40, 3) := by decide +kernel
theorem dX10_takeSlip_51 : decode cX10_takeSlip 51 = .ok (.ifCond .ne 5, 3) := by decide +kernel
theorem dX10_takeSlip_54 : decode cX10_takeSlip 54 = .ok (.iconst 0, 1) := by decide +kernel
theorem dX10_takeSlip_55 : decode cX10_takeSlip 55 = .ok (.ireturn, 1) := by decide +kernel
theorem dX10_takeSlip_56 : decode cX10_takeSlip 56 = .ok (.aload_n 0, 1) := by decide +kernel
theorem dX10_takeSlip_57 : decode cX10_takeSlip 57 = .ok (.getfield 9, 3) := by decide +kernel
theorem dX10_takeSlip_60 : decode cX10_takeSlip 60 = .ok (.invokevirtual 31, 3) := by decide +kernel
theorem dX10_takeSlip_63 : decode cX10_takeSlip 63 = .ok (.iconst 0, 1) := by decide +kernel
theorem dX10_takeSlip_64 : decode cX10_takeSlip 64 = .ok (.istore_n 3, 1) := by decide +kernel
theorem dX10_takeSlip_65 : decode cX10_takeSlip 65 = .ok (.aload_n 0, 1) := by decide +kernel
theorem dX10_takeSlip_66 : decode cX10_takeSlip 66 = .ok (.getfield 9, 3) := by decide +kernel
theorem dX10_takeSlip_69 : decode cX10_takeSlip 69 = .ok (.ldc 74, 2) := by decide +kernel
theorem dX10_takeSlip_71 : decode cX10_takeSlip 71 = .ok (.invokevirtual 40, 3) := by decide +kernel
theorem dX10_takeSlip_74 : decode cX10_takeSlip 74 = .ok (.ifCond .eq 12, 3) := by decide +kernel
theorem dX10_takeSlip_77 : decode cX10_takeSlip 77 = .ok (.iconst 1, 1) := by decide +kernel
theorem dX10_takeSlip_78 : decode cX10_takeSlip 78 = .ok (.istore_n 3, 1) := by decide +kernel
theorem dX10_takeSlip_79 : decode cX10_takeSlip 79 = .ok (.aload_n 0, 1) := by decide +kernel
theorem dX10_takeSlip_80 : decode cX10_takeSlip 80 = .ok (.getfield 9, 3) := by decide +kernel
theorem dX10_takeSlip_83 : decode cX10_takeSlip 83 = .ok (.invokevirtual 31, 3) := by decide +kernel
theorem dX10_takeSlip_86 : decode cX10_takeSlip 86 = .ok (.aload_n 1, 1) := by decide +kernel
theorem dX10_takeSlip_87 : decode cX10_takeSlip 87 = .ok (.iload_n 2, 1) := by decide +kernel
theorem dX10_takeSlip_88 : decode cX10_takeSlip 88 = .ok (.iload_n 3, 1) := by decide +kernel
theorem dX10_takeSlip_89 : decode cX10_takeSlip 89 = .ok (.invokevirtual 76, 3) := by decide +kernel
theorem dX10_takeSlip_92 : decode cX10_takeSlip 92 = .ok (.pop, 1) := by decide +kernel
theorem dX10_takeSlip_93 : decode cX10_takeSlip 93 = .ok (.iconst 1, 1) := by decide +kernel
theorem dX10_takeSlip_94 : decode cX10_takeSlip 94 = .ok (.ireturn, 1) := by decide +kernel
theorem dX10_takeMoves_0 : decode cX10_takeMoves 0 = .ok (.aload_n 0, 1) := by decide +kernel
theorem dX10_takeMoves_1 : decode cX10_takeMoves 1 = .ok (.getfield 9, 3) := by decide +kernel
theorem dX10_takeMoves_4 : decode cX10_takeMoves 4 = .ok (.invokevirtual 31, 3) := by decide +kernel
theorem dX10_takeMoves_7 : decode cX10_takeMoves 7 = .ok (.aload_n 0, 1) := by decide +kernel
theorem dX10_takeMoves_8 : decode cX10_takeMoves 8 = .ok (.getfield 9, 3) := by decide +kernel
theorem dX10_takeMoves_11 : decode cX10_takeMoves 11 = .ok (.bipush 99, 2) := by decide +kernel
theorem dX10_takeMoves_13 : decode cX10_takeMoves 13 = .ok (.invokevirtual 65, 3) := by decide +kernel
theorem dX10_takeMoves_16 : decode cX10_takeMoves 16 = .ok (.ifCond .ne 5, 3) := by decide +kernel
theorem dX10_takeMoves_19 : decode cX10_takeMoves 19 = .ok (.iconst 0, 1) := by decide +kernel
theorem dX10_takeMoves_20 : decode cX10_takeMoves 20 = .ok (.ireturn, 1) := by decide +kernel
theorem dX10_takeMoves_21 : decode cX10_takeMoves 21 = .ok (.aload_n 1, 1) := by decide +kernel
theorem dX10_takeMoves_22 : decode cX10_takeMoves 22 = .ok (.aload_n 0, 1) := by decide +kernel
theorem dX10_takeMoves_23 : decode cX10_takeMoves 23 = .ok (.getfield 9, 3) := by decide +kernel
theorem dX10_takeMoves_26 : decode cX10_takeMoves 26 = .ok (.getfield 69, 3) := by decide +kernel
theorem dX10_takeMoves_29 : decode cX10_takeMoves 29 = .ok (.putfield 80, 3) := by decide +kernel
theorem dX10_takeMoves_32 : decode cX10_takeMoves 32 = .ok (.aload_n 0, 1) := by decide +kernel
theorem dX10_takeMoves_33 : decode cX10_takeMoves 33 = .ok (.getfield 9, 3) := by decide +kernel
theorem dX10_takeMoves_36 : decode cX10_takeMoves 36 = .ok (.invokevirtual 31, 3) := by decide +kernel
theorem dX10_takeMoves_39 : decode cX10_takeMoves 39 = .ok (.iconst 1, 1) := by decide +kernel
theorem dX10_takeMoves_40 : decode cX10_takeMoves 40 = .ok (.ireturn, 1) := by decide +kernel
theorem dX10_takePerson_0 : decode cX10_takePerson 0 = .ok (.aload_n 1, 1) := by decide +kernel
theorem dX10_takePerson_1 : decode cX10_takePerson 1 = .ok (.getfield 82, 3) := by decide +kernel
theorem dX10_takePerson_4 : decode cX10_takePerson 4 = .ok (.bipush 6, 2) := by decide +kernel
theorem dX10_takePerson_6 : decode cX10_takePerson 6 = .ok (.if_icmp .lt 5, 3) := by decide +kernel
theorem dX10_takePerson_9 : decode cX10_takePerson 9 = .ok (.iconst 0, 1) := by decide +kernel
theorem dX10_takePerson_10 : decode cX10_takePerson 10 = .ok (.ireturn, 1) := by decide +kernel
theorem dX10_takePerson_11 : decode cX10_takePerson 11 = .ok (.aload_n 1, 1) := by decide +kernel
theorem dX10_takePerson_12 : decode cX10_takePerson 12 = .ok (.iload_n 2, 1) := by decide +kernel
theorem dX10_takePerson_13 : decode cX10_takePerson 13 = .ok (.invokevirtual 85, 3) := by decide +kernel
theorem dX10_takePerson_16 : decode cX10_takePerson 16 = .ok (.istore_n 3, 1) := by decide +kernel
theorem dX10_takePerson_17 : decode cX10_takePerson 17 = .ok (.aload_n 0, 1) := by decide +kernel
theorem dX10_takePerson_18 : decode cX10_takePerson 18 = .ok (.getfield 9, 3) := by decide +kernel
theorem dX10_takePerson_21 : decode cX10_takePerson 21 = .ok (.invokevirtual 31, 3) := by decide +kernel
theorem dX10_takePerson_24 : decode cX10_takePerson 24 = .ok (.aload_n 0, 1) := by decide +kernel
theorem dX10_takePerson_25 : decode cX10_takePerson 25 = .ok (.getfield 9, 3) := by decide +kernel
theorem dX10_takePerson_28 : decode cX10_takePerson 28 = .ok (.ldc 89, 2) := by decide +kernel
theorem dX10_takePerson_30 : decode cX10_takePerson 30 = .ok (.invokevirtual 40, 3) := by decide +kernel
theorem dX10_takePerson_33 : decode cX10_takePerson 33 = .ok (.ifCond .ne 5, 3) := by decide +kernel
theorem dX10_takePerson_36 : decode cX10_takePerson 36 = .ok (.iconst 1, 1) := by decide +kernel
theorem dX10_takePerson_37 : decode cX10_takePerson 37 = .ok (.ireturn, 1) := by decide +kernel
theorem dX10_takePerson_38 : decode cX10_takePerson 38 = .ok (.aload_n 0, 1) := by decide +kernel
theorem dX10_takePerson_39 : decode cX10_takePerson 39 = .ok (.getfield 9, 3) := by decide +kernel
theorem dX10_takePerson_42 : decode cX10_takePerson 42 = .ok (.invokevirtual 31, 3) := by decide +kernel
theorem dX10_takePerson_45 : decode cX10_takePerson 45 = .ok (.iconst 0, 1) := by decide +kernel
theorem dX10_takePerson_46 : decode cX10_takePerson 46 = .ok (.istore 4, 2) := by decide +kernel
theorem dX10_takePerson_48 : decode cX10_takePerson 48 = .ok (.iload 4, 2) := by decide +kernel
theorem dX10_takePerson_50 : decode cX10_takePerson 50 = .ok (.iconst 5, 1) := by decide +kernel
theorem dX10_takePerson_51 : decode cX10_takePerson 51 = .ok (.if_icmp .ge 45, 3) := by decide +kernel
theorem dX10_takePerson_54 : decode cX10_takePerson 54 = .ok (.aload_n 0, 1) := by decide +kernel
theorem dX10_takePerson_55 : decode cX10_takePerson 55 = .ok (.getfield 9, 3) := by decide +kernel
theorem dX10_takePerson_58 : decode cX10_takePerson 58 = .ok (.iconst 5, 1) := by decide +kernel
theorem dX10_takePerson_59 : decode cX10_takePerson 59 = .ok (.invokevirtual 65, 3) := by decide +kernel
theorem dX10_takePerson_62 : decode cX10_takePerson 62 = .ok (.ifCond .eq 34, 3) := by decide +kernel
theorem dX10_takePerson_65 : decode cX10_takePerson 65 = .ok (.aload_n 1, 1) := by decide +kernel
theorem dX10_takePerson_66 : decode cX10_takePerson 66 = .ok (.getfield 91, 3) := by decide +kernel
theorem dX10_takePerson_69 : decode cX10_takePerson 69 = .ok (.iload_n 3, 1) := by decide +kernel
theorem dX10_takePerson_70 : decode cX10_takePerson 70 = .ok (.iload 4, 2) := by decide +kernel
theorem dX10_takePerson_72 : decode cX10_takePerson 72 = .ok (.invokestatic 95, 3) := by decide +kernel
theorem dX10_takePerson_75 : decode cX10_takePerson 75 = .ok (.aload_n 0, 1) := by decide +kernel
theorem dX10_takePerson_76 : decode cX10_takePerson 76 = .ok (.getfield 9, 3) := by decide +kernel
theorem dX10_takePerson_79 : decode cX10_takePerson 79 = .ok (.getfield 69, 3) := by decide +kernel
theorem dX10_takePerson_82 : decode cX10_takePerson 82 = .ok (.iastore, 1) := by decide +kernel
theorem dX10_takePerson_83 : decode cX10_takePerson 83 = .ok (.iinc 4 1, 3) := by decide +kernel
theorem dX10_takePerson_86 : decode cX10_takePerson 86 = .ok (.aload_n 0, 1) := by decide +kernel
theorem dX10_takePerson_87 : decode cX10_takePerson 87 = .ok (.getfield 9, 3) := by decide +kernel
theorem dX10_takePerson_90 : decode cX10_takePerson 90 = .ok (.invokevirtual 31, 3) := by decide +kernel
theorem dX10_takePerson_93 : decode cX10_takePerson 93 = .ok (.goto (-45), 3) := by decide +kernel
theorem dX10_takePerson_96 : decode cX10_takePerson 96 = .ok (.iload 4, 2) := by decide +kernel
theorem dX10_takePerson_98 : decode cX10_takePerson 98 = .ok (.ifCond .le 7, 3) := by decide +kernel
theorem dX10_takePerson_101 : decode cX10_takePerson 101 = .ok (.iconst 1, 1) := by decide +kernel
theorem dX10_takePerson_102 : decode cX10_takePerson 102 = .ok (.goto 4, 3) := by decide +kernel
theorem dX10_takePerson_105 : decode cX10_takePerson 105 = .ok (.iconst 0, 1) := by decide +kernel
theorem dX10_takePerson_106 : decode cX10_takePerson 106 = .ok (.ireturn, 1) := by decide +kernel
theorem dX10_kindNamed_0 : decode cX10_kindNamed 0 = .ok (.aload_n 0, 1) := by decide +kernel
theorem dX10_kindNamed_1 : decode cX10_kindNamed 1 = .ok (.getfield 9, 3) := by decide +kernel
theorem dX10_kindNamed_4 : decode cX10_kindNamed 4 = .ok (.ldc 98, 2) := by decide +kernel
theorem dX10_kindNamed_6 : decode cX10_kindNamed 6 = .ok (.invokevirtual 40, 3) := by decide +kernel
theorem dX10_kindNamed_9 : decode cX10_kindNamed 9 = .ok (.ifCond .eq 5, 3) := by decide +kernel
theorem dX10_kindNamed_12 : decode cX10_kindNamed 12 = .ok (.iconst 0, 1) := by decide +kernel
theorem dX10_kindNamed_13 : decode cX10_kindNamed 13 = .ok (.ireturn, 1) := by decide +kernel
theorem dX10_kindNamed_14 : decode cX10_kindNamed 14 = .ok (.aload_n 0, 1) := by decide +kernel
theorem dX10_kindNamed_15 : decode cX10_kindNamed 15 = .ok (.getfield 9, 3) := by decide +kernel
theorem dX10_kindNamed_18 : decode cX10_kindNamed 18 = .ok (.ldc 100, 2) := by decide +kernel
theorem dX10_kindNamed_20 : decode cX10_kindNamed 20 = .ok (.invokevirtual 40, 3) := by decide +kernel
theorem dX10_kindNamed_23 : decode cX10_kindNamed 23 = .ok (.ifCond .eq 5, 3) := by decide +kernel
theorem dX10_kindNamed_26 : decode cX10_kindNamed 26 = .ok (.iconst 1, 1) := by decide +kernel
theorem dX10_kindNamed_27 : decode cX10_kindNamed 27 = .ok (.ireturn, 1) := by decide +kernel
theorem dX10_kindNamed_28 : decode cX10_kindNamed 28 = .ok (.aload_n 0, 1) := by decide +kernel
theorem dX10_kindNamed_29 : decode cX10_kindNamed 29 = .ok (.getfield 9, 3) := by decide +kernel
theorem dX10_kindNamed_32 : decode cX10_kindNamed 32 = .ok (.ldc 102, 2) := by decide +kernel
theorem dX10_kindNamed_34 : decode cX10_kindNamed 34 = .ok (.invokevirtual 40, 3) := by decide +kernel
theorem dX10_kindNamed_37 : decode cX10_kindNamed 37 = .ok (.ifCond .eq 5, 3) := by decide +kernel
theorem dX10_kindNamed_40 : decode cX10_kindNamed 40 = .ok (.iconst 2, 1) := by decide +kernel
theorem dX10_kindNamed_41 : decode cX10_kindNamed 41 = .ok (.ireturn, 1) := by decide +kernel
theorem dX10_kindNamed_42 : decode cX10_kindNamed 42 = .ok (.aload_n 0, 1) := by decide +kernel
theorem dX10_kindNamed_43 : decode cX10_kindNamed 43 = .ok (.getfield 9, 3) := by decide +kernel
theorem dX10_kindNamed_46 : decode cX10_kindNamed 46 = .ok (.ldc 104, 2) := by decide +kernel
theorem dX10_kindNamed_48 : decode cX10_kindNamed 48 = .ok (.invokevirtual 40, 3) := by decide +kernel
theorem dX10_kindNamed_51 : decode cX10_kindNamed 51 = .ok (.ifCond .eq 5, 3) := by decide +kernel
theorem dX10_kindNamed_54 : decode cX10_kindNamed 54 = .ok (.iconst 3, 1) := by decide +kernel
theorem dX10_kindNamed_55 : decode cX10_kindNamed 55 = .ok (.ireturn, 1) := by decide +kernel
theorem dX10_kindNamed_56 : decode cX10_kindNamed 56 = .ok (.aload_n 0, 1) := by decide +kernel
theorem dX10_kindNamed_57 : decode cX10_kindNamed 57 = .ok (.getfield 9, 3) := by decide +kernel
theorem dX10_kindNamed_60 : decode cX10_kindNamed 60 = .ok (.ldc 106, 2) := by decide +kernel
theorem dX10_kindNamed_62 : decode cX10_kindNamed 62 = .ok (.invokevirtual 40, 3) := by decide +kernel
theorem dX10_kindNamed_65 : decode cX10_kindNamed 65 = .ok (.ifCond .eq 5, 3) := by decide +kernel
theorem dX10_kindNamed_68 : decode cX10_kindNamed 68 = .ok (.iconst 4, 1) := by decide +kernel
theorem dX10_kindNamed_69 : decode cX10_kindNamed 69 = .ok (.ireturn, 1) := by decide +kernel
theorem dX10_kindNamed_70 : decode cX10_kindNamed 70 = .ok (.aload_n 0, 1) := by decide +kernel
theorem dX10_kindNamed_71 : decode cX10_kindNamed 71 = .ok (.getfield 9, 3) := by decide +kernel
theorem dX10_kindNamed_74 : decode cX10_kindNamed 74 = .ok (.ldc 108, 2) := by decide +kernel
theorem dX10_kindNamed_76 : decode cX10_kindNamed 76 = .ok (.invokevirtual 40, 3) := by decide +kernel
theorem dX10_kindNamed_79 : decode cX10_kindNamed 79 = .ok (.ifCond .eq 7, 3) := by decide +kernel
theorem dX10_kindNamed_82 : decode cX10_kindNamed 82 = .ok (.iconst 5, 1) := by decide +kernel
theorem dX10_kindNamed_83 : decode cX10_kindNamed 83 = .ok (.goto 4, 3) := by decide +kernel
theorem dX10_kindNamed_86 : decode cX10_kindNamed 86 = .ok (.iconst (-1), 1) := by decide +kernel
theorem dX10_kindNamed_87 : decode cX10_kindNamed 87 = .ok (.ireturn, 1) := by decide +kernel
theorem dX11_init_0 : decode cX11_init 0 = .ok (.aload_n 0, 1) := by decide +kernel
theorem dX11_init_1 : decode cX11_init 1 = .ok (.invokespecial 1, 3) := by decide +kernel
theorem dX11_init_4 : decode cX11_init 4 = .ok (.bipush 6, 2) := by decide +kernel
theorem dX11_init_6 : decode cX11_init 6 = .ok (.anewarray 7, 3) := by decide +kernel
theorem dX11_init_9 : decode cX11_init 9 = .ok (.dup, 1) := by decide +kernel
theorem dX11_init_10 : decode cX11_init 10 = .ok (.iconst 0, 1) := by decide +kernel
theorem dX11_init_11 : decode cX11_init 11 = .ok (.new 7, 3) := by decide +kernel
theorem dX11_init_14 : decode cX11_init 14 = .ok (.dup, 1) := by decide +kernel
theorem dX11_init_15 : decode cX11_init 15 = .ok (.invokespecial 9, 3) := by decide +kernel
theorem dX11_init_18 : decode cX11_init 18 = .ok (.aastore, 1) := by decide +kernel
theorem dX11_init_19 : decode cX11_init 19 = .ok (.dup, 1) := by decide +kernel
theorem dX11_init_20 : decode cX11_init 20 = .ok (.iconst 1, 1) := by decide +kernel
theorem dX11_init_21 : decode cX11_init 21 = .ok (.new 10, 3) := by decide +kernel
theorem dX11_init_24 : decode cX11_init 24 = .ok (.dup, 1) := by decide +kernel
theorem dX11_init_25 : decode cX11_init 25 = .ok (.invokespecial 12, 3) := by decide +kernel
theorem dX11_init_28 : decode cX11_init 28 = .ok (.aastore, 1) := by decide +kernel
theorem dX11_init_29 : decode cX11_init 29 = .ok (.dup, 1) := by decide +kernel
theorem dX11_init_30 : decode cX11_init 30 = .ok (.iconst 2, 1) := by decide +kernel
theorem dX11_init_31 : decode cX11_init 31 = .ok (.new 13, 3) := by decide +kernel
theorem dX11_init_34 : decode cX11_init 34 = .ok (.dup, 1) := by decide +kernel
theorem dX11_init_35 : decode cX11_init 35 = .ok (.invokespecial 15, 3) := by decide +kernel
theorem dX11_init_38 : decode cX11_init 38 = .ok (.aastore, 1) := by decide +kernel
theorem dX11_init_39 : decode cX11_init 39 = .ok (.dup, 1) := by decide +kernel
theorem dX11_init_40 : decode cX11_init 40 = .ok (.iconst 3, 1) := by decide +kernel
theorem dX11_init_41 : decode cX11_init 41 = .ok (.new 16, 3) := by decide +kernel
theorem dX11_init_44 : decode cX11_init 44 = .ok (.dup, 1) := by decide +kernel
theorem dX11_init_45 : decode cX11_init 45 = .ok (.invokespecial 18, 3) := by decide +kernel
theorem dX11_init_48 : decode cX11_init 48 = .ok (.aastore, 1) := by decide +kernel
theorem dX11_init_49 : decode cX11_init 49 = .ok (.dup, 1) := by decide +kernel
theorem dX11_init_50 : decode cX11_init 50 = .ok (.iconst 4, 1) := by decide +kernel
theorem dX11_init_51 : decode cX11_init 51 = .ok (.new 19, 3) := by decide +kernel
theorem dX11_init_54 : decode cX11_init 54 = .ok (.dup, 1) := by decide +kernel
theorem dX11_init_55 : decode cX11_init 55 = .ok (.invokespecial 21, 3) := by decide +kernel
theorem dX11_init_58 : decode cX11_init 58 = .ok (.aastore, 1) := by decide +kernel
theorem dX11_init_59 : decode cX11_init 59 = .ok (.dup, 1) := by decide +kernel
theorem dX11_init_60 : decode cX11_init 60 = .ok (.iconst 5, 1) := by decide +kernel
theorem dX11_init_61 : decode cX11_init 61 = .ok (.new 22, 3) := by decide +kernel
theorem dX11_init_64 : decode cX11_init 64 = .ok (.dup, 1) := by decide +kernel
theorem dX11_init_65 : decode cX11_init 65 = .ok (.invokespecial 24, 3) := by decide +kernel
theorem dX11_init_68 : decode cX11_init 68 = .ok (.aastore, 1) := by decide +kernel
theorem dX11_init_69 : decode cX11_init 69 = .ok (.astore_n 1, 1) := by decide +kernel
theorem dX11_init_70 : decode cX11_init 70 = .ok (.aload_n 0, 1) := by decide +kernel
theorem dX11_init_71 : decode cX11_init 71 = .ok (.new 25, 3) := by decide +kernel
theorem dX11_init_74 : decode cX11_init 74 = .ok (.dup, 1) := by decide +kernel
theorem dX11_init_75 : decode cX11_init 75 = .ok (.aload_n 1, 1) := by decide +kernel
theorem dX11_init_76 : decode cX11_init 76 = .ok (.invokespecial 27, 3) := by decide +kernel
theorem dX11_init_79 : decode cX11_init 79 = .ok (.putfield 30, 3) := by decide +kernel
theorem dX11_init_82 : decode cX11_init 82 = .ok (.aload_n 0, 1) := by decide +kernel
theorem dX11_init_83 : decode cX11_init 83 = .ok (.new 25, 3) := by decide +kernel
theorem dX11_init_86 : decode cX11_init 86 = .ok (.dup, 1) := by decide +kernel
theorem dX11_init_87 : decode cX11_init 87 = .ok (.aload_n 1, 1) := by decide +kernel
theorem dX11_init_88 : decode cX11_init 88 = .ok (.invokespecial 27, 3) := by decide +kernel
theorem dX11_init_91 : decode cX11_init 91 = .ok (.putfield 36, 3) := by decide +kernel
theorem dX11_init_94 : decode cX11_init 94 = .ok (.aload_n 0, 1) := by decide +kernel
theorem dX11_init_95 : decode cX11_init 95 = .ok (.new 25, 3) := by decide +kernel
theorem dX11_init_98 : decode cX11_init 98 = .ok (.dup, 1) := by decide +kernel
theorem dX11_init_99 : decode cX11_init 99 = .ok (.aload_n 1, 1) := by decide +kernel
theorem dX11_init_100 : decode cX11_init 100 = .ok (.invokespecial 27, 3) := by decide +kernel
theorem dX11_init_103 : decode cX11_init 103 = .ok (.putfield 39, 3) := by decide +kernel
theorem dX11_init_106 : decode cX11_init 106 = .ok (.aload_n 0, 1) := by decide +kernel
theorem dX11_init_107 : decode cX11_init 107 = .ok (.iconst 0, 1) := by decide +kernel
theorem dX11_init_108 : decode cX11_init 108 = .ok (.putfield 42, 3) := by decide +kernel
theorem dX11_init_111 : decode cX11_init 111 = .ok (.aload_n 0, 1) := by decide +kernel
theorem dX11_init_112 : decode cX11_init 112 = .ok (.new 46, 3) := by decide +kernel
theorem dX11_init_115 : decode cX11_init 115 = .ok (.dup, 1) := by decide +kernel
theorem dX11_init_116 : decode cX11_init 116 = .ok (.invokespecial 48, 3) := by decide +kernel
theorem dX11_init_119 : decode cX11_init 119 = .ok (.putfield 49, 3) := by decide +kernel
theorem dX11_init_122 : decode cX11_init 122 = .ok (.aload_n 0, 1) := by decide +kernel
theorem dX11_init_123 : decode cX11_init 123 = .ok (.new 53, 3) := by decide +kernel
theorem dX11_init_126 : decode cX11_init 126 = .ok (.dup, 1) := by decide +kernel
theorem dX11_init_127 : decode cX11_init 127 = .ok (.invokespecial 55, 3) := by decide +kernel
theorem dX11_init_130 : decode cX11_init 130 = .ok (.putfield 56, 3) := by decide +kernel
theorem dX11_init_133 : decode cX11_init 133 = .ok (.aload_n 0, 1) := by decide +kernel
theorem dX11_init_134 : decode cX11_init 134 = .ok (.new 60, 3) := by decide +kernel
theorem dX11_init_137 : decode cX11_init 137 = .ok (.dup, 1) := by decide +kernel
theorem dX11_init_138 : decode cX11_init 138 = .ok (.aload_n 0, 1) := by decide +kernel
theorem dX11_init_139 : decode cX11_init 139 = .ok (.getfield 56, 3) := by decide +kernel
theorem dX11_init_142 : decode cX11_init 142 = .ok (.invokespecial 62, 3) := by decide +kernel
theorem dX11_init_145 : decode cX11_init 145 = .ok (.putfield 65, 3) := by decide +kernel
theorem dX11_init_148 : decode cX11_init 148 = .ok (.aload_n 0, 1) := by decide +kernel
theorem dX11_init_149 : decode cX11_init 149 = .ok (.iconst 4, 1) := by decide +kernel
theorem dX11_init_150 : decode cX11_init 150 = .ok (.anewarray 69, 3) := by decide +kernel
theorem dX11_init_153 : decode cX11_init 153 = .ok (.putfield 71, 3) := by decide +kernel
theorem dX11_init_156 : decode cX11_init 156 = .ok (.iconst 0, 1) := by decide +kernel
theorem dX11_init_157 : decode cX11_init 157 = .ok (.istore_n 2, 1) := by decide +kernel
theorem dX11_init_158 : decode cX11_init 158 = .ok (.iload_n 2, 1) := by decide +kernel
theorem dX11_init_159 : decode cX11_init 159 = .ok (.iconst 4, 1) := by decide +kernel
theorem dX11_init_160 : decode cX11_init 160 = .ok (.if_icmp .ge 22, 3) := by decide +kernel
theorem dX11_init_163 : decode cX11_init 163 = .ok (.aload_n 0, 1) := by decide +kernel
theorem dX11_init_164 : decode cX11_init 164 = .ok (.getfield 71, 3) := by decide +kernel
theorem dX11_init_167 : decode cX11_init 167 = .ok (.iload_n 2, 1) := by decide +kernel
theorem dX11_init_168 : decode cX11_init 168 = .ok (.new 69, 3) := by decide +kernel
theorem dX11_init_171 : decode cX11_init 171 = .ok (.dup, 1) := by decide +kernel
theorem dX11_init_172 : decode cX11_init 172 = .ok (.invokespecial 75, 3) := by decide +kernel
theorem dX11_init_175 : decode cX11_init 175 = .ok (.aastore, 1) := by decide +kernel
theorem dX11_init_176 : decode cX11_init 176 = .ok (.iinc 2 1, 3) := by decide +kernel
theorem dX11_init_179 : decode cX11_init 179 = .ok (.goto (-21), 3) := by decide +kernel
theorem dX11_init_182 : decode cX11_init 182 = .ok (.aload_n 0, 1) := by decide +kernel
theorem dX11_init_183 : decode cX11_init 183 = .ok (.bipush 7, 2) := by decide +kernel
theorem dX11_init_185 : decode cX11_init 185 = .ok (.newarray .int, 2) := by decide +kernel
theorem dX11_init_187 : decode cX11_init 187 = .ok (.putfield 76, 3) := by decide +kernel
theorem dX11_init_190 : decode cX11_init 190 = .ok (.return_, 1) := by decide +kernel
theorem dX11_moves_0 : decode cX11_moves 0 = .ok (.iload_n 1, 1) := by decide +kernel
theorem dX11_moves_1 : decode cX11_moves 1 = .ok (.iconst 0, 1) := by decide +kernel
theorem dX11_moves_2 : decode cX11_moves 2 = .ok (.bipush 99, 2) := by decide +kernel
theorem dX11_moves_4 : decode cX11_moves 4 = .ok (.invokestatic 80, 3) := by decide +kernel
theorem dX11_moves_7 : decode cX11_moves 7 = .ok (.ifCond .ne 9, 3) := by decide +kernel
theorem dX11_moves_10 : decode cX11_moves 10 = .ok (.aload_n 0, 1) := by decide +kernel
theorem dX11_moves_11 : decode cX11_moves 11 = .ok (.iconst 0, 1) := by decide +kernel
theorem dX11_moves_12 : decode cX11_moves 12 = .ok (.invokevirtual 84, 3) := by decide +kernel
theorem dX11_moves_15 : decode cX11_moves 15 = .ok (.ireturn, 1) := by decide +kernel
theorem dX11_moves_16 : decode cX11_moves 16 = .ok (.aload_n 0, 1) := by decide +kernel
theorem dX11_moves_17 : decode cX11_moves 17 = .ok (.getfield 30, 3) := by decide +kernel
theorem dX11_moves_20 : decode cX11_moves 20 = .ok (.getfield 88, 3) := by decide +kernel
theorem dX11_moves_23 : decode cX11_moves 23 = .ok (.istore_n 2, 1) := by decide +kernel
theorem dX11_moves_24 : decode cX11_moves 24 = .ok (.aload_n 0, 1) := by decide +kernel
theorem dX11_moves_25 : decode cX11_moves 25 = .ok (.getfield 30, 3) := by decide +kernel
theorem dX11_moves_28 : decode cX11_moves 28 = .ok (.iload_n 1, 1) := by decide +kernel
theorem dX11_moves_29 : decode cX11_moves 29 = .ok (.putfield 88, 3) := by decide +kernel
theorem dX11_moves_32 : decode cX11_moves 32 = .ok (.iload_n 2, 1) := by decide +kernel
theorem dX11_moves_33 : decode cX11_moves 33 = .ok (.ireturn, 1) := by decide +kernel
theorem dX11_slip_0 : decode cX11_slip 0 = .ok (.iload_n 1, 1) := by decide +kernel
theorem dX11_slip_1 : decode cX11_slip 1 = .ok (.iconst (-1), 1) := by decide +kernel
theorem dX11_slip_2 : decode cX11_slip 2 = .ok (.iconst 5, 1) := by decide +kernel
theorem dX11_slip_3 : decode cX11_slip 3 = .ok (.invokestatic 80, 3) := by decide +kernel
theorem dX11_slip_6 : decode cX11_slip 6 = .ok (.ifCond .ne 9, 3) := by decide +kernel
theorem dX11_slip_9 : decode cX11_slip 9 = .ok (.aload_n 0, 1) := by decide +kernel
theorem dX11_slip_10 : decode cX11_slip 10 = .ok (.iconst 0, 1) := by decide +kernel
theorem dX11_slip_11 : decode cX11_slip 11 = .ok (.invokevirtual 84, 3) := by decide +kernel
theorem dX11_slip_14 : decode cX11_slip 14 = .ok (.ireturn, 1) := by decide +kernel
theorem dX11_slip_15 : decode cX11_slip 15 = .ok (.aload_n 0, 1) := by decide +kernel
theorem dX11_slip_16 : decode cX11_slip 16 = .ok (.getfield 30, 3) := by decide +kernel
theorem dX11_slip_19 : decode cX11_slip 19 = .ok (.getfield 92, 3) := by decide +kernel
theorem dX11_slip_22 : decode cX11_slip 22 = .ok (.bipush 10, 2) := by decide +kernel
theorem dX11_slip_24 : decode cX11_slip 24 = .ok (.if_icmp .lt 9, 3) := by decide +kernel
theorem dX11_slip_27 : decode cX11_slip 27 = .ok (.aload_n 0, 1) := by decide +kernel
theorem dX11_slip_28 : decode cX11_slip 28 = .ok (.iconst 1, 1) := by decide +kernel
theorem dX11_slip_29 : decode cX11_slip 29 = .ok (.invokevirtual 84, 3) := by decide +kernel
theorem dX11_slip_32 : decode cX11_slip 32 = .ok (.ireturn, 1) := by decide +kernel
theorem dX11_slip_33 : decode cX11_slip 33 = .ok (.aload_n 0, 1) := by decide +kernel
theorem dX11_slip_34 : decode cX11_slip 34 = .ok (.getfield 30, 3) := by decide +kernel
theorem dX11_slip_37 : decode cX11_slip 37 = .ok (.iload_n 1, 1) := by decide +kernel
theorem dX11_slip_38 : decode cX11_slip 38 = .ok (.iconst 0, 1) := by decide +kernel
theorem dX11_slip_39 : decode cX11_slip 39 = .ok (.invokevirtual 95, 3) := by decide +kernel
theorem dX11_slip_42 : decode cX11_slip 42 = .ok (.ireturn, 1) := by decide +kernel
theorem dX11_slipOf_0 : decode cX11_slipOf 0 = .ok (.aload_n 0, 1) := by decide +kernel
theorem dX11_slipOf_1 : decode cX11_slipOf 1 = .ok (.iload_n 1, 1) := by decide +kernel
theorem dX11_slipOf_2 : decode cX11_slipOf 2 = .ok (.invokevirtual 99, 3) := by decide +kernel
theorem dX11_slipOf_5 : decode cX11_slipOf 5 = .ok (.ifCond .eq 9, 3) := by decide +kernel
theorem dX11_slipOf_8 : decode cX11_slipOf 8 = .ok (.aload_n 0, 1) := by decide +kernel
theorem dX11_slipOf_9 : decode cX11_slipOf 9 = .ok (.iconst 0, 1) := by decide +kernel
theorem dX11_slipOf_10 : decode cX11_slipOf 10 = .ok (.invokevirtual 84, 3) := by decide +kernel
theorem dX11_slipOf_13 : decode cX11_slipOf 13 = .ok (.ireturn, 1) := by decide +kernel
theorem dX11_slipOf_14 : decode cX11_slipOf 14 = .ok (.iload_n 2, 1) := by decide +kernel
theorem dX11_slipOf_15 : decode cX11_slipOf 15 = .ok (.tableswitch 78 0 4 #[33, 43, 53, 63, 72], 33) := by decide +kernel
theorem dX11_slipOf_48 : decode cX11_slipOf 48 = .ok (.aload_n 0, 1) := by decide +kernel
theorem dX11_slipOf_49 : decode cX11_slipOf 49 = .ok (.getfield 30, 3) := by decide +kernel
theorem dX11_slipOf_52 : decode cX11_slipOf 52 = .ok (.getfield 103, 3) := by decide +kernel
theorem dX11_slipOf_55 : decode cX11_slipOf 55 = .ok (.iload_n 1, 1) := by decide +kernel
theorem dX11_slipOf_56 : decode cX11_slipOf 56 = .ok (.iaload, 1) := by decide +kernel
theorem dX11_slipOf_57 : decode cX11_slipOf 57 = .ok (.ireturn, 1) := by decide +kernel
theorem dX11_slipOf_58 : decode cX11_slipOf 58 = .ok (.aload_n 0, 1) := by decide +kernel
theorem dX11_slipOf_59 : decode cX11_slipOf 59 = .ok (.getfield 30, 3) := by decide +kernel
theorem dX11_slipOf_62 : decode cX11_slipOf 62 = .ok (.getfield 106, 3) := by decide +kernel
theorem dX11_slipOf_65 : decode cX11_slipOf 65 = .ok (.iload_n 1, 1) := by decide +kernel
theorem dX11_slipOf_66 : decode cX11_slipOf 66 = .ok (.iaload, 1) := by decide +kernel
theorem dX11_slipOf_67 : decode cX11_slipOf 67 = .ok (.ireturn, 1) := by decide +kernel
theorem dX11_slipOf_68 : decode cX11_slipOf 68 = .ok (.aload_n 0, 1) := by decide +kernel
theorem dX11_slipOf_69 : decode cX11_slipOf 69 = .ok (.getfield 30, 3) := by decide +kernel
theorem dX11_slipOf_72 : decode cX11_slipOf 72 = .ok (.getfield 109, 3) := by decide +kernel
theorem dX11_slipOf_75 : decode cX11_slipOf 75 = .ok (.iload_n 1, 1) := by decide +kernel
theorem dX11_slipOf_76 : decode cX11_slipOf 76 = .ok (.iaload, 1) := by decide +kernel
theorem dX11_slipOf_77 : decode cX11_slipOf 77 = .ok (.ireturn, 1) := by decide +kernel
theorem dX11_slipOf_78 : decode cX11_slipOf 78 = .ok (.aload_n 0, 1) := by decide +kernel
theorem dX11_slipOf_79 : decode cX11_slipOf 79 = .ok (.getfield 30, 3) := by decide +kernel
theorem dX11_slipOf_82 : decode cX11_slipOf 82 = .ok (.iload_n 1, 1) := by decide +kernel
theorem dX11_slipOf_83 : decode cX11_slipOf 83 = .ok (.invokevirtual 112, 3) := by decide +kernel
theorem dX11_slipOf_86 : decode cX11_slipOf 86 = .ok (.ireturn, 1) := by decide +kernel
theorem dX11_slipOf_87 : decode cX11_slipOf 87 = .ok (.aload_n 0, 1) := by decide +kernel
theorem dX11_slipOf_88 : decode cX11_slipOf 88 = .ok (.iload_n 1, 1) := by decide +kernel
theorem dX11_slipOf_89 : decode cX11_slipOf 89 = .ok (.invokevirtual 115, 3) := by decide +kernel
theorem dX11_slipOf_92 : decode cX11_slipOf 92 = .ok (.ireturn, 1) := by decide +kernel
theorem dX11_slipOf_93 : decode cX11_slipOf 93 = .ok (.aload_n 0, 1) := by decide +kernel
theorem dX11_slipOf_94 : decode cX11_slipOf 94 = .ok (.iconst 0, 1) := by decide +kernel
theorem dX11_slipOf_95 : decode cX11_slipOf 95 = .ok (.invokevirtual 84, 3) := by decide +kernel
theorem dX11_slipOf_98 : decode cX11_slipOf 98 = .ok (.ireturn, 1) := by decide +kernel
theorem dX11_stick_0 : decode cX11_stick 0 = .ok (.aload_n 0, 1) := by decide +kernel
theorem dX11_stick_1 : decode cX11_stick 1 = .ok (.iload_n 1, 1) := by decide +kernel
theorem dX11_stick_2 : decode cX11_stick 2 = .ok (.invokevirtual 99, 3) := by decide +kernel
theorem dX11_stick_5 : decode cX11_stick 5 = .ok (.ifCond .eq 9, 3) := by decide +kernel
theorem dX11_stick_8 : decode cX11_stick 8 = .ok (.aload_n 0, 1) := by decide +kernel
theorem dX11_stick_9 : decode cX11_stick 9 = .ok (.iconst 0, 1) := by decide +kernel
theorem dX11_stick_10 : decode cX11_stick 10 = .ok (.invokevirtual 84, 3) := by decide +kernel
theorem dX11_stick_13 : decode cX11_stick 13 = .ok (.ireturn, 1) := by decide +kernel
theorem dX11_stick_14 : decode cX11_stick 14 = .ok (.iload_n 2, 1) := by decide +kernel
theorem dX11_stick_15 : decode cX11_stick 15 = .ok (.tableswitch 75 0 2 #[25, 41, 59], 25) := by decide +kernel
theorem dX11_stick_40 : decode cX11_stick 40 = .ok (.aload_n 0, 1) := by decide +kernel
theorem dX11_stick_41 : decode cX11_stick 41 = .ok (.aload_n 0, 1) := by decide +kernel
theorem dX11_stick_42 : decode cX11_stick 42 = .ok (.getfield 30, 3) := by decide +kernel
theorem dX11_stick_45 : decode cX11_stick 45 = .ok (.getfield 103, 3) := by decide +kernel
theorem dX11_stick_48 : decode cX11_stick 48 = .ok (.iload_n 1, 1) := by decide +kernel
theorem dX11_stick_49 : decode cX11_stick 49 = .ok (.iload_n 3, 1) := by decide +kernel
theorem dX11_stick_50 : decode cX11_stick 50 = .ok (.iconst (-1), 1) := by decide +kernel
theorem dX11_stick_51 : decode cX11_stick 51 = .ok (.iconst 5, 1) := by decide +kernel
theorem dX11_stick_52 : decode cX11_stick 52 = .ok (.invokevirtual 118, 3) := by decide +kernel
theorem dX11_stick_55 : decode cX11_stick 55 = .ok (.ireturn, 1) := by decide +kernel
theorem dX11_stick_56 : decode cX11_stick 56 = .ok (.aload_n 0, 1) := by decide +kernel
theorem dX11_stick_57 : decode cX11_stick 57 = .ok (.aload_n 0, 1) := by decide +kernel
theorem dX11_stick_58 : decode cX11_stick 58 = .ok (.getfield 30, 3) := by decide +kernel
theorem dX11_stick_61 : decode cX11_stick 61 = .ok (.getfield 106, 3) := by decide +kernel
theorem dX11_stick_64 : decode cX11_stick 64 = .ok (.iload_n 1, 1) := by decide +kernel
theorem dX11_stick_65 : decode cX11_stick 65 = .ok (.iload_n 3, 1) := by decide +kernel
theorem dX11_stick_66 : decode cX11_stick 66 = .ok (.iconst 0, 1) := by decide +kernel
theorem dX11_stick_67 : decode cX11_stick 67 = .ok (.sipush 999, 3) := by decide +kernel
theorem dX11_stick_70 : decode cX11_stick 70 = .ok (.invokevirtual 118, 3) := by decide +kernel
theorem dX11_stick_73 : decode cX11_stick 73 = .ok (.ireturn, 1) := by decide +kernel
theorem dX11_stick_74 : decode cX11_stick 74 = .ok (.aload_n 0, 1) := by decide +kernel
theorem dX11_stick_75 : decode cX11_stick 75 = .ok (.aload_n 0, 1) := by decide +kernel
theorem dX11_stick_76 : decode cX11_stick 76 = .ok (.getfield 30, 3) := by decide +kernel
theorem dX11_stick_79 : decode cX11_stick 79 = .ok (.getfield 109, 3) := by decide +kernel
theorem dX11_stick_82 : decode cX11_stick 82 = .ok (.iload_n 1, 1) := by decide +kernel
theorem dX11_stick_83 : decode cX11_stick 83 = .ok (.iload_n 3, 1) := by decide +kernel
theorem dX11_stick_84 : decode cX11_stick 84 = .ok (.iconst 0, 1) := by decide +kernel
theorem dX11_stick_85 : decode cX11_stick 85 = .ok (.iconst 1, 1) := by decide +kernel
theorem dX11_stick_86 : decode cX11_stick 86 = .ok (.invokevirtual 118, 3) := by decide +kernel
theorem dX11_stick_89 : decode cX11_stick 89 = .ok (.ireturn, 1) := by decide +kernel
theorem dX11_stick_90 : decode cX11_stick 90 = .ok (.aload_n 0, 1) := by decide +kernel
theorem dX11_stick_91 : decode cX11_stick 91 = .ok (.iconst 0, 1) := by decide +kernel
theorem dX11_stick_92 : decode cX11_stick 92 = .ok (.invokevirtual 84, 3) := by decide +kernel
theorem dX11_stick_95 : decode cX11_stick 95 = .ok (.ireturn, 1) := by decide +kernel
theorem dX11_group_0 : decode cX11_group 0 = .ok (.iload_n 1, 1) := by decide +kernel
theorem dX11_group_1 : decode cX11_group 1 = .ok (.iconst (-1), 1) := by decide +kernel
theorem dX11_group_2 : decode cX11_group 2 = .ok (.iconst 5, 1) := by decide +kernel
theorem dX11_group_3 : decode cX11_group 3 = .ok (.invokestatic 80, 3) := by decide +kernel
theorem dX11_group_6 : decode cX11_group 6 = .ok (.ifCond .ne 9, 3) := by decide +kernel
theorem dX11_group_9 : decode cX11_group 9 = .ok (.aload_n 0, 1) := by decide +kernel
theorem dX11_group_10 : decode cX11_group 10 = .ok (.iconst 0, 1) := by decide +kernel
theorem dX11_group_11 : decode cX11_group 11 = .ok (.invokevirtual 84, 3) := by decide +kernel
theorem dX11_group_14 : decode cX11_group 14 = .ok (.ireturn, 1) := by decide +kernel
theorem dX11_group_15 : decode cX11_group 15 = .ok (.aload_n 0, 1) := by decide +kernel
theorem dX11_group_16 : decode cX11_group 16 = .ok (.getfield 30, 3) := by decide +kernel
theorem dX11_group_19 : decode cX11_group 19 = .ok (.iload_n 1, 1) := by decide +kernel
theorem dX11_group_20 : decode cX11_group 20 = .ok (.invokevirtual 122, 3) := by decide +kernel
theorem dX11_group_23 : decode cX11_group 23 = .ok (.ireturn, 1) := by decide +kernel
theorem dX11_now_0 : decode cX11_now 0 = .ok (.iload_n 1, 1) := by decide +kernel
theorem dX11_now_1 : decode cX11_now 1 = .ok (.tableswitch 87 0 5 #[39, 47, 55, 63, 71, 79], 39) := by decide +kernel
theorem dX11_now_40 : decode cX11_now 40 = .ok (.aload_n 0, 1) := by decide +kernel
theorem dX11_now_41 : decode cX11_now 41 = .ok (.getfield 30, 3) := by decide +kernel
theorem dX11_now_44 : decode cX11_now 44 = .ok (.getfield 125, 3) := by decide +kernel
theorem dX11_now_47 : decode cX11_now 47 = .ok (.ireturn, 1) := by decide +kernel
theorem dX11_now_48 : decode cX11_now 48 = .ok (.aload_n 0, 1) := by decide +kernel
theorem dX11_now_49 : decode cX11_now 49 = .ok (.getfield 30, 3) := by decide +kernel
theorem dX11_now_52 : decode cX11_now 52 = .ok (.getfield 88, 3) := by decide +kernel
theorem dX11_now_55 : decode cX11_now 55 = .ok (.ireturn, 1) := by decide +kernel
theorem dX11_now_56 : decode cX11_now 56 = .ok (.aload_n 0, 1) := by decide +kernel
theorem dX11_now_57 : decode cX11_now 57 = .ok (.getfield 30, 3) := by decide +kernel
theorem dX11_now_60 : decode cX11_now 60 = .ok (.invokevirtual 128, 3) := by decide +kernel
theorem dX11_now_63 : decode cX11_now 63 = .ok (.ireturn, 1) := by decide +kernel
theorem dX11_now_64 : decode cX11_now 64 = .ok (.aload_n 0, 1) := by decide +kernel
theorem dX11_now_65 : decode cX11_now 65 = .ok (.getfield 30, 3) := by decide +kernel
theorem dX11_now_68 : decode cX11_now 68 = .ok (.invokevirtual 132, 3) := by decide +kernel
theorem dX11_now_71 : decode cX11_now 71 = .ok (.ireturn, 1) := by decide +kernel
theorem dX11_now_72 : decode cX11_now 72 = .ok (.aload_n 0, 1) := by decide +kernel
theorem dX11_now_73 : decode cX11_now 73 = .ok (.getfield 30, 3) := by decide +kernel
theorem dX11_now_76 : decode cX11_now 76 = .ok (.invokevirtual 135, 3) := by decide +kernel
theorem dX11_now_79 : decode cX11_now 79 = .ok (.ireturn, 1) := by decide +kernel
theorem dX11_now_80 : decode cX11_now 80 = .ok (.aload_n 0, 1) := by decide +kernel
theorem dX11_now_81 : decode cX11_now 81 = .ok (.getfield 30, 3) := by decide +kernel
theorem dX11_now_84 : decode cX11_now 84 = .ok (.invokevirtual 138, 3) := by decide +kernel
theorem dX11_now_87 : decode cX11_now 87 = .ok (.ireturn, 1) := by decide +kernel
theorem dX11_now_88 : decode cX11_now 88 = .ok (.aload_n 0, 1) := by decide +kernel
theorem dX11_now_89 : decode cX11_now 89 = .ok (.iconst 0, 1) := by decide +kernel
theorem dX11_now_90 : decode cX11_now 90 = .ok (.invokevirtual 84, 3) := by decide +kernel
theorem dX11_now_93 : decode cX11_now 93 = .ok (.ireturn, 1) := by decide +kernel
theorem dX11_person_0 : decode cX11_person 0 = .ok (.iload_n 1, 1) := by decide +kernel
theorem dX11_person_1 : decode cX11_person 1 = .ok (.iconst 0, 1) := by decide +kernel
theorem dX11_person_2 : decode cX11_person 2 = .ok (.iconst 5, 1) := by decide +kernel
theorem dX11_person_3 : decode cX11_person 3 = .ok (.invokestatic 80, 3) := by decide +kernel
theorem dX11_person_6 : decode cX11_person 6 = .ok (.ifCond .ne 9, 3) := by decide +kernel
theorem dX11_person_9 : decode cX11_person 9 = .ok (.aload_n 0, 1) := by decide +kernel
theorem dX11_person_10 : decode cX11_person 10 = .ok (.iconst 0, 1) := by decide +kernel
theorem dX11_person_11 : decode cX11_person 11 = .ok (.invokevirtual 84, 3) := by decide +kernel
theorem dX11_person_14 : decode cX11_person 14 = .ok (.ireturn, 1) := by decide +kernel
theorem dX11_person_15 : decode cX11_person 15 = .ok (.aload_n 0, 1) := by decide +kernel
theorem dX11_person_16 : decode cX11_person 16 = .ok (.getfield 30, 3) := by decide +kernel
theorem dX11_person_19 : decode cX11_person 19 = .ok (.getfield 141, 3) := by decide +kernel
theorem dX11_person_22 : decode cX11_person 22 = .ok (.bipush 6, 2) := by decide +kernel
theorem dX11_person_24 : decode cX11_person 24 = .ok (.if_icmp .lt 9, 3) := by decide +kernel
theorem dX11_person_27 : decode cX11_person 27 = .ok (.aload_n 0, 1) := by decide +kernel
theorem dX11_person_28 : decode cX11_person 28 = .ok (.iconst 1, 1) := by decide +kernel
theorem dX11_person_29 : decode cX11_person 29 = .ok (.invokevirtual 84, 3) := by decide +kernel
theorem dX11_person_32 : decode cX11_person 32 = .ok (.ireturn, 1) := by decide +kernel
theorem dX11_person_33 : decode cX11_person 33 = .ok (.aload_n 0, 1) := by decide +kernel
theorem dX11_person_34 : decode cX11_person 34 = .ok (.getfield 30, 3) := by decide +kernel
theorem dX11_person_37 : decode cX11_person 37 = .ok (.iload_n 1, 1) := by decide +kernel
theorem dX11_person_38 : decode cX11_person 38 = .ok (.invokevirtual 144, 3) := by decide +kernel
theorem dX11_person_41 : decode cX11_person 41 = .ok (.ireturn, 1) := by decide +kernel
theorem dX11_of_0 : decode cX11_of 0 = .ok (.aload_n 0, 1) := by decide +kernel
theorem dX11_of_1 : decode cX11_of 1 = .ok (.iload_n 1, 1) := by decide +kernel
theorem dX11_of_2 : decode cX11_of 2 = .ok (.invokevirtual 147, 3) := by decide +kernel
theorem dX11_of_5 : decode cX11_of 5 = .ok (.ifCond .eq 9, 3) := by decide +kernel
theorem dX11_of_8 : decode cX11_of 8 = .ok (.aload_n 0, 1) := by decide +kernel
theorem dX11_of_9 : decode cX11_of 9 = .ok (.iconst 0, 1) := by decide +kernel
theorem dX11_of_10 : decode cX11_of 10 = .ok (.invokevirtual 84, 3) := by decide +kernel
theorem dX11_of_13 : decode cX11_of 13 = .ok (.ireturn, 1) := by decide +kernel
theorem dX11_of_14 : decode cX11_of 14 = .ok (.iload_n 2, 1) := by decide +kernel
theorem dX11_of_15 : decode cX11_of 15 = .ok (.tableswitch 80 0 4 #[33, 43, 53, 62, 71], 33) := by decide +kernel
theorem dX11_of_48 : decode cX11_of 48 = .ok (.aload_n 0, 1) := by decide +kernel
theorem dX11_of_49 : decode cX11_of 49 = .ok (.getfield 30, 3) := by decide +kernel
theorem dX11_of_52 : decode cX11_of 52 = .ok (.getfield 150, 3) := by decide +kernel
theorem dX11_of_55 : decode cX11_of 55 = .ok (.iload_n 1, 1) := by decide +kernel
theorem dX11_of_56 : decode cX11_of 56 = .ok (.iaload, 1) := by decide +kernel
theorem dX11_of_57 : decode cX11_of 57 = .ok (.ireturn, 1) := by decide +kernel
theorem dX11_of_58 : decode cX11_of 58 = .ok (.aload_n 0, 1) := by decide +kernel
theorem dX11_of_59 : decode cX11_of 59 = .ok (.getfield 30, 3) := by decide +kernel
theorem dX11_of_62 : decode cX11_of 62 = .ok (.getfield 153, 3) := by decide +kernel
theorem dX11_of_65 : decode cX11_of 65 = .ok (.iload_n 1, 1) := by decide +kernel
theorem dX11_of_66 : decode cX11_of 66 = .ok (.iaload, 1) := by decide +kernel
theorem dX11_of_67 : decode cX11_of 67 = .ok (.ireturn, 1) := by decide +kernel
theorem dX11_of_68 : decode cX11_of 68 = .ok (.aload_n 0, 1) := by decide +kernel
theorem dX11_of_69 : decode cX11_of 69 = .ok (.getfield 30, 3) := by decide +kernel
theorem dX11_of_72 : decode cX11_of 72 = .ok (.iload_n 1, 1) := by decide +kernel
theorem dX11_of_73 : decode cX11_of 73 = .ok (.invokevirtual 156, 3) := by decide +kernel
theorem dX11_of_76 : decode cX11_of 76 = .ok (.ireturn, 1) := by decide +kernel
theorem dX11_of_77 : decode cX11_of 77 = .ok (.aload_n 0, 1) := by decide +kernel
theorem dX11_of_78 : decode cX11_of 78 = .ok (.getfield 30, 3) := by decide +kernel
theorem dX11_of_81 : decode cX11_of 81 = .ok (.iload_n 1, 1) := by decide +kernel
theorem dX11_of_82 : decode cX11_of 82 = .ok (.invokevirtual 159, 3) := by decide +kernel
theorem dX11_of_85 : decode cX11_of 85 = .ok (.ireturn, 1) := by decide +kernel
theorem dX11_of_86 : decode cX11_of 86 = .ok (.aload_n 0, 1) := by decide +kernel
theorem dX11_of_87 : decode cX11_of 87 = .ok (.getfield 30, 3) := by decide +kernel
theorem dX11_of_90 : decode cX11_of 90 = .ok (.iload_n 1, 1) := by decide +kernel
theorem dX11_of_91 : decode cX11_of 91 = .ok (.invokevirtual 162, 3) := by decide +kernel
theorem dX11_of_94 : decode cX11_of 94 = .ok (.ireturn, 1) := by decide +kernel
theorem dX11_of_95 : decode cX11_of 95 = .ok (.aload_n 0, 1) := by decide +kernel
theorem dX11_of_96 : decode cX11_of 96 = .ok (.iconst 0, 1) := by decide +kernel
theorem dX11_of_97 : decode cX11_of 97 = .ok (.invokevirtual 84, 3) := by decide +kernel
theorem dX11_of_100 : decode cX11_of 100 = .ok (.ireturn, 1) := by decide +kernel
theorem dX11_wants_0 : decode cX11_wants 0 = .ok (.aload_n 0, 1) := by decide +kernel
theorem dX11_wants_1 : decode cX11_wants 1 = .ok (.iload_n 1, 1) := by decide +kernel
theorem dX11_wants_2 : decode cX11_wants 2 = .ok (.invokevirtual 147, 3) := by decide +kernel
theorem dX11_wants_5 : decode cX11_wants 5 = .ok (.ifCond .ne 13, 3) := by decide +kernel
theorem dX11_wants_8 : decode cX11_wants 8 = .ok (.iload_n 2, 1) := by decide +kernel
theorem dX11_wants_9 : decode cX11_wants 9 = .ok (.iconst 0, 1) := by decide +kernel
theorem dX11_wants_10 : decode cX11_wants 10 = .ok (.bipush 9, 2) := by decide +kernel
theorem dX11_wants_12 : decode cX11_wants 12 = .ok (.invokestatic 80, 3) := by decide +kernel
theorem dX11_wants_15 : decode cX11_wants 15 = .ok (.ifCond .ne 9, 3) := by decide +kernel
theorem dX11_wants_18 : decode cX11_wants 18 = .ok (.aload_n 0, 1) := by decide +kernel
theorem dX11_wants_19 : decode cX11_wants 19 = .ok (.iconst 0, 1) := by decide +kernel
theorem dX11_wants_20 : decode cX11_wants 20 = .ok (.invokevirtual 84, 3) := by decide +kernel
theorem dX11_wants_23 : decode cX11_wants 23 = .ok (.ireturn, 1) := by decide +kernel
theorem dX11_wants_24 : decode cX11_wants 24 = .ok (.aload_n 0, 1) := by decide +kernel
theorem dX11_wants_25 : decode cX11_wants 25 = .ok (.aload_n 0, 1) := by decide +kernel
theorem dX11_wants_26 : decode cX11_wants 26 = .ok (.getfield 30, 3) := by decide +kernel
theorem dX11_wants_29 : decode cX11_wants 29 = .ok (.getfield 165, 3) := by decide +kernel
theorem dX11_wants_32 : decode cX11_wants 32 = .ok (.iload_n 1, 1) := by decide +kernel
theorem dX11_wants_33 : decode cX11_wants 33 = .ok (.iload_n 2, 1) := by decide +kernel
theorem dX11_wants_34 : decode cX11_wants 34 = .ok (.invokestatic 168, 3) := by decide +kernel
theorem dX11_wants_37 : decode cX11_wants 37 = .ok (.iload_n 3, 1) := by decide +kernel
theorem dX11_wants_38 : decode cX11_wants 38 = .ok (.iconst 0, 1) := by decide +kernel
theorem dX11_wants_39 : decode cX11_wants 39 = .ok (.iconst 5, 1) := by decide +kernel
theorem dX11_wants_40 : decode cX11_wants 40 = .ok (.invokevirtual 118, 3) := by decide +kernel
theorem dX11_wants_43 : decode cX11_wants 43 = .ok (.ireturn, 1) := by decide +kernel
theorem dX11_out_0 : decode cX11_out 0 = .ok (.aload_n 0, 1) := by decide +kernel
theorem dX11_out_1 : decode cX11_out 1 = .ok (.iload_n 1, 1) := by decide +kernel
theorem dX11_out_2 : decode cX11_out 2 = .ok (.invokevirtual 147, 3) := by decide +kernel
theorem dX11_out_5 : decode cX11_out 5 = .ok (.ifCond .eq 9, 3) := by decide +kernel
theorem dX11_out_8 : decode cX11_out 8 = .ok (.aload_n 0, 1) := by decide +kernel
theorem dX11_out_9 : decode cX11_out 9 = .ok (.iconst 0, 1) := by decide +kernel
theorem dX11_out_10 : decode cX11_out 10 = .ok (.invokevirtual 84, 3) := by decide +kernel
theorem dX11_out_13 : decode cX11_out 13 = .ok (.ireturn, 1) := by decide +kernel
theorem dX11_out_14 : decode cX11_out 14 = .ok (.aload_n 0, 1) := by decide +kernel
theorem dX11_out_15 : decode cX11_out 15 = .ok (.aload_n 0, 1) := by decide +kernel
theorem dX11_out_16 : decode cX11_out 16 = .ok (.getfield 30, 3) := by decide +kernel
theorem dX11_out_19 : decode cX11_out 19 = .ok (.getfield 153, 3) := by decide +kernel
theorem dX11_out_22 : decode cX11_out 22 = .ok (.iload_n 1, 1) := by decide +kernel
theorem dX11_out_23 : decode cX11_out 23 = .ok (.iload_n 2, 1) := by decide +kernel
theorem dX11_out_24 : decode cX11_out 24 = .ok (.iconst 0, 1) := by decide +kernel
theorem dX11_out_25 : decode cX11_out 25 = .ok (.iconst 1, 1) := by decide +kernel
theorem dX11_out_26 : decode cX11_out 26 = .ok (.invokevirtual 118, 3) := by decide +kernel
theorem dX11_out_29 : decode cX11_out 29 = .ok (.ireturn, 1) := by decide +kernel
theorem dX11_turn_0 : decode cX11_turn 0 = .ok (.aload_n 0, 1) := by decide +kernel
theorem dX11_turn_1 : decode cX11_turn 1 = .ok (.iload_n 1, 1) := by decide +kernel
theorem dX11_turn_2 : decode cX11_turn 2 = .ok (.invokevirtual 147, 3) := by decide +kernel
theorem dX11_turn_5 : decode cX11_turn 5 = .ok (.ifCond .eq 9, 3) := by decide +kernel
theorem dX11_turn_8 : decode cX11_turn 8 = .ok (.aload_n 0, 1) := by decide +kernel
theorem dX11_turn_9 : decode cX11_turn 9 = .ok (.iconst 0, 1) := by decide +kernel
theorem dX11_turn_10 : decode cX11_turn 10 = .ok (.invokevirtual 84, 3) := by decide +kernel
theorem dX11_turn_13 : decode cX11_turn 13 = .ok (.ireturn, 1) := by decide +kernel
theorem dX11_turn_14 : decode cX11_turn 14 = .ok (.aload_n 0, 1) := by decide +kernel
theorem dX11_turn_15 : decode cX11_turn 15 = .ok (.aload_n 0, 1) := by decide +kernel
theorem dX11_turn_16 : decode cX11_turn 16 = .ok (.getfield 30, 3) := by decide +kernel
theorem dX11_turn_19 : decode cX11_turn 19 = .ok (.getfield 150, 3) := by decide +kernel
theorem dX11_turn_22 : decode cX11_turn 22 = .ok (.iload_n 1, 1) := by decide +kernel
theorem dX11_turn_23 : decode cX11_turn 23 = .ok (.iload_n 2, 1) := by decide +kernel
theorem dX11_turn_24 : decode cX11_turn 24 = .ok (.iconst 0, 1) := by decide +kernel
theorem dX11_turn_25 : decode cX11_turn 25 = .ok (.iconst 5, 1) := by decide +kernel
theorem dX11_turn_26 : decode cX11_turn 26 = .ok (.invokevirtual 118, 3) := by decide +kernel
theorem dX11_turn_29 : decode cX11_turn 29 = .ok (.ireturn, 1) := by decide +kernel
theorem dX11_as_0 : decode cX11_as 0 = .ok (.aload_n 0, 1) := by decide +kernel
theorem dX11_as_1 : decode cX11_as 1 = .ok (.iload_n 1, 1) := by decide +kernel
theorem dX11_as_2 : decode cX11_as 2 = .ok (.invokevirtual 147, 3) := by decide +kernel
theorem dX11_as_5 : decode cX11_as 5 = .ok (.ifCond .ne 12, 3) := by decide +kernel
theorem dX11_as_8 : decode cX11_as 8 = .ok (.iload_n 2, 1) := by decide +kernel
theorem dX11_as_9 : decode cX11_as 9 = .ok (.iconst 0, 1) := by decide +kernel
theorem dX11_as_10 : decode cX11_as 10 = .ok (.iconst 5, 1) := by decide +kernel
theorem dX11_as_11 : decode cX11_as 11 = .ok (.invokestatic 80, 3) := by decide +kernel
theorem dX11_as_14 : decode cX11_as 14 = .ok (.ifCond .ne 9, 3) := by decide +kernel
theorem dX11_as_17 : decode cX11_as 17 = .ok (.aload_n 0, 1) := by decide +kernel
theorem dX11_as_18 : decode cX11_as 18 = .ok (.iconst 0, 1) := by decide +kernel
theorem dX11_as_19 : decode cX11_as 19 = .ok (.invokevirtual 84, 3) := by decide +kernel
theorem dX11_as_22 : decode cX11_as 22 = .ok (.ireturn, 1) := by decide +kernel
theorem dX11_as_23 : decode cX11_as 23 = .ok (.aload_n 0, 1) := by decide +kernel
theorem dX11_as_24 : decode cX11_as 24 = .ok (.getfield 30, 3) := by decide +kernel
theorem dX11_as_27 : decode cX11_as 27 = .ok (.iload_n 1, 1) := by decide +kernel
theorem dX11_as_28 : decode cX11_as 28 = .ok (.iload_n 2, 1) := by decide +kernel
theorem dX11_as_29 : decode cX11_as 29 = .ok (.invokevirtual 171, 3) := by decide +kernel
theorem dX11_as_32 : decode cX11_as 32 = .ok (.ifCond .ne 9, 3) := by decide +kernel
theorem dX11_as_35 : decode cX11_as 35 = .ok (.aload_n 0, 1) := by decide +kernel
theorem dX11_as_36 : decode cX11_as 36 = .ok (.iconst 2, 1) := by decide +kernel
theorem dX11_as_37 : decode cX11_as 37 = .ok (.invokevirtual 84, 3) := by decide +kernel
theorem dX11_as_40 : decode cX11_as 40 = .ok (.ireturn, 1) := by decide +kernel
theorem dX11_as_41 : decode cX11_as 41 = .ok (.aload_n 0, 1) := by decide +kernel
theorem dX11_as_42 : decode cX11_as 42 = .ok (.getfield 30, 3) := by decide +kernel
theorem dX11_as_45 : decode cX11_as 45 = .ok (.iload_n 1, 1) := by decide +kernel
theorem dX11_as_46 : decode cX11_as 46 = .ok (.invokevirtual 175, 3) := by decide +kernel
theorem dX11_as_49 : decode cX11_as 49 = .ok (.ireturn, 1) := by decide +kernel
theorem dX11_alike_0 : decode cX11_alike 0 = .ok (.aload_n 0, 1) := by decide +kernel
theorem dX11_alike_1 : decode cX11_alike 1 = .ok (.iload_n 1, 1) := by decide +kernel
theorem dX11_alike_2 : decode cX11_alike 2 = .ok (.invokevirtual 147, 3) := by decide +kernel
theorem dX11_alike_5 : decode cX11_alike 5 = .ok (.ifCond .ne 16, 3) := by decide +kernel
theorem dX11_alike_8 : decode cX11_alike 8 = .ok (.aload_n 0, 1) := by decide +kernel
theorem dX11_alike_9 : decode cX11_alike 9 = .ok (.iload_n 2, 1) := by decide +kernel
theorem dX11_alike_10 : decode cX11_alike 10 = .ok (.invokevirtual 147, 3) := by decide +kernel
theorem dX11_alike_13 : decode cX11_alike 13 = .ok (.ifCond .ne 8, 3) := by decide +kernel
theorem dX11_alike_16 : decode cX11_alike 16 = .ok (.iload_n 1, 1) := by decide +kernel
theorem dX11_alike_17 : decode cX11_alike 17 = .ok (.iload_n 2, 1) := by decide +kernel
theorem dX11_alike_18 : decode cX11_alike 18 = .ok (.if_icmp .ne 9, 3) := by decide +kernel
theorem dX11_alike_21 : decode cX11_alike 21 = .ok (.aload_n 0, 1) := by decide +kernel
theorem dX11_alike_22 : decode cX11_alike 22 = .ok (.iconst 0, 1) := by decide +kernel
theorem dX11_alike_23 : decode cX11_alike 23 = .ok (.invokevirtual 84, 3) := by decide +kernel
theorem dX11_alike_26 : decode cX11_alike 26 = .ok (.ireturn, 1) := by decide +kernel
theorem dX11_alike_27 : decode cX11_alike 27 = .ok (.aload_n 0, 1) := by decide +kernel
theorem dX11_alike_28 : decode cX11_alike 28 = .ok (.getfield 30, 3) := by decide +kernel
theorem dX11_alike_31 : decode cX11_alike 31 = .ok (.iload_n 1, 1) := by decide +kernel
theorem dX11_alike_32 : decode cX11_alike 32 = .ok (.iload_n 2, 1) := by decide +kernel
theorem dX11_alike_33 : decode cX11_alike 33 = .ok (.invokevirtual 178, 3) := by decide +kernel
theorem dX11_alike_36 : decode cX11_alike 36 = .ok (.ireturn, 1) := by decide +kernel
theorem dX11_minutes_0 : decode cX11_minutes 0 = .ok (.iload_n 1, 1) := by decide +kernel
theorem dX11_minutes_1 : decode cX11_minutes 1 = .ok (.iconst 1, 1) := by decide +kernel
theorem dX11_minutes_2 : decode cX11_minutes 2 = .ok (.bipush 100, 2) := by decide +kernel
theorem dX11_minutes_4 : decode cX11_minutes 4 = .ok (.invokestatic 80, 3) := by decide +kernel
theorem dX11_minutes_7 : decode cX11_minutes 7 = .ok (.ifCond .ne 9, 3) := by decide +kernel
theorem dX11_minutes_10 : decode cX11_minutes 10 = .ok (.aload_n 0, 1) := by decide +kernel
theorem dX11_minutes_11 : decode cX11_minutes 11 = .ok (.iconst 0, 1) := by decide +kernel
theorem dX11_minutes_12 : decode cX11_minutes 12 = .ok (.invokevirtual 84, 3) := by decide +kernel
theorem dX11_minutes_15 : decode cX11_minutes 15 = .ok (.ireturn, 1) := by decide +kernel
theorem dX11_minutes_16 : decode cX11_minutes 16 = .ok (.aload_n 0, 1) := by decide +kernel
theorem dX11_minutes_17 : decode cX11_minutes 17 = .ok (.getfield 30, 3) := by decide +kernel
theorem dX11_minutes_20 : decode cX11_minutes 20 = .ok (.getfield 125, 3) := by decide +kernel
theorem dX11_minutes_23 : decode cX11_minutes 23 = .ok (.ldc 181, 2) := by decide +kernel
theorem dX11_minutes_25 : decode cX11_minutes 25 = .ok (.iload_n 1, 1) := by decide +kernel
theorem dX11_minutes_26 : decode cX11_minutes 26 = .ok (.isub, 1) := by decide +kernel
theorem dX11_minutes_27 : decode cX11_minutes 27 = .ok (.if_icmp .le 9, 3) := by decide +kernel
theorem dX11_minutes_30 : decode cX11_minutes 30 = .ok (.aload_n 0, 1) := by decide +kernel
theorem dX11_minutes_31 : decode cX11_minutes 31 = .ok (.iconst 4, 1) := by decide +kernel
theorem dX11_minutes_32 : decode cX11_minutes 32 = .ok (.invokevirtual 84, 3) := by decide +kernel
theorem dX11_minutes_35 : decode cX11_minutes 35 = .ok (.ireturn, 1) := by decide +kernel
theorem dX11_minutes_36 : decode cX11_minutes 36 = .ok (.aload_n 0, 1) := by decide +kernel
theorem dX11_minutes_37 : decode cX11_minutes 37 = .ok (.getfield 30, 3) := by decide +kernel
theorem dX11_minutes_40 : decode cX11_minutes 40 = .ok (.iload_n 1, 1) := by decide +kernel
theorem dX11_minutes_41 : decode cX11_minutes 41 = .ok (.invokevirtual 182, 3) := by decide +kernel
theorem dX11_minutes_44 : decode cX11_minutes 44 = .ok (.aload_n 0, 1) := by decide +kernel
theorem dX11_minutes_45 : decode cX11_minutes 45 = .ok (.getfield 30, 3) := by decide +kernel
theorem dX11_minutes_48 : decode cX11_minutes 48 = .ok (.invokevirtual 138, 3) := by decide +kernel
theorem dX11_minutes_51 : decode cX11_minutes 51 = .ok (.ireturn, 1) := by decide +kernel
theorem dX11_on_0 : decode cX11_on 0 = .ok (.aload_n 0, 1) := by decide +kernel
theorem dX11_on_1 : decode cX11_on 1 = .ok (.iload_n 1, 1) := by decide +kernel
theorem dX11_on_2 : decode cX11_on 2 = .ok (.invokevirtual 99, 3) := by decide +kernel
theorem dX11_on_5 : decode cX11_on 5 = .ok (.ifCond .ne 23, 3) := by decide +kernel
theorem dX11_on_8 : decode cX11_on 8 = .ok (.iload_n 2, 1) := by decide +kernel
theorem dX11_on_9 : decode cX11_on 9 = .ok (.iconst 0, 1) := by decide +kernel
theorem dX11_on_10 : decode cX11_on 10 = .ok (.sipush 200, 3) := by decide +kernel
theorem dX11_on_13 : decode cX11_on 13 = .ok (.invokestatic 80, 3) := by decide +kernel
theorem dX11_on_16 : decode cX11_on 16 = .ok (.ifCond .eq 12, 3) := by decide +kernel
theorem dX11_on_19 : decode cX11_on 19 = .ok (.iload_n 3, 1) := by decide +kernel
theorem dX11_on_20 : decode cX11_on 20 = .ok (.iconst 0, 1) := by decide +kernel
theorem dX11_on_21 : decode cX11_on 21 = .ok (.iconst 2, 1) := by decide +kernel
theorem dX11_on_22 : decode cX11_on 22 = .ok (.invokestatic 80, 3) := by decide +kernel
theorem dX11_on_25 : decode cX11_on 25 = .ok (.ifCond .ne 9, 3) := by decide +kernel
theorem dX11_on_28 : decode cX11_on 28 = .ok (.aload_n 0, 1) := by decide +kernel
theorem dX11_on_29 : decode cX11_on 29 = .ok (.iconst 0, 1) := by decide +kernel
theorem dX11_on_30 : decode cX11_on 30 = .ok (.invokevirtual 84, 3) := by decide +kernel
theorem dX11_on_33 : decode cX11_on 33 = .ok (.ireturn, 1) := by decide +kernel
theorem dX11_on_34 : decode cX11_on 34 = .ok (.aload_n 0, 1) := by decide +kernel
theorem dX11_on_35 : decode cX11_on 35 = .ok (.iload_n 2, 1) := by decide +kernel
theorem dX11_on_36 : decode cX11_on 36 = .ok (.invokevirtual 186, 3) := by decide +kernel
theorem dX11_on_39 : decode cX11_on 39 = .ok (.iload_n 3, 1) := by decide +kernel
theorem dX11_on_40 : decode cX11_on 40 = .ok (.lookupswitch 48 #[(0, 28), (1, 38)], 28) := by decide +kernel
theorem dX11_on_68 : decode cX11_on 68 = .ok (.aload_n 0, 1) := by decide +kernel
theorem dX11_on_69 : decode cX11_on 69 = .ok (.getfield 36, 3) := by decide +kernel
theorem dX11_on_72 : decode cX11_on 72 = .ok (.getfield 103, 3) := by decide +kernel
theorem dX11_on_75 : decode cX11_on 75 = .ok (.iload_n 1, 1) := by decide +kernel
theorem dX11_on_76 : decode cX11_on 76 = .ok (.iaload, 1) := by decide +kernel
theorem dX11_on_77 : decode cX11_on 77 = .ok (.ireturn, 1) := by decide +kernel
theorem dX11_on_78 : decode cX11_on 78 = .ok (.aload_n 0, 1) := by decide +kernel
theorem dX11_on_79 : decode cX11_on 79 = .ok (.getfield 36, 3) := by decide +kernel
theorem dX11_on_82 : decode cX11_on 82 = .ok (.getfield 106, 3) := by decide +kernel
theorem dX11_on_85 : decode cX11_on 85 = .ok (.iload_n 1, 1) := by decide +kernel
theorem dX11_on_86 : decode cX11_on 86 = .ok (.iaload, 1) := by decide +kernel
theorem dX11_on_87 : decode cX11_on 87 = .ok (.ireturn, 1) := by decide +kernel
theorem dX11_on_88 : decode cX11_on 88 = .ok (.aload_n 0, 1) := by decide +kernel
theorem dX11_on_89 : decode cX11_on 89 = .ok (.getfield 36, 3) := by decide +kernel
theorem dX11_on_92 : decode cX11_on 92 = .ok (.getfield 109, 3) := by decide +kernel
theorem dX11_on_95 : decode cX11_on 95 = .ok (.iload_n 1, 1) := by decide +kernel
theorem dX11_on_96 : decode cX11_on 96 = .ok (.iaload, 1) := by decide +kernel
theorem dX11_on_97 : decode cX11_on 97 = .ok (.ireturn, 1) := by decide +kernel
theorem dX11_way_0 : decode cX11_way 0 = .ok (.aload_n 0, 1) := by decide +kernel
theorem dX11_way_1 : decode cX11_way 1 = .ok (.iload_n 1, 1) := by decide +kernel
theorem dX11_way_2 : decode cX11_way 2 = .ok (.invokevirtual 147, 3) := by decide +kernel
theorem dX11_way_5 : decode cX11_way 5 = .ok (.ifCond .ne 14, 3) := by decide +kernel
theorem dX11_way_8 : decode cX11_way 8 = .ok (.iload_n 2, 1) := by decide +kernel
theorem dX11_way_9 : decode cX11_way 9 = .ok (.iconst 0, 1) := by decide +kernel
theorem dX11_way_10 : decode cX11_way 10 = .ok (.sipush 200, 3) := by decide +kernel
theorem dX11_way_13 : decode cX11_way 13 = .ok (.invokestatic 80, 3) := by decide +kernel
theorem dX11_way_16 : decode cX11_way 16 = .ok (.ifCond .ne 9, 3) := by decide +kernel
theorem dX11_way_19 : decode cX11_way 19 = .ok (.aload_n 0, 1) := by decide +kernel
theorem dX11_way_20 : decode cX11_way 20 = .ok (.iconst 0, 1) := by decide +kernel
theorem dX11_way_21 : decode cX11_way 21 = .ok (.invokevirtual 84, 3) := by decide +kernel
theorem dX11_way_24 : decode cX11_way 24 = .ok (.ireturn, 1) := by decide +kernel
theorem dX11_way_25 : decode cX11_way 25 = .ok (.aload_n 0, 1) := by decide +kernel
theorem dX11_way_26 : decode cX11_way 26 = .ok (.getfield 36, 3) := by decide +kernel
theorem dX11_way_29 : decode cX11_way 29 = .ok (.aload_n 0, 1) := by decide +kernel
theorem dX11_way_30 : decode cX11_way 30 = .ok (.getfield 30, 3) := by decide +kernel
theorem dX11_way_33 : decode cX11_way 33 = .ok (.invokevirtual 189, 3) := by decide +kernel
theorem dX11_way_36 : decode cX11_way 36 = .ok (.aload_n 0, 1) := by decide +kernel
theorem dX11_way_37 : decode cX11_way 37 = .ok (.iload_n 1, 1) := by decide +kernel
theorem dX11_way_38 : decode cX11_way 38 = .ok (.iload_n 2, 1) := by decide +kernel
theorem dX11_way_39 : decode cX11_way 39 = .ok (.invokevirtual 193, 3) := by decide +kernel
theorem dX11_way_42 : decode cX11_way 42 = .ok (.ireturn, 1) := by decide +kernel
theorem dX11_done_0 : decode cX11_done 0 = .ok (.aload_n 0, 1) := by decide +kernel
theorem dX11_done_1 : decode cX11_done 1 = .ok (.getfield 36, 3) := by decide +kernel
theorem dX11_done_4 : decode cX11_done 4 = .ok (.aload_n 0, 1) := by decide +kernel
theorem dX11_done_5 : decode cX11_done 5 = .ok (.getfield 30, 3) := by decide +kernel
theorem dX11_done_8 : decode cX11_done 8 = .ok (.invokevirtual 189, 3) := by decide +kernel
theorem dX11_done_11 : decode cX11_done 11 = .ok (.iconst 0, 1) := by decide +kernel
theorem dX11_done_12 : decode cX11_done 12 = .ok (.istore_n 1, 1) := by decide +kernel
theorem dX11_done_13 : decode cX11_done 13 = .ok (.iconst 0, 1) := by decide +kernel
theorem dX11_done_14 : decode cX11_done 14 = .ok (.istore_n 2, 1) := by decide +kernel
theorem dX11_done_15 : decode cX11_done 15 = .ok (.iload_n 2, 1) := by decide +kernel
theorem dX11_done_16 : decode cX11_done 16 = .ok (.sipush 200, 3) := by decide +kernel
theorem dX11_done_19 : decode cX11_done 19 = .ok (.aload_n 0, 1) := by decide +kernel
theorem dX11_done_20 : decode cX11_done 20 = .ok (.getfield 30, 3) := by decide +kernel
theorem dX11_done_23 : decode cX11_done 23 = .ok (.getfield 141, 3) := by decide +kernel
theorem dX11_done_26 : decode cX11_done 26 = .ok (.iadd, 1) := by decide +kernel
theorem dX11_done_27 : decode cX11_done 27 = .ok (.if_icmp .gt 38, 3) := by decide +kernel
theorem dX11_done_30 : decode cX11_done 30 = .ok (.iload_n 2, 1) := by decide +kernel
theorem dX11_done_31 : decode cX11_done 31 = .ok (.iload_n 1, 1) := by decide +kernel
theorem dX11_done_32 : decode cX11_done 32 = .ok (.isub, 1) := by decide +kernel
theorem dX11_done_33 : decode cX11_done 33 = .ok (.aload_n 0, 1) := by decide +kernel
theorem dX11_done_34 : decode cX11_done 34 = .ok (.getfield 30, 3) := by decide +kernel
theorem dX11_done_37 : decode cX11_done 37 = .ok (.getfield 141, 3) := by decide +kernel
theorem dX11_done_40 : decode cX11_done 40 = .ok (.if_icmp .lt 5, 3) := by decide +kernel
theorem dX11_done_43 : decode cX11_done 43 = .ok (.iload_n 1, 1) := by decide +kernel
theorem dX11_done_44 : decode cX11_done 44 = .ok (.ireturn, 1) := by decide +kernel
theorem dX11_done_45 : decode cX11_done 45 = .ok (.aload_n 0, 1) := by decide +kernel
theorem dX11_done_46 : decode cX11_done 46 = .ok (.getfield 36, 3) := by decide +kernel
theorem dX11_done_49 : decode cX11_done 49 = .ok (.invokevirtual 196, 3) := by decide +kernel
theorem dX11_done_52 : decode cX11_done 52 = .ok (.ifCond .eq 7, 3) := by decide +kernel
theorem dX11_done_55 : decode cX11_done 55 = .ok (.iload_n 2, 1) := by decide +kernel
theorem dX11_done_56 : decode cX11_done 56 = .ok (.iconst 1, 1) := by decide +kernel
theorem dX11_done_57 : decode cX11_done 57 = .ok (.iadd, 1) := by decide +kernel
theorem dX11_done_58 : decode cX11_done 58 = .ok (.istore_n 1, 1) := by decide +kernel
theorem dX11_done_59 : decode cX11_done 59 = .ok (.iinc 2 1, 3) := by decide +kernel
theorem dX11_done_62 : decode cX11_done 62 = .ok (.goto (-47), 3) := by decide +kernel
theorem dX11_done_65 : decode cX11_done 65 = .ok (.aload_n 0, 1) := by decide +kernel
theorem dX11_done_66 : decode cX11_done 66 = .ok (.iconst 3, 1) := by decide +kernel
theorem dX11_done_67 : decode cX11_done 67 = .ok (.invokevirtual 84, 3) := by decide +kernel
theorem dX11_done_70 : decode cX11_done 70 = .ok (.ireturn, 1) := by decide +kernel
theorem dX11_moved_0 : decode cX11_moved 0 = .ok (.aload_n 0, 1) := by decide +kernel
theorem dX11_moved_1 : decode cX11_moved 1 = .ok (.iload_n 1, 1) := by decide +kernel
theorem dX11_moved_2 : decode cX11_moved 2 = .ok (.invokevirtual 99, 3) := by decide +kernel
theorem dX11_moved_5 : decode cX11_moved 5 = .ok (.ifCond .eq 9, 3) := by decide +kernel
theorem dX11_moved_8 : decode cX11_moved 8 = .ok (.aload_n 0, 1) := by decide +kernel
theorem dX11_moved_9 : decode cX11_moved 9 = .ok (.iconst 0, 1) := by decide +kernel
theorem dX11_moved_10 : decode cX11_moved 10 = .ok (.invokevirtual 84, 3) := by decide +kernel
theorem dX11_moved_13 : decode cX11_moved 13 = .ok (.ireturn, 1) := by decide +kernel
theorem dX11_moved_14 : decode cX11_moved 14 = .ok (.aload_n 0, 1) := by decide +kernel
theorem dX11_moved_15 : decode cX11_moved 15 = .ok (.getfield 36, 3) := by decide +kernel
theorem dX11_moved_18 : decode cX11_moved 18 = .ok (.aload_n 0, 1) := by decide +kernel
theorem dX11_moved_19 : decode cX11_moved 19 = .ok (.getfield 30, 3) := by decide +kernel
theorem dX11_moved_22 : decode cX11_moved 22 = .ok (.invokevirtual 189, 3) := by decide +kernel
theorem dX11_moved_25 : decode cX11_moved 25 = .ok (.iconst 1, 1) := by decide +kernel
theorem dX11_moved_26 : decode cX11_moved 26 = .ok (.istore_n 2, 1) := by decide +kernel
theorem dX11_moved_27 : decode cX11_moved 27 = .ok (.iload_n 2, 1) := by decide +kernel
theorem dX11_moved_28 : decode cX11_moved 28 = .ok (.sipush 200, 3) := by decide +kernel
theorem dX11_moved_31 : decode cX11_moved 31 = .ok (.if_icmp .gt 25, 3) := by decide +kernel
theorem dX11_moved_34 : decode cX11_moved 34 = .ok (.aload_n 0, 1) := by decide +kernel
theorem dX11_moved_35 : decode cX11_moved 35 = .ok (.getfield 36, 3) := by decide +kernel
theorem dX11_moved_38 : decode cX11_moved 38 = .ok (.invokevirtual 196, 3) := by decide +kernel
theorem dX11_moved_41 : decode cX11_moved 41 = .ok (.iconst 1, 1) := by decide +kernel
theorem dX11_moved_42 : decode cX11_moved 42 = .ok (.iload_n 1, 1) := by decide +kernel
theorem dX11_moved_43 : decode cX11_moved 43 = .ok (.ishl, 1) := by decide +kernel
theorem dX11_moved_44 : decode cX11_moved 44 = .ok (.iand, 1) := by decide +kernel
theorem dX11_moved_45 : decode cX11_moved 45 = .ok (.ifCond .eq 5, 3) := by decide +kernel
theorem dX11_moved_48 : decode cX11_moved 48 = .ok (.iload_n 2, 1) := by decide +kernel
theorem dX11_moved_49 : decode cX11_moved 49 = .ok (.ireturn, 1) := by decide +kernel
theorem dX11_moved_50 : decode cX11_moved 50 = .ok (.iinc 2 1, 3) := by decide +kernel
theorem dX11_moved_53 : decode cX11_moved 53 = .ok (.goto (-26), 3) := by decide +kernel
theorem dX11_moved_56 : decode cX11_moved 56 = .ok (.aload_n 0, 1) := by decide +kernel
theorem dX11_moved_57 : decode cX11_moved 57 = .ok (.iconst 3, 1) := by decide +kernel
theorem dX11_moved_58 : decode cX11_moved 58 = .ok (.invokevirtual 84, 3) := by decide +kernel
theorem dX11_moved_61 : decode cX11_moved 61 = .ok (.ireturn, 1) := by decide +kernel
theorem dX11_rule_0 : decode cX11_rule 0 = .ok (.aload_n 0, 1) := by decide +kernel
theorem dX11_rule_1 : decode cX11_rule 1 = .ok (.iload_n 1, 1) := by decide +kernel
theorem dX11_rule_2 : decode cX11_rule 2 = .ok (.invokevirtual 147, 3) := by decide +kernel
theorem dX11_rule_5 : decode cX11_rule 5 = .ok (.ifCond .ne 13, 3) := by decide +kernel
theorem dX11_rule_8 : decode cX11_rule 8 = .ok (.iload_n 2, 1) := by decide +kernel
theorem dX11_rule_9 : decode cX11_rule 9 = .ok (.iconst 1, 1) := by decide +kernel
theorem dX11_rule_10 : decode cX11_rule 10 = .ok (.bipush 100, 2) := by decide +kernel
theorem dX11_rule_12 : decode cX11_rule 12 = .ok (.invokestatic 80, 3) := by decide +kernel
theorem dX11_rule_15 : decode cX11_rule 15 = .ok (.ifCond .ne 9, 3) := by decide +kernel
theorem dX11_rule_18 : decode cX11_rule 18 = .ok (.aload_n 0, 1) := by decide +kernel
theorem dX11_rule_19 : decode cX11_rule 19 = .ok (.iconst 0, 1) := by decide +kernel
theorem dX11_rule_20 : decode cX11_rule 20 = .ok (.invokevirtual 84, 3) := by decide +kernel
theorem dX11_rule_23 : decode cX11_rule 23 = .ok (.ireturn, 1) := by decide +kernel
theorem dX11_rule_24 : decode cX11_rule 24 = .ok (.aload_n 0, 1) := by decide +kernel
theorem dX11_rule_25 : decode cX11_rule 25 = .ok (.getfield 49, 3) := by decide +kernel
theorem dX11_rule_28 : decode cX11_rule 28 = .ok (.invokevirtual 199, 3) := by decide +kernel
theorem dX11_rule_31 : decode cX11_rule 31 = .ok (.iconst 0, 1) := by decide +kernel
theorem dX11_rule_32 : decode cX11_rule 32 = .ok (.istore_n 3, 1) := by decide +kernel
theorem dX11_rule_33 : decode cX11_rule 33 = .ok (.iload_n 3, 1) := by decide +kernel
theorem dX11_rule_34 : decode cX11_rule 34 = .ok (.bipush 20, 2) := by decide +kernel
theorem dX11_rule_36 : decode cX11_rule 36 = .ok (.if_icmp .gt 42, 3) := by decide +kernel
theorem dX11_rule_39 : decode cX11_rule 39 = .ok (.aload_n 0, 1) := by decide +kernel
theorem dX11_rule_40 : decode cX11_rule 40 = .ok (.getfield 36, 3) := by decide +kernel
theorem dX11_rule_43 : decode cX11_rule 43 = .ok (.aload_n 0, 1) := by decide +kernel
theorem dX11_rule_44 : decode cX11_rule 44 = .ok (.getfield 30, 3) := by decide +kernel
theorem dX11_rule_47 : decode cX11_rule 47 = .ok (.invokevirtual 189, 3) := by decide +kernel
theorem dX11_rule_50 : decode cX11_rule 50 = .ok (.aload_n 0, 1) := by decide +kernel
theorem dX11_rule_51 : decode cX11_rule 51 = .ok (.getfield 36, 3) := by decide +kernel
theorem dX11_rule_54 : decode cX11_rule 54 = .ok (.iload_n 3, 1) := by decide +kernel
theorem dX11_rule_55 : decode cX11_rule 55 = .ok (.putfield 88, 3) := by decide +kernel
theorem dX11_rule_58 : decode cX11_rule 58 = .ok (.aload_n 0, 1) := by decide +kernel
theorem dX11_rule_59 : decode cX11_rule 59 = .ok (.getfield 49, 3) := by decide +kernel
theorem dX11_rule_62 : decode cX11_rule 62 = .ok (.iload_n 3, 1) := by decide +kernel
theorem dX11_rule_63 : decode cX11_rule 63 = .ok (.aload_n 0, 1) := by decide +kernel
theorem dX11_rule_64 : decode cX11_rule 64 = .ok (.iload_n 1, 1) := by decide +kernel
theorem dX11_rule_65 : decode cX11_rule 65 = .ok (.iload_n 2, 1) := by decide +kernel
theorem dX11_rule_66 : decode cX11_rule 66 = .ok (.invokevirtual 193, 3) := by decide +kernel
theorem dX11_rule_69 : decode cX11_rule 69 = .ok (.invokevirtual 202, 3) := by decide +kernel
theorem dX11_rule_72 : decode cX11_rule 72 = .ok (.iinc 3 1, 3) := by decide +kernel
theorem dX11_rule_75 : decode cX11_rule 75 = .ok (.goto (-42), 3) := by decide +kernel
theorem dX11_rule_78 : decode cX11_rule 78 = .ok (.aload_n 0, 1) := by decide +kernel
theorem dX11_rule_79 : decode cX11_rule 79 = .ok (.getfield 49, 3) := by decide +kernel
theorem dX11_rule_82 : decode cX11_rule 82 = .ok (.getfield 206, 3) := by decide +kernel
theorem dX11_rule_85 : decode cX11_rule 85 = .ok (.ireturn, 1) := by decide +kernel
theorem dX11_send_0 : decode cX11_send 0 = .ok (.aload_n 0, 1) := by decide +kernel
theorem dX11_send_1 : decode cX11_send 1 = .ok (.iload_n 1, 1) := by decide +kernel
theorem dX11_send_2 : decode cX11_send 2 = .ok (.invokevirtual 147, 3) := by decide +kernel
theorem dX11_send_5 : decode cX11_send 5 = .ok (.ifCond .ne 13, 3) := by decide +kernel
theorem dX11_send_8 : decode cX11_send 8 = .ok (.iload_n 2, 1) := by decide +kernel
theorem dX11_send_9 : decode cX11_send 9 = .ok (.iconst 1, 1) := by decide +kernel
theorem dX11_send_10 : decode cX11_send 10 = .ok (.bipush 100, 2) := by decide +kernel
theorem dX11_send_12 : decode cX11_send 12 = .ok (.invokestatic 80, 3) := by decide +kernel
theorem dX11_send_15 : decode cX11_send 15 = .ok (.ifCond .ne 9, 3) := by decide +kernel
theorem dX11_send_18 : decode cX11_send 18 = .ok (.aload_n 0, 1) := by decide +kernel
theorem dX11_send_19 : decode cX11_send 19 = .ok (.iconst 0, 1) := by decide +kernel
theorem dX11_send_20 : decode cX11_send 20 = .ok (.invokevirtual 84, 3) := by decide +kernel
theorem dX11_send_23 : decode cX11_send 23 = .ok (.ireturn, 1) := by decide +kernel
theorem dX11_send_24 : decode cX11_send 24 = .ok (.aload_n 0, 1) := by decide +kernel
theorem dX11_send_25 : decode cX11_send 25 = .ok (.getfield 49, 3) := by decide +kernel
theorem dX11_send_28 : decode cX11_send 28 = .ok (.invokevirtual 199, 3) := by decide +kernel
theorem dX11_send_31 : decode cX11_send 31 = .ok (.iconst 0, 1) := by decide +kernel
theorem dX11_send_32 : decode cX11_send 32 = .ok (.istore_n 3, 1) := by decide +kernel
theorem dX11_send_33 : decode cX11_send 33 = .ok (.iload_n 3, 1) := by decide +kernel
theorem dX11_send_34 : decode cX11_send 34 = .ok (.aload_n 0, 1) := by decide +kernel
theorem dX11_send_35 : decode cX11_send 35 = .ok (.getfield 30, 3) := by decide +kernel
theorem dX11_send_38 : decode cX11_send 38 = .ok (.getfield 141, 3) := by decide +kernel
theorem dX11_send_41 : decode cX11_send 41 = .ok (.if_icmp .ge 61, 3) := by decide +kernel
theorem dX11_send_44 : decode cX11_send 44 = .ok (.iload_n 3, 1) := by decide +kernel
theorem dX11_send_45 : decode cX11_send 45 = .ok (.iload_n 1, 1) := by decide +kernel
theorem dX11_send_46 : decode cX11_send 46 = .ok (.if_icmp .eq 50, 3) := by decide +kernel
theorem dX11_send_49 : decode cX11_send 49 = .ok (.aload_n 0, 1) := by decide +kernel
theorem dX11_send_50 : decode cX11_send 50 = .ok (.getfield 30, 3) := by decide +kernel
theorem dX11_send_53 : decode cX11_send 53 = .ok (.getfield 153, 3) := by decide +kernel
theorem dX11_send_56 : decode cX11_send 56 = .ok (.iload_n 3, 1) := by decide +kernel
theorem dX11_send_57 : decode cX11_send 57 = .ok (.iaload, 1) := by decide +kernel
theorem dX11_send_58 : decode cX11_send 58 = .ok (.ifCond .ne 38, 3) := by decide +kernel
theorem dX11_send_61 : decode cX11_send 61 = .ok (.aload_n 0, 1) := by decide +kernel
theorem dX11_send_62 : decode cX11_send 62 = .ok (.getfield 36, 3) := by decide +kernel
theorem dX11_send_65 : decode cX11_send 65 = .ok (.aload_n 0, 1) := by decide +kernel
theorem dX11_send_66 : decode cX11_send 66 = .ok (.getfield 30, 3) := by decide +kernel
theorem dX11_send_69 : decode cX11_send 69 = .ok (.invokevirtual 189, 3) := by decide +kernel
theorem dX11_send_72 : decode cX11_send 72 = .ok (.aload_n 0, 1) := by decide +kernel
theorem dX11_send_73 : decode cX11_send 73 = .ok (.getfield 36, 3) := by decide +kernel
theorem dX11_send_76 : decode cX11_send 76 = .ok (.getfield 153, 3) := by decide +kernel
theorem dX11_send_79 : decode cX11_send 79 = .ok (.iload_n 3, 1) := by decide +kernel
theorem dX11_send_80 : decode cX11_send 80 = .ok (.iconst 1, 1) := by decide +kernel
theorem dX11_send_81 : decode cX11_send 81 = .ok (.iastore, 1) := by decide +kernel
theorem dX11_send_82 : decode cX11_send 82 = .ok (.aload_n 0, 1) := by decide +kernel
theorem dX11_send_83 : decode cX11_send 83 = .ok (.getfield 49, 3) := by decide +kernel
theorem dX11_send_86 : decode cX11_send 86 = .ok (.iload_n 3, 1) := by decide +kernel
theorem dX11_send_87 : decode cX11_send 87 = .ok (.aload_n 0, 1) := by decide +kernel
theorem dX11_send_88 : decode cX11_send 88 = .ok (.iload_n 1, 1) := by decide +kernel
theorem dX11_send_89 : decode cX11_send 89 = .ok (.iload_n 2, 1) := by decide +kernel
theorem dX11_send_90 : decode cX11_send 90 = .ok (.invokevirtual 193, 3) := by decide +kernel
theorem dX11_send_93 : decode cX11_send 93 = .ok (.invokevirtual 202, 3) := by decide +kernel
theorem dX11_send_96 : decode cX11_send 96 = .ok (.iinc 3 1, 3) := by decide +kernel
theorem dX11_send_99 : decode cX11_send 99 = .ok (.goto (-66), 3) := by decide +kernel
theorem dX11_send_102 : decode cX11_send 102 = .ok (.aload_n 0, 1) := by decide +kernel
theorem dX11_send_103 : decode cX11_send 103 = .ok (.invokevirtual 209, 3) := by decide +kernel
theorem dX11_send_106 : decode cX11_send 106 = .ok (.ireturn, 1) := by decide +kernel
theorem dX11_kind_0 : decode cX11_kind 0 = .ok (.aload_n 0, 1) := by decide +kernel
theorem dX11_kind_1 : decode cX11_kind 1 = .ok (.iload_n 1, 1) := by decide +kernel
theorem dX11_kind_2 : decode cX11_kind 2 = .ok (.invokevirtual 147, 3) := by decide +kernel
theorem dX11_kind_5 : decode cX11_kind 5 = .ok (.ifCond .ne 13, 3) := by decide +kernel
theorem dX11_kind_8 : decode cX11_kind 8 = .ok (.iload_n 2, 1) := by decide +kernel
theorem dX11_kind_9 : decode cX11_kind 9 = .ok (.iconst 1, 1) := by decide +kernel
theorem dX11_kind_10 : decode cX11_kind 10 = .ok (.bipush 100, 2) := by decide +kernel
theorem dX11_kind_12 : decode cX11_kind 12 = .ok (.invokestatic 80, 3) := by decide +kernel
theorem dX11_kind_15 : decode cX11_kind 15 = .ok (.ifCond .ne 9, 3) := by decide +kernel
theorem dX11_kind_18 : decode cX11_kind 18 = .ok (.aload_n 0, 1) := by decide +kernel
theorem dX11_kind_19 : decode cX11_kind 19 = .ok (.iconst 0, 1) := by decide +kernel
theorem dX11_kind_20 : decode cX11_kind 20 = .ok (.invokevirtual 84, 3) := by decide +kernel
theorem dX11_kind_23 : decode cX11_kind 23 = .ok (.ireturn, 1) := by decide +kernel
theorem dX11_kind_24 : decode cX11_kind 24 = .ok (.aload_n 0, 1) := by decide +kernel
theorem dX11_kind_25 : decode cX11_kind 25 = .ok (.getfield 49, 3) := by decide +kernel
theorem dX11_kind_28 : decode cX11_kind 28 = .ok (.invokevirtual 199, 3) := by decide +kernel
theorem dX11_kind_31 : decode cX11_kind 31 = .ok (.iconst 0, 1) := by decide +kernel
theorem dX11_kind_32 : decode cX11_kind 32 = .ok (.istore_n 3, 1) := by decide +kernel
theorem dX11_kind_33 : decode cX11_kind 33 = .ok (.iload_n 3, 1) := by decide +kernel
theorem dX11_kind_34 : decode cX11_kind 34 = .ok (.iconst 5, 1) := by decide +kernel
theorem dX11_kind_35 : decode cX11_kind 35 = .ok (.if_icmp .gt 44, 3) := by decide +kernel
theorem dX11_kind_38 : decode cX11_kind 38 = .ok (.aload_n 0, 1) := by decide +kernel
theorem dX11_kind_39 : decode cX11_kind 39 = .ok (.getfield 36, 3) := by decide +kernel
theorem dX11_kind_42 : decode cX11_kind 42 = .ok (.aload_n 0, 1) := by decide +kernel
theorem dX11_kind_43 : decode cX11_kind 43 = .ok (.getfield 30, 3) := by decide +kernel
theorem dX11_kind_46 : decode cX11_kind 46 = .ok (.invokevirtual 189, 3) := by decide +kernel
theorem dX11_kind_49 : decode cX11_kind 49 = .ok (.aload_n 0, 1) := by decide +kernel
theorem dX11_kind_50 : decode cX11_kind 50 = .ok (.getfield 36, 3) := by decide +kernel
theorem dX11_kind_53 : decode cX11_kind 53 = .ok (.getfield 150, 3) := by decide +kernel
theorem dX11_kind_56 : decode cX11_kind 56 = .ok (.iload_n 1, 1) := by decide +kernel
theorem dX11_kind_57 : decode cX11_kind 57 = .ok (.iload_n 3, 1) := by decide +kernel
theorem dX11_kind_58 : decode cX11_kind 58 = .ok (.iastore, 1) := by decide +kernel
theorem dX11_kind_59 : decode cX11_kind 59 = .ok (.aload_n 0, 1) := by decide +kernel
theorem dX11_kind_60 : decode cX11_kind 60 = .ok (.getfield 49, 3) := by decide +kernel
theorem dX11_kind_63 : decode cX11_kind 63 = .ok (.iload_n 3, 1) := by decide +kernel
theorem dX11_kind_64 : decode cX11_kind 64 = .ok (.aload_n 0, 1) := by decide +kernel
theorem dX11_kind_65 : decode cX11_kind 65 = .ok (.iload_n 1, 1) := by decide +kernel
theorem dX11_kind_66 : decode cX11_kind 66 = .ok (.iload_n 2, 1) := by decide +kernel
theorem dX11_kind_67 : decode cX11_kind 67 = .ok (.invokevirtual 193, 3) := by decide +kernel
theorem dX11_kind_70 : decode cX11_kind 70 = .ok (.invokevirtual 202, 3) := by decide +kernel
theorem dX11_kind_73 : decode cX11_kind 73 = .ok (.iinc 3 1, 3) := by decide +kernel
theorem dX11_kind_76 : decode cX11_kind 76 = .ok (.goto (-43), 3) := by decide +kernel
theorem dX11_kind_79 : decode cX11_kind 79 = .ok (.aload_n 0, 1) := by decide +kernel
theorem dX11_kind_80 : decode cX11_kind 80 = .ok (.getfield 49, 3) := by decide +kernel
theorem dX11_kind_83 : decode cX11_kind 83 = .ok (.getfield 206, 3) := by decide +kernel
theorem dX11_kind_86 : decode cX11_kind 86 = .ok (.ireturn, 1) := by decide +kernel
theorem dX11_pair_0 : decode cX11_pair 0 = .ok (.aload_n 0, 1) := by decide +kernel
theorem dX11_pair_1 : decode cX11_pair 1 = .ok (.getfield 49, 3) := by decide +kernel
theorem dX11_pair_4 : decode cX11_pair 4 = .ok (.invokevirtual 199, 3) := by decide +kernel
theorem dX11_pair_7 : decode cX11_pair 7 = .ok (.iconst 0, 1) := by decide +kernel
theorem dX11_pair_8 : decode cX11_pair 8 = .ok (.istore_n 1, 1) := by decide +kernel
theorem dX11_pair_9 : decode cX11_pair 9 = .ok (.iload_n 1, 1) := by decide +kernel
theorem dX11_pair_10 : decode cX11_pair 10 = .ok (.aload_n 0, 1) := by decide +kernel
theorem dX11_pair_11 : decode cX11_pair 11 = .ok (.getfield 30, 3) := by decide +kernel
theorem dX11_pair_14 : decode cX11_pair 14 = .ok (.getfield 141, 3) := by decide +kernel
theorem dX11_pair_17 : decode cX11_pair 17 = .ok (.if_icmp .ge 52, 3) := by decide +kernel
theorem dX11_pair_20 : decode cX11_pair 20 = .ok (.iload_n 1, 1) := by decide +kernel
theorem dX11_pair_21 : decode cX11_pair 21 = .ok (.iconst 1, 1) := by decide +kernel
theorem dX11_pair_22 : decode cX11_pair 22 = .ok (.iadd, 1) := by decide +kernel
theorem dX11_pair_23 : decode cX11_pair 23 = .ok (.istore_n 2, 1) := by decide +kernel
theorem dX11_pair_24 : decode cX11_pair 24 = .ok (.iload_n 2, 1) := by decide +kernel
theorem dX11_pair_25 : decode cX11_pair 25 = .ok (.aload_n 0, 1) := by decide +kernel
theorem dX11_pair_26 : decode cX11_pair 26 = .ok (.getfield 30, 3) := by decide +kernel
theorem dX11_pair_29 : decode cX11_pair 29 = .ok (.getfield 141, 3) := by decide +kernel
theorem dX11_pair_32 : decode cX11_pair 32 = .ok (.if_icmp .ge 31, 3) := by decide +kernel
theorem dX11_pair_35 : decode cX11_pair 35 = .ok (.aload_n 0, 1) := by decide +kernel
theorem dX11_pair_36 : decode cX11_pair 36 = .ok (.getfield 49, 3) := by decide +kernel
theorem dX11_pair_39 : decode cX11_pair 39 = .ok (.bipush 10, 2) := by decide +kernel
theorem dX11_pair_41 : decode cX11_pair 41 = .ok (.iload_n 1, 1) := by decide +kernel
theorem dX11_pair_42 : decode cX11_pair 42 = .ok (.imul, 1) := by decide +kernel
theorem dX11_pair_43 : decode cX11_pair 43 = .ok (.iload_n 2, 1) := by decide +kernel
theorem dX11_pair_44 : decode cX11_pair 44 = .ok (.iadd, 1) := by decide +kernel
theorem dX11_pair_45 : decode cX11_pair 45 = .ok (.aload_n 0, 1) := by decide +kernel
theorem dX11_pair_46 : decode cX11_pair 46 = .ok (.getfield 30, 3) := by decide +kernel
theorem dX11_pair_49 : decode cX11_pair 49 = .ok (.iload_n 1, 1) := by decide +kernel
theorem dX11_pair_50 : decode cX11_pair 50 = .ok (.iload_n 2, 1) := by decide +kernel
theorem dX11_pair_51 : decode cX11_pair 51 = .ok (.invokevirtual 178, 3) := by decide +kernel
theorem dX11_pair_54 : decode cX11_pair 54 = .ok (.invokevirtual 202, 3) := by decide +kernel
theorem dX11_pair_57 : decode cX11_pair 57 = .ok (.iinc 2 1, 3) := by decide +kernel
theorem dX11_pair_60 : decode cX11_pair 60 = .ok (.goto (-36), 3) := by decide +kernel
theorem dX11_pair_63 : decode cX11_pair 63 = .ok (.iinc 1 1, 3) := by decide +kernel
theorem dX11_pair_66 : decode cX11_pair 66 = .ok (.goto (-57), 3) := by decide +kernel
theorem dX11_pair_69 : decode cX11_pair 69 = .ok (.aload_n 0, 1) := by decide +kernel
theorem dX11_pair_70 : decode cX11_pair 70 = .ok (.invokevirtual 209, 3) := by decide +kernel
theorem dX11_pair_73 : decode cX11_pair 73 = .ok (.ireturn, 1) := by decide +kernel
theorem dX11_fix_0 : decode cX11_fix 0 = .ok (.iload_n 1, 1) := by decide +kernel
theorem dX11_fix_1 : decode cX11_fix 1 = .ok (.iconst 1, 1) := by decide +kernel
theorem dX11_fix_2 : decode cX11_fix 2 = .ok (.bipush 60, 2) := by decide +kernel
theorem dX11_fix_4 : decode cX11_fix 4 = .ok (.invokestatic 80, 3) := by decide +kernel
theorem dX11_fix_7 : decode cX11_fix 7 = .ok (.ifCond .ne 9, 3) := by decide +kernel
theorem dX11_fix_10 : decode cX11_fix 10 = .ok (.aload_n 0, 1) := by decide +kernel
theorem dX11_fix_11 : decode cX11_fix 11 = .ok (.iconst 0, 1) := by decide +kernel
theorem dX11_fix_12 : decode cX11_fix 12 = .ok (.invokevirtual 84, 3) := by decide +kernel
theorem dX11_fix_15 : decode cX11_fix 15 = .ok (.ireturn, 1) := by decide +kernel
theorem dX11_fix_16 : decode cX11_fix 16 = .ok (.aload_n 0, 1) := by decide +kernel
theorem dX11_fix_17 : decode cX11_fix 17 = .ok (.getfield 49, 3) := by decide +kernel
theorem dX11_fix_20 : decode cX11_fix 20 = .ok (.invokevirtual 199, 3) := by decide +kernel
theorem dX11_fix_23 : decode cX11_fix 23 = .ok (.iconst 0, 1) := by decide +kernel
theorem dX11_fix_24 : decode cX11_fix 24 = .ok (.istore_n 2, 1) := by decide +kernel
theorem dX11_fix_25 : decode cX11_fix 25 = .ok (.iload_n 2, 1) := by decide +kernel
theorem dX11_fix_26 : decode cX11_fix 26 = .ok (.aload_n 0, 1) := by decide +kernel
theorem dX11_fix_27 : decode cX11_fix 27 = .ok (.getfield 30, 3) := by decide +kernel
theorem dX11_fix_30 : decode cX11_fix 30 = .ok (.getfield 92, 3) := by decide +kernel
theorem dX11_fix_33 : decode cX11_fix 33 = .ok (.if_icmp .ge 66, 3) := by decide +kernel
theorem dX11_fix_36 : decode cX11_fix 36 = .ok (.aload_n 0, 1) := by decide +kernel
theorem dX11_fix_37 : decode cX11_fix 37 = .ok (.getfield 30, 3) := by decide +kernel
theorem dX11_fix_40 : decode cX11_fix 40 = .ok (.getfield 109, 3) := by decide +kernel
theorem dX11_fix_43 : decode cX11_fix 43 = .ok (.iload_n 2, 1) := by decide +kernel
theorem dX11_fix_44 : decode cX11_fix 44 = .ok (.iaload, 1) := by decide +kernel
theorem dX11_fix_45 : decode cX11_fix 45 = .ok (.ifCond .ne 48, 3) := by decide +kernel
theorem dX11_fix_48 : decode cX11_fix 48 = .ok (.aload_n 0, 1) := by decide +kernel
theorem dX11_fix_49 : decode cX11_fix 49 = .ok (.getfield 36, 3) := by decide +kernel
theorem dX11_fix_52 : decode cX11_fix 52 = .ok (.aload_n 0, 1) := by decide +kernel
theorem dX11_fix_53 : decode cX11_fix 53 = .ok (.getfield 30, 3) := by decide +kernel
theorem dX11_fix_56 : decode cX11_fix 56 = .ok (.invokevirtual 189, 3) := by decide +kernel
theorem dX11_fix_59 : decode cX11_fix 59 = .ok (.aload_n 0, 1) := by decide +kernel
theorem dX11_fix_60 : decode cX11_fix 60 = .ok (.getfield 36, 3) := by decide +kernel
theorem dX11_fix_63 : decode cX11_fix 63 = .ok (.getfield 109, 3) := by decide +kernel
theorem dX11_fix_66 : decode cX11_fix 66 = .ok (.iload_n 2, 1) := by decide +kernel
theorem dX11_fix_67 : decode cX11_fix 67 = .ok (.iconst 1, 1) := by decide +kernel
theorem dX11_fix_68 : decode cX11_fix 68 = .ok (.iastore, 1) := by decide +kernel
theorem dX11_fix_69 : decode cX11_fix 69 = .ok (.aload_n 0, 1) := by decide +kernel
theorem dX11_fix_70 : decode cX11_fix 70 = .ok (.getfield 36, 3) := by decide +kernel
theorem dX11_fix_73 : decode cX11_fix 73 = .ok (.iload_n 1, 1) := by decide +kernel
theorem dX11_fix_74 : decode cX11_fix 74 = .ok (.invokevirtual 182, 3) := by decide +kernel
theorem dX11_fix_77 : decode cX11_fix 77 = .ok (.aload_n 0, 1) := by decide +kernel
theorem dX11_fix_78 : decode cX11_fix 78 = .ok (.getfield 49, 3) := by decide +kernel
theorem dX11_fix_81 : decode cX11_fix 81 = .ok (.iload_n 2, 1) := by decide +kernel
theorem dX11_fix_82 : decode cX11_fix 82 = .ok (.aload_n 0, 1) := by decide +kernel
theorem dX11_fix_83 : decode cX11_fix 83 = .ok (.getfield 36, 3) := by decide +kernel
theorem dX11_fix_86 : decode cX11_fix 86 = .ok (.invokevirtual 138, 3) := by decide +kernel
theorem dX11_fix_89 : decode cX11_fix 89 = .ok (.ineg, 1) := by decide +kernel
theorem dX11_fix_90 : decode cX11_fix 90 = .ok (.invokevirtual 202, 3) := by decide +kernel
theorem dX11_fix_93 : decode cX11_fix 93 = .ok (.iinc 2 1, 3) := by decide +kernel
theorem dX11_fix_96 : decode cX11_fix 96 = .ok (.goto (-71), 3) := by decide +kernel
theorem dX11_fix_99 : decode cX11_fix 99 = .ok (.aload_n 0, 1) := by decide +kernel
theorem dX11_fix_100 : decode cX11_fix 100 = .ok (.invokevirtual 209, 3) := by decide +kernel
theorem dX11_fix_103 : decode cX11_fix 103 = .ok (.ireturn, 1) := by decide +kernel
theorem dX11_winner_0 : decode cX11_winner 0 = .ok (.iload_n 1, 1) := by decide +kernel
theorem dX11_winner_1 : decode cX11_winner 1 = .ok (.iconst 0, 1) := by decide +kernel
theorem dX11_winner_2 : decode cX11_winner 2 = .ok (.sipush 200, 3) := by decide +kernel
theorem dX11_winner_5 : decode cX11_winner 5 = .ok (.invokestatic 80, 3) := by decide +kernel
theorem dX11_winner_8 : decode cX11_winner 8 = .ok (.ifCond .ne 9, 3) := by decide +kernel
theorem dX11_winner_11 : decode cX11_winner 11 = .ok (.aload_n 0, 1) := by decide +kernel
theorem dX11_winner_12 : decode cX11_winner 12 = .ok (.iconst 0, 1) := by decide +kernel
theorem dX11_winner_13 : decode cX11_winner 13 = .ok (.invokevirtual 84, 3) := by decide +kernel
theorem dX11_winner_16 : decode cX11_winner 16 = .ok (.ireturn, 1) := by decide +kernel
theorem dX11_winner_17 : decode cX11_winner 17 = .ok (.aload_n 0, 1) := by decide +kernel
theorem dX11_winner_18 : decode cX11_winner 18 = .ok (.iload_n 1, 1) := by decide +kernel
theorem dX11_winner_19 : decode cX11_winner 19 = .ok (.invokevirtual 186, 3) := by decide +kernel
theorem dX11_winner_22 : decode cX11_winner 22 = .ok (.aload_n 0, 1) := by decide +kernel
theorem dX11_winner_23 : decode cX11_winner 23 = .ok (.getfield 49, 3) := by decide +kernel
theorem dX11_winner_26 : decode cX11_winner 26 = .ok (.invokevirtual 199, 3) := by decide +kernel
theorem dX11_winner_29 : decode cX11_winner 29 = .ok (.iconst 0, 1) := by decide +kernel
theorem dX11_winner_30 : decode cX11_winner 30 = .ok (.istore_n 2, 1) := by decide +kernel
theorem dX11_winner_31 : decode cX11_winner 31 = .ok (.iload_n 2, 1) := by decide +kernel
theorem dX11_winner_32 : decode cX11_winner 32 = .ok (.aload_n 0, 1) := by decide +kernel
theorem dX11_winner_33 : decode cX11_winner 33 = .ok (.getfield 36, 3) := by decide +kernel
theorem dX11_winner_36 : decode cX11_winner 36 = .ok (.getfield 141, 3) := by decide +kernel
theorem dX11_winner_39 : decode cX11_winner 39 = .ok (.if_icmp .ge 25, 3) := by decide +kernel
theorem dX11_winner_42 : decode cX11_winner 42 = .ok (.aload_n 0, 1) := by decide +kernel
theorem dX11_winner_43 : decode cX11_winner 43 = .ok (.getfield 49, 3) := by decide +kernel
theorem dX11_winner_46 : decode cX11_winner 46 = .ok (.iload_n 2, 1) := by decide +kernel
theorem dX11_winner_47 : decode cX11_winner 47 = .ok (.aload_n 0, 1) := by decide +kernel
theorem dX11_winner_48 : decode cX11_winner 48 = .ok (.getfield 36, 3) := by decide +kernel
theorem dX11_winner_51 : decode cX11_winner 51 = .ok (.iload_n 2, 1) := by decide +kernel
theorem dX11_winner_52 : decode cX11_winner 52 = .ok (.invokevirtual 175, 3) := by decide +kernel
theorem dX11_winner_55 : decode cX11_winner 55 = .ok (.invokevirtual 202, 3) := by decide +kernel
theorem dX11_winner_58 : decode cX11_winner 58 = .ok (.iinc 2 1, 3) := by decide +kernel
theorem dX11_winner_61 : decode cX11_winner 61 = .ok (.goto (-30), 3) := by decide +kernel
theorem dX11_winner_64 : decode cX11_winner 64 = .ok (.aload_n 0, 1) := by decide +kernel
theorem dX11_winner_65 : decode cX11_winner 65 = .ok (.invokevirtual 209, 3) := by decide +kernel
theorem dX11_winner_68 : decode cX11_winner 68 = .ok (.ireturn, 1) := by decide +kernel
theorem dX11_largest_0 : decode cX11_largest 0 = .ok (.iload_n 1, 1) := by decide +kernel
theorem dX11_largest_1 : decode cX11_largest 1 = .ok (.iconst 0, 1) := by decide +kernel
theorem dX11_largest_2 : decode cX11_largest 2 = .ok (.sipush 200, 3) := by decide +kernel
theorem dX11_largest_5 : decode cX11_largest 5 = .ok (.invokestatic 80, 3) := by decide +kernel
theorem dX11_largest_8 : decode cX11_largest 8 = .ok (.ifCond .ne 9, 3) := by decide +kernel
theorem dX11_largest_11 : decode cX11_largest 11 = .ok (.aload_n 0, 1) := by decide +kernel
theorem dX11_largest_12 : decode cX11_largest 12 = .ok (.iconst 0, 1) := by decide +kernel
theorem dX11_largest_13 : decode cX11_largest 13 = .ok (.invokevirtual 84, 3) := by decide +kernel
theorem dX11_largest_16 : decode cX11_largest 16 = .ok (.ireturn, 1) := by decide +kernel
theorem dX11_largest_17 : decode cX11_largest 17 = .ok (.aload_n 0, 1) := by decide +kernel
theorem dX11_largest_18 : decode cX11_largest 18 = .ok (.iload_n 1, 1) := by decide +kernel
theorem dX11_largest_19 : decode cX11_largest 19 = .ok (.invokevirtual 186, 3) := by decide +kernel
theorem dX11_largest_22 : decode cX11_largest 22 = .ok (.aload_n 0, 1) := by decide +kernel
theorem dX11_largest_23 : decode cX11_largest 23 = .ok (.getfield 49, 3) := by decide +kernel
theorem dX11_largest_26 : decode cX11_largest 26 = .ok (.invokevirtual 199, 3) := by decide +kernel
theorem dX11_largest_29 : decode cX11_largest 29 = .ok (.iconst 0, 1) := by decide +kernel
theorem dX11_largest_30 : decode cX11_largest 30 = .ok (.istore_n 2, 1) := by decide +kernel
theorem dX11_largest_31 : decode cX11_largest 31 = .ok (.iload_n 2, 1) := by decide +kernel
theorem dX11_largest_32 : decode cX11_largest 32 = .ok (.iconst 5, 1) := by decide +kernel
theorem dX11_largest_33 : decode cX11_largest 33 = .ok (.if_icmp .gt 28, 3) := by decide +kernel
theorem dX11_largest_36 : decode cX11_largest 36 = .ok (.aload_n 0, 1) := by decide +kernel
theorem dX11_largest_37 : decode cX11_largest 37 = .ok (.getfield 49, 3) := by decide +kernel
theorem dX11_largest_40 : decode cX11_largest 40 = .ok (.iload_n 2, 1) := by decide +kernel
theorem dX11_largest_41 : decode cX11_largest 41 = .ok (.aload_n 0, 1) := by decide +kernel
theorem dX11_largest_42 : decode cX11_largest 42 = .ok (.getfield 36, 3) := by decide +kernel
theorem dX11_largest_45 : decode cX11_largest 45 = .ok (.iload_n 2, 1) := by decide +kernel
theorem dX11_largest_46 : decode cX11_largest 46 = .ok (.invokevirtual 122, 3) := by decide +kernel
theorem dX11_largest_49 : decode cX11_largest 49 = .ok (.invokestatic 212, 3) := by decide +kernel
theorem dX11_largest_52 : decode cX11_largest 52 = .ok (.invokevirtual 202, 3) := by decide +kernel
theorem dX11_largest_55 : decode cX11_largest 55 = .ok (.iinc 2 1, 3) := by decide +kernel
theorem dX11_largest_58 : decode cX11_largest 58 = .ok (.goto (-27), 3) := by decide +kernel
theorem dX11_largest_61 : decode cX11_largest 61 = .ok (.aload_n 0, 1) := by decide +kernel
theorem dX11_largest_62 : decode cX11_largest 62 = .ok (.getfield 49, 3) := by decide +kernel
theorem dX11_largest_65 : decode cX11_largest 65 = .ok (.getfield 206, 3) := by decide +kernel
theorem dX11_largest_68 : decode cX11_largest 68 = .ok (.ireturn, 1) := by decide +kernel
theorem dX11_feed_0 : decode cX11_feed 0 = .ok (.iload_n 2, 1) := by decide +kernel
theorem dX11_feed_1 : decode cX11_feed 1 = .ok (.iconst 1, 1) := by decide +kernel
theorem dX11_feed_2 : decode cX11_feed 2 = .ok (.iconst 4, 1) := by decide +kernel
theorem dX11_feed_3 : decode cX11_feed 3 = .ok (.invokestatic 80, 3) := by decide +kernel
theorem dX11_feed_6 : decode cX11_feed 6 = .ok (.ifCond .ne 9, 3) := by decide +kernel
theorem dX11_feed_9 : decode cX11_feed 9 = .ok (.aload_n 0, 1) := by decide +kernel
theorem dX11_feed_10 : decode cX11_feed 10 = .ok (.iconst 0, 1) := by decide +kernel
theorem dX11_feed_11 : decode cX11_feed 11 = .ok (.invokevirtual 84, 3) := by decide +kernel
theorem dX11_feed_14 : decode cX11_feed 14 = .ok (.ireturn, 1) := by decide +kernel
theorem dX11_feed_15 : decode cX11_feed 15 = .ok (.aload_n 0, 1) := by decide +kernel
theorem dX11_feed_16 : decode cX11_feed 16 = .ok (.getfield 56, 3) := by decide +kernel
theorem dX11_feed_19 : decode cX11_feed 19 = .ok (.getfield 217, 3) := by decide +kernel
theorem dX11_feed_22 : decode cX11_feed 22 = .ok (.bipush 120, 2) := by decide +kernel
theorem dX11_feed_24 : decode cX11_feed 24 = .ok (.iload_n 2, 1) := by decide +kernel
theorem dX11_feed_25 : decode cX11_feed 25 = .ok (.isub, 1) := by decide +kernel
theorem dX11_feed_26 : decode cX11_feed 26 = .ok (.if_icmp .le 9, 3) := by decide +kernel
theorem dX11_feed_29 : decode cX11_feed 29 = .ok (.aload_n 0, 1) := by decide +kernel
theorem dX11_feed_30 : decode cX11_feed 30 = .ok (.iconst 1, 1) := by decide +kernel
theorem dX11_feed_31 : decode cX11_feed 31 = .ok (.invokevirtual 84, 3) := by decide +kernel
theorem dX11_feed_34 : decode cX11_feed 34 = .ok (.ireturn, 1) := by decide +kernel
theorem dX11_feed_35 : decode cX11_feed 35 = .ok (.iload_n 2, 1) := by decide +kernel
theorem dX11_feed_36 : decode cX11_feed 36 = .ok (.iconst 1, 1) := by decide +kernel
theorem dX11_feed_37 : decode cX11_feed 37 = .ok (.isub, 1) := by decide +kernel
theorem dX11_feed_38 : decode cX11_feed 38 = .ok (.istore_n 3, 1) := by decide +kernel
theorem dX11_feed_39 : decode cX11_feed 39 = .ok (.iload_n 3, 1) := by decide +kernel
theorem dX11_feed_40 : decode cX11_feed 40 = .ok (.ifCond .lt 26, 3) := by decide +kernel
theorem dX11_feed_43 : decode cX11_feed 43 = .ok (.aload_n 0, 1) := by decide +kernel
theorem dX11_feed_44 : decode cX11_feed 44 = .ok (.getfield 56, 3) := by decide +kernel
theorem dX11_feed_47 : decode cX11_feed 47 = .ok (.iload_n 1, 1) := by decide +kernel
theorem dX11_feed_48 : decode cX11_feed 48 = .ok (.bipush 8, 2) := by decide +kernel
theorem dX11_feed_50 : decode cX11_feed 50 = .ok (.iload_n 3, 1) := by decide +kernel
theorem dX11_feed_51 : decode cX11_feed 51 = .ok (.imul, 1) := by decide +kernel
theorem dX11_feed_52 : decode cX11_feed 52 = .ok (.ishr, 1) := by decide +kernel
theorem dX11_feed_53 : decode cX11_feed 53 = .ok (.sipush 255, 3) := by decide +kernel
theorem dX11_feed_56 : decode cX11_feed 56 = .ok (.iand, 1) := by decide +kernel
theorem dX11_feed_57 : decode cX11_feed 57 = .ok (.invokevirtual 220, 3) := by decide +kernel
theorem dX11_feed_60 : decode cX11_feed 60 = .ok (.iinc 3 (-1), 3) := by decide +kernel
theorem dX11_feed_63 : decode cX11_feed 63 = .ok (.goto (-24), 3) := by decide +kernel
theorem dX11_feed_66 : decode cX11_feed 66 = .ok (.aload_n 0, 1) := by decide +kernel
theorem dX11_feed_67 : decode cX11_feed 67 = .ok (.getfield 56, 3) := by decide +kernel
theorem dX11_feed_70 : decode cX11_feed 70 = .ok (.getfield 217, 3) := by decide +kernel
theorem dX11_feed_73 : decode cX11_feed 73 = .ok (.ireturn, 1) := by decide +kernel
theorem dX11_wipe_0 : decode cX11_wipe 0 = .ok (.aload_n 0, 1) := by decide +kernel
theorem dX11_wipe_1 : decode cX11_wipe 1 = .ok (.getfield 56, 3) := by decide +kernel
theorem dX11_wipe_4 : decode cX11_wipe 4 = .ok (.getfield 217, 3) := by decide +kernel
theorem dX11_wipe_7 : decode cX11_wipe 7 = .ok (.istore_n 1, 1) := by decide +kernel
theorem dX11_wipe_8 : decode cX11_wipe 8 = .ok (.aload_n 0, 1) := by decide +kernel
theorem dX11_wipe_9 : decode cX11_wipe 9 = .ok (.getfield 56, 3) := by decide +kernel
theorem dX11_wipe_12 : decode cX11_wipe 12 = .ok (.iconst 0, 1) := by decide +kernel
theorem dX11_wipe_13 : decode cX11_wipe 13 = .ok (.putfield 217, 3) := by decide +kernel
theorem dX11_wipe_16 : decode cX11_wipe 16 = .ok (.iload_n 1, 1) := by decide +kernel
theorem dX11_wipe_17 : decode cX11_wipe 17 = .ok (.ireturn, 1) := by decide +kernel
theorem dX11_wall_0 : decode cX11_wall 0 = .ok (.aload_n 0, 1) := by decide +kernel
theorem dX11_wall_1 : decode cX11_wall 1 = .ok (.getfield 36, 3) := by decide +kernel
theorem dX11_wall_4 : decode cX11_wall 4 = .ok (.aload_n 0, 1) := by decide +kernel
theorem dX11_wall_5 : decode cX11_wall 5 = .ok (.getfield 30, 3) := by decide +kernel
theorem dX11_wall_8 : decode cX11_wall 8 = .ok (.invokevirtual 189, 3) := by decide +kernel
theorem dX11_wall_11 : decode cX11_wall 11 = .ok (.aload_n 0, 1) := by decide +kernel
theorem dX11_wall_12 : decode cX11_wall 12 = .ok (.getfield 65, 3) := by decide +kernel
theorem dX11_wall_15 : decode cX11_wall 15 = .ok (.aload_n 0, 1) := by decide +kernel
theorem dX11_wall_16 : decode cX11_wall 16 = .ok (.getfield 36, 3) := by decide +kernel
theorem dX11_wall_19 : decode cX11_wall 19 = .ok (.invokevirtual 223, 3) := by decide +kernel
theorem dX11_wall_22 : decode cX11_wall 22 = .ok (.istore_n 1, 1) := by decide +kernel
theorem dX11_wall_23 : decode cX11_wall 23 = .ok (.iload_n 1, 1) := by decide +kernel
theorem dX11_wall_24 : decode cX11_wall 24 = .ok (.ifCond .lt 14, 3) := by decide +kernel
theorem dX11_wall_27 : decode cX11_wall 27 = .ok (.aload_n 0, 1) := by decide +kernel
theorem dX11_wall_28 : decode cX11_wall 28 = .ok (.getfield 30, 3) := by decide +kernel
theorem dX11_wall_31 : decode cX11_wall 31 = .ok (.aload_n 0, 1) := by decide +kernel
theorem dX11_wall_32 : decode cX11_wall 32 = .ok (.getfield 36, 3) := by decide +kernel
theorem dX11_wall_35 : decode cX11_wall 35 = .ok (.invokevirtual 189, 3) := by decide +kernel
theorem dX11_wall_38 : decode cX11_wall 38 = .ok (.aload_n 0, 1) := by decide +kernel
theorem dX11_wall_39 : decode cX11_wall 39 = .ok (.getfield 56, 3) := by decide +kernel
theorem dX11_wall_42 : decode cX11_wall 42 = .ok (.iconst 0, 1) := by decide +kernel
theorem dX11_wall_43 : decode cX11_wall 43 = .ok (.putfield 217, 3) := by decide +kernel
theorem dX11_wall_46 : decode cX11_wall 46 = .ok (.iload_n 1, 1) := by decide +kernel
theorem dX11_wall_47 : decode cX11_wall 47 = .ok (.ireturn, 1) := by decide +kernel
theorem dX11_sheet_0 : decode cX11_sheet 0 = .ok (.iload_n 1, 1) := by decide +kernel
theorem dX11_sheet_1 : decode cX11_sheet 1 = .ok (.invokestatic 227, 3) := by decide +kernel
theorem dX11_sheet_4 : decode cX11_sheet 4 = .ok (.ifCond .ne 25, 3) := by decide +kernel
theorem dX11_sheet_7 : decode cX11_sheet 7 = .ok (.iload_n 2, 1) := by decide +kernel
theorem dX11_sheet_8 : decode cX11_sheet 8 = .ok (.ifCond .eq 27, 3) := by decide +kernel
theorem dX11_sheet_11 : decode cX11_sheet 11 = .ok (.iload_n 2, 1) := by decide +kernel
theorem dX11_sheet_12 : decode cX11_sheet 12 = .ok (.bipush 8, 2) := by decide +kernel
theorem dX11_sheet_14 : decode cX11_sheet 14 = .ok (.if_icmp .eq 21, 3) := by decide +kernel
theorem dX11_sheet_17 : decode cX11_sheet 17 = .ok (.iload_n 2, 1) := by decide +kernel
theorem dX11_sheet_18 : decode cX11_sheet 18 = .ok (.bipush 16, 2) := by decide +kernel
theorem dX11_sheet_20 : decode cX11_sheet 20 = .ok (.if_icmp .eq 15, 3) := by decide +kernel
theorem dX11_sheet_23 : decode cX11_sheet 23 = .ok (.iload_n 2, 1) := by decide +kernel
theorem dX11_sheet_24 : decode cX11_sheet 24 = .ok (.bipush 64, 2) := by decide +kernel
theorem dX11_sheet_26 : decode cX11_sheet 26 = .ok (.if_icmp .eq 9, 3) := by decide +kernel
theorem dX11_sheet_29 : decode cX11_sheet 29 = .ok (.aload_n 0, 1) := by decide +kernel
theorem dX11_sheet_30 : decode cX11_sheet 30 = .ok (.iconst 0, 1) := by decide +kernel
theorem dX11_sheet_31 : decode cX11_sheet 31 = .ok (.invokevirtual 84, 3) := by decide +kernel
theorem dX11_sheet_34 : decode cX11_sheet 34 = .ok (.ireturn, 1) := by decide +kernel
theorem dX11_sheet_35 : decode cX11_sheet 35 = .ok (.iload_n 3, 1) := by decide +kernel
theorem dX11_sheet_36 : decode cX11_sheet 36 = .ok (.ifCond .ge 10, 3) := by decide +kernel
theorem dX11_sheet_39 : decode cX11_sheet 39 = .ok (.aload_n 0, 1) := by decide +kernel
theorem dX11_sheet_40 : decode cX11_sheet 40 = .ok (.bipush 6, 2) := by decide +kernel
theorem dX11_sheet_42 : decode cX11_sheet 42 = .ok (.invokevirtual 84, 3) := by decide +kernel
theorem dX11_sheet_45 : decode cX11_sheet 45 = .ok (.ireturn, 1) := by decide +kernel
theorem dX11_sheet_46 : decode cX11_sheet 46 = .ok (.iload_n 3, 1) := by decide +kernel
theorem dX11_sheet_47 : decode cX11_sheet 47 = .ok (.bipush 40, 2) := by decide +kernel
theorem dX11_sheet_49 : decode cX11_sheet 49 = .ok (.if_icmp .le 9, 3) := by decide +kernel
theorem dX11_sheet_52 : decode cX11_sheet 52 = .ok (.aload_n 0, 1) := by decide +kernel
theorem dX11_sheet_53 : decode cX11_sheet 53 = .ok (.iconst 0, 1) := by decide +kernel
theorem dX11_sheet_54 : decode cX11_sheet 54 = .ok (.invokevirtual 84, 3) := by decide +kernel
theorem dX11_sheet_57 : decode cX11_sheet 57 = .ok (.ireturn, 1) := by decide +kernel
theorem dX11_sheet_58 : decode cX11_sheet 58 = .ok (.aload_n 0, 1) := by decide +kernel
theorem dX11_sheet_59 : decode cX11_sheet 59 = .ok (.getfield 71, 3) := by decide +kernel
theorem dX11_sheet_62 : decode cX11_sheet 62 = .ok (.iload_n 1, 1) := by decide +kernel
theorem dX11_sheet_63 : decode cX11_sheet 63 = .ok (.aaload, 1) := by decide +kernel
theorem dX11_sheet_64 : decode cX11_sheet 64 = .ok (.iload_n 2, 1) := by decide +kernel
theorem dX11_sheet_65 : decode cX11_sheet 65 = .ok (.iload_n 3, 1) := by decide +kernel
theorem dX11_sheet_66 : decode cX11_sheet 66 = .ok (.invokevirtual 230, 3) := by decide +kernel
theorem dX11_sheet_69 : decode cX11_sheet 69 = .ok (.aload_n 0, 1) := by decide +kernel
theorem dX11_sheet_70 : decode cX11_sheet 70 = .ok (.getfield 71, 3) := by decide +kernel
theorem dX11_sheet_73 : decode cX11_sheet 73 = .ok (.iload_n 1, 1) := by decide +kernel
theorem dX11_sheet_74 : decode cX11_sheet 74 = .ok (.aaload, 1) := by decide +kernel
theorem dX11_sheet_75 : decode cX11_sheet 75 = .ok (.getfield 233, 3) := by decide +kernel
theorem dX11_sheet_78 : decode cX11_sheet 78 = .ok (.ireturn, 1) := by decide +kernel
theorem dX11_write_0 : decode cX11_write 0 = .ok (.iload_n 1, 1) := by decide +kernel
theorem dX11_write_1 : decode cX11_write 1 = .ok (.invokestatic 227, 3) := by decide +kernel
theorem dX11_write_4 : decode cX11_write 4 = .ok (.ifCond .eq 10, 3) := by decide +kernel
theorem dX11_write_7 : decode cX11_write 7 = .ok (.aload_n 0, 1) := by decide +kernel
theorem dX11_write_8 : decode cX11_write 8 = .ok (.iconst 0, 1) := by decide +kernel
theorem dX11_write_9 : decode cX11_write 9 = .ok (.invokevirtual 84, 3) := by decide +kernel
theorem dX11_write_12 : decode cX11_write 12 = .ok (.i2l, 1) := by decide +kernel
theorem dX11_write_13 : decode cX11_write 13 = .ok (.lreturn, 1) := by decide +kernel
theorem dX11_write_14 : decode cX11_write 14 = .ok (.aload_n 0, 1) := by decide +kernel
theorem dX11_write_15 : decode cX11_write 15 = .ok (.getfield 71, 3) := by decide +kernel
theorem dX11_write_18 : decode cX11_write 18 = .ok (.iload_n 1, 1) := by decide +kernel
theorem dX11_write_19 : decode cX11_write 19 = .ok (.aaload, 1) := by decide +kernel
theorem dX11_write_20 : decode cX11_write 20 = .ok (.invokevirtual 236, 3) := by decide +kernel
theorem dX11_write_23 : decode cX11_write 23 = .ok (.ifCond .eq 10, 3) := by decide +kernel
theorem dX11_write_26 : decode cX11_write 26 = .ok (.aload_n 0, 1) := by decide +kernel
theorem dX11_write_27 : decode cX11_write 27 = .ok (.iconst 5, 1) := by decide +kernel
theorem dX11_write_28 : decode cX11_write 28 = .ok (.invokevirtual 84, 3) := by decide +kernel
theorem dX11_write_31 : decode cX11_write 31 = .ok (.i2l, 1) := by decide +kernel
theorem dX11_write_32 : decode cX11_write 32 = .ok (.lreturn, 1) := by decide +kernel
theorem dX11_write_33 : decode cX11_write 33 = .ok (.iload_n 2, 1) := by decide +kernel
theorem dX11_write_34 : decode cX11_write 34 = .ok (.iconst 0, 1) := by decide +kernel
theorem dX11_write_35 : decode cX11_write 35 = .ok (.aload_n 0, 1) := by decide +kernel
theorem dX11_write_36 : decode cX11_write 36 = .ok (.getfield 71, 3) := by decide +kernel
theorem dX11_write_39 : decode cX11_write 39 = .ok (.iload_n 1, 1) := by decide +kernel
theorem dX11_write_40 : decode cX11_write 40 = .ok (.aaload, 1) := by decide +kernel
theorem dX11_write_41 : decode cX11_write 41 = .ok (.getfield 233, 3) := by decide +kernel
theorem dX11_write_44 : decode cX11_write 44 = .ok (.iconst 1, 1) := by decide +kernel
theorem dX11_write_45 : decode cX11_write 45 = .ok (.isub, 1) := by decide +kernel
theorem dX11_write_46 : decode cX11_write 46 = .ok (.invokestatic 80, 3) := by decide +kernel
theorem dX11_write_49 : decode cX11_write 49 = .ok (.ifCond .ne 10, 3) := by decide +kernel
theorem dX11_write_52 : decode cX11_write 52 = .ok (.aload_n 0, 1) := by decide +kernel
theorem dX11_write_53 : decode cX11_write 53 = .ok (.iconst 0, 1) := by decide +kernel
theorem dX11_write_54 : decode cX11_write 54 = .ok (.invokevirtual 84, 3) := by decide +kernel
theorem dX11_write_57 : decode cX11_write 57 = .ok (.i2l, 1) := by decide +kernel
theorem dX11_write_58 : decode cX11_write 58 = .ok (.lreturn, 1) := by decide +kernel
theorem dX11_write_59 : decode cX11_write 59 = .ok (.aload_n 0, 1) := by decide +kernel
theorem dX11_write_60 : decode cX11_write 60 = .ok (.getfield 71, 3) := by decide +kernel
theorem dX11_write_63 : decode cX11_write 63 = .ok (.iload_n 1, 1) := by decide +kernel
theorem dX11_write_64 : decode cX11_write 64 = .ok (.aaload, 1) := by decide +kernel
theorem dX11_write_65 : decode cX11_write 65 = .ok (.getfield 240, 3) := by decide +kernel
theorem dX11_write_68 : decode cX11_write 68 = .ok (.iload_n 2, 1) := by decide +kernel
theorem dX11_write_69 : decode cX11_write 69 = .ok (.laload, 1) := by decide +kernel
theorem dX11_write_70 : decode cX11_write 70 = .ok (.lstore 5, 2) := by decide +kernel
theorem dX11_write_72 : decode cX11_write 72 = .ok (.aload_n 0, 1) := by decide +kernel
theorem dX11_write_73 : decode cX11_write 73 = .ok (.getfield 71, 3) := by decide +kernel
theorem dX11_write_76 : decode cX11_write 76 = .ok (.iload_n 1, 1) := by decide +kernel
theorem dX11_write_77 : decode cX11_write 77 = .ok (.aaload, 1) := by decide +kernel
theorem dX11_write_78 : decode cX11_write 78 = .ok (.iload_n 2, 1) := by decide +kernel
theorem dX11_write_79 : decode cX11_write 79 = .ok (.lload_n 3, 1) := by decide +kernel
theorem dX11_write_80 : decode cX11_write 80 = .ok (.invokevirtual 244, 3) := by decide +kernel
theorem dX11_write_83 : decode cX11_write 83 = .ok (.lload 5, 2) := by decide +kernel
theorem dX11_write_85 : decode cX11_write 85 = .ok (.lreturn, 1) := by decide +kernel
theorem dX11_copy_0 : decode cX11_copy 0 = .ok (.iload_n 1, 1) := by decide +kernel
theorem dX11_copy_1 : decode cX11_copy 1 = .ok (.invokestatic 227, 3) := by decide +kernel
theorem dX11_copy_4 : decode cX11_copy 4 = .ok (.ifCond .ne 10, 3) := by decide +kernel
theorem dX11_copy_7 : decode cX11_copy 7 = .ok (.iload_n 3, 1) := by decide +kernel
theorem dX11_copy_8 : decode cX11_copy 8 = .ok (.invokestatic 227, 3) := by decide +kernel
theorem dX11_copy_11 : decode cX11_copy 11 = .ok (.ifCond .eq 9, 3) := by decide +kernel
theorem dX11_copy_14 : decode cX11_copy 14 = .ok (.aload_n 0, 1) := by decide +kernel
theorem dX11_copy_15 : decode cX11_copy 15 = .ok (.iconst 0, 1) := by decide +kernel
theorem dX11_copy_16 : decode cX11_copy 16 = .ok (.invokevirtual 84, 3) := by decide +kernel
theorem dX11_copy_19 : decode cX11_copy 19 = .ok (.ireturn, 1) := by decide +kernel
theorem dX11_copy_20 : decode cX11_copy 20 = .ok (.aload_n 0, 1) := by decide +kernel
theorem dX11_copy_21 : decode cX11_copy 21 = .ok (.getfield 71, 3) := by decide +kernel
theorem dX11_copy_24 : decode cX11_copy 24 = .ok (.iload_n 1, 1) := by decide +kernel
theorem dX11_copy_25 : decode cX11_copy 25 = .ok (.aaload, 1) := by decide +kernel
theorem dX11_copy_26 : decode cX11_copy 26 = .ok (.invokevirtual 236, 3) := by decide +kernel
theorem dX11_copy_29 : decode cX11_copy 29 = .ok (.ifCond .ne 15, 3) := by decide +kernel
theorem dX11_copy_32 : decode cX11_copy 32 = .ok (.aload_n 0, 1) := by decide +kernel
theorem dX11_copy_33 : decode cX11_copy 33 = .ok (.getfield 71, 3) := by decide +kernel
theorem dX11_copy_36 : decode cX11_copy 36 = .ok (.iload_n 3, 1) := by decide +kernel
theorem dX11_copy_37 : decode cX11_copy 37 = .ok (.aaload, 1) := by decide +kernel
theorem dX11_copy_38 : decode cX11_copy 38 = .ok (.invokevirtual 236, 3) := by decide +kernel
theorem dX11_copy_41 : decode cX11_copy 41 = .ok (.ifCond .eq 9, 3) := by decide +kernel
theorem dX11_copy_44 : decode cX11_copy 44 = .ok (.aload_n 0, 1) := by decide +kernel
theorem dX11_copy_45 : decode cX11_copy 45 = .ok (.iconst 5, 1) := by decide +kernel
theorem dX11_copy_46 : decode cX11_copy 46 = .ok (.invokevirtual 84, 3) := by decide +kernel
theorem dX11_copy_49 : decode cX11_copy 49 = .ok (.ireturn, 1) := by decide +kernel
theorem dX11_copy_50 : decode cX11_copy 50 = .ok (.aload_n 0, 1) := by decide +kernel
theorem dX11_copy_51 : decode cX11_copy 51 = .ok (.getfield 71, 3) := by decide +kernel
theorem dX11_copy_54 : decode cX11_copy 54 = .ok (.iload_n 1, 1) := by decide +kernel
theorem dX11_copy_55 : decode cX11_copy 55 = .ok (.aaload, 1) := by decide +kernel
theorem dX11_copy_56 : decode cX11_copy 56 = .ok (.getfield 247, 3) := by decide +kernel
theorem dX11_copy_59 : decode cX11_copy 59 = .ok (.aload_n 0, 1) := by decide +kernel
theorem dX11_copy_60 : decode cX11_copy 60 = .ok (.getfield 71, 3) := by decide +kernel
theorem dX11_copy_63 : decode cX11_copy 63 = .ok (.iload_n 3, 1) := by decide +kernel
theorem dX11_copy_64 : decode cX11_copy 64 = .ok (.aaload, 1) := by decide +kernel
theorem dX11_copy_65 : decode cX11_copy 65 = .ok (.getfield 247, 3) := by decide +kernel
theorem dX11_copy_68 : decode cX11_copy 68 = .ok (.if_icmp .eq 9, 3) := by decide +kernel
theorem dX11_copy_71 : decode cX11_copy 71 = .ok (.aload_n 0, 1) := by decide +kernel
theorem dX11_copy_72 : decode cX11_copy 72 = .ok (.iconst 2, 1) := by decide +kernel
theorem dX11_copy_73 : decode cX11_copy 73 = .ok (.invokevirtual 84, 3) := by decide +kernel
theorem dX11_copy_76 : decode cX11_copy 76 = .ok (.ireturn, 1) := by decide +kernel
theorem dX11_copy_77 : decode cX11_copy 77 = .ok (.aload_n 0, 1) := by decide +kernel
theorem dX11_copy_78 : decode cX11_copy 78 = .ok (.getfield 71, 3) := by decide +kernel
theorem dX11_copy_81 : decode cX11_copy 81 = .ok (.iload_n 1, 1) := by decide +kernel
theorem dX11_copy_82 : decode cX11_copy 82 = .ok (.aaload, 1) := by decide +kernel
theorem dX11_copy_83 : decode cX11_copy 83 = .ok (.iload_n 2, 1) := by decide +kernel
theorem dX11_copy_84 : decode cX11_copy 84 = .ok (.iload 5, 2) := by decide +kernel
theorem dX11_copy_86 : decode cX11_copy 86 = .ok (.invokevirtual 250, 3) := by decide +kernel
theorem dX11_copy_89 : decode cX11_copy 89 = .ok (.ifCond .eq 19, 3) := by decide +kernel
theorem dX11_copy_92 : decode cX11_copy 92 = .ok (.aload_n 0, 1) := by decide +kernel
theorem dX11_copy_93 : decode cX11_copy 93 = .ok (.getfield 71, 3) := by decide +kernel
theorem dX11_copy_96 : decode cX11_copy 96 = .ok (.iload_n 3, 1) := by decide +kernel
theorem dX11_copy_97 : decode cX11_copy 97 = .ok (.aaload, 1) := by decide +kernel
theorem dX11_copy_98 : decode cX11_copy 98 = .ok (.iload 4, 2) := by decide +kernel
theorem dX11_copy_100 : decode cX11_copy 100 = .ok (.iload 5, 2) := by decide +kernel
theorem dX11_copy_102 : decode cX11_copy 102 = .ok (.invokevirtual 250, 3) := by decide +kernel
theorem dX11_copy_105 : decode cX11_copy 105 = .ok (.ifCond .ne 9, 3) := by decide +kernel
theorem dX11_copy_108 : decode cX11_copy 108 = .ok (.aload_n 0, 1) := by decide +kernel
theorem dX11_copy_109 : decode cX11_copy 109 = .ok (.iconst 0, 1) := by decide +kernel
theorem dX11_copy_110 : decode cX11_copy 110 = .ok (.invokevirtual 84, 3) := by decide +kernel
theorem dX11_copy_113 : decode cX11_copy 113 = .ok (.ireturn, 1) := by decide +kernel
theorem dX11_copy_114 : decode cX11_copy 114 = .ok (.aload_n 0, 1) := by decide +kernel
theorem dX11_copy_115 : decode cX11_copy 115 = .ok (.getfield 71, 3) := by decide +kernel
theorem dX11_copy_118 : decode cX11_copy 118 = .ok (.iload_n 1, 1) := by decide +kernel
theorem dX11_copy_119 : decode cX11_copy 119 = .ok (.aaload, 1) := by decide +kernel
theorem dX11_copy_120 : decode cX11_copy 120 = .ok (.getfield 240, 3) := by decide +kernel
theorem dX11_copy_123 : decode cX11_copy 123 = .ok (.iload_n 2, 1) := by decide +kernel
theorem dX11_copy_124 : decode cX11_copy 124 = .ok (.aload_n 0, 1) := by decide +kernel
theorem dX11_copy_125 : decode cX11_copy 125 = .ok (.getfield 71, 3) := by decide +kernel
theorem dX11_copy_128 : decode cX11_copy 128 = .ok (.iload_n 3, 1) := by decide +kernel
theorem dX11_copy_129 : decode cX11_copy 129 = .ok (.aaload, 1) := by decide +kernel
theorem dX11_copy_130 : decode cX11_copy 130 = .ok (.getfield 240, 3) := by decide +kernel
theorem dX11_copy_133 : decode cX11_copy 133 = .ok (.iload 4, 2) := by decide +kernel
theorem dX11_copy_135 : decode cX11_copy 135 = .ok (.iload 5, 2) := by decide +kernel
theorem dX11_copy_137 : decode cX11_copy 137 = .ok (.invokestatic 253, 3) := by decide +kernel
theorem dX11_copy_140 : decode cX11_copy 140 = .ok (.iload 5, 2) := by decide +kernel
theorem dX11_copy_142 : decode cX11_copy 142 = .ok (.ireturn, 1) := by decide +kernel
theorem dX11_lays_0 : decode cX11_lays 0 = .ok (.iload_n 1, 1) := by decide +kernel
theorem dX11_lays_1 : decode cX11_lays 1 = .ok (.invokestatic 227, 3) := by decide +kernel
theorem dX11_lays_4 : decode cX11_lays 4 = .ok (.ifCond .eq 9, 3) := by decide +kernel
theorem dX11_lays_7 : decode cX11_lays 7 = .ok (.aload_n 0, 1) := by decide +kernel
theorem dX11_lays_8 : decode cX11_lays 8 = .ok (.iconst 0, 1) := by decide +kernel
theorem dX11_lays_9 : decode cX11_lays 9 = .ok (.invokevirtual 84, 3) := by decide +kernel
theorem dX11_lays_12 : decode cX11_lays 12 = .ok (.ireturn, 1) := by decide +kernel
theorem dX11_lays_13 : decode cX11_lays 13 = .ok (.aload_n 0, 1) := by decide +kernel
theorem dX11_lays_14 : decode cX11_lays 14 = .ok (.getfield 71, 3) := by decide +kernel
theorem dX11_lays_17 : decode cX11_lays 17 = .ok (.iload_n 1, 1) := by decide +kernel
theorem dX11_lays_18 : decode cX11_lays 18 = .ok (.aaload, 1) := by decide +kernel
theorem dX11_lays_19 : decode cX11_lays 19 = .ok (.invokevirtual 236, 3) := by decide +kernel
theorem dX11_lays_22 : decode cX11_lays 22 = .ok (.ifCond .eq 9, 3) := by decide +kernel
theorem dX11_lays_25 : decode cX11_lays 25 = .ok (.aload_n 0, 1) := by decide +kernel
theorem dX11_lays_26 : decode cX11_lays 26 = .ok (.iconst 5, 1) := by decide +kernel
theorem dX11_lays_27 : decode cX11_lays 27 = .ok (.invokevirtual 84, 3) := by decide +kernel
theorem dX11_lays_30 : decode cX11_lays 30 = .ok (.ireturn, 1) := by decide +kernel
theorem dX11_lays_31 : decode cX11_lays 31 = .ok (.aload_n 0, 1) := by decide +kernel
theorem dX11_lays_32 : decode cX11_lays 32 = .ok (.iload_n 2, 1) := by decide +kernel
theorem dX11_lays_33 : decode cX11_lays 33 = .ok (.invokevirtual 147, 3) := by decide +kernel
theorem dX11_lays_36 : decode cX11_lays 36 = .ok (.ifCond .eq 9, 3) := by decide +kernel
theorem dX11_lays_39 : decode cX11_lays 39 = .ok (.aload_n 0, 1) := by decide +kernel
theorem dX11_lays_40 : decode cX11_lays 40 = .ok (.iconst 0, 1) := by decide +kernel
theorem dX11_lays_41 : decode cX11_lays 41 = .ok (.invokevirtual 84, 3) := by decide +kernel
theorem dX11_lays_44 : decode cX11_lays 44 = .ok (.ireturn, 1) := by decide +kernel
theorem dX11_lays_45 : decode cX11_lays 45 = .ok (.iconst 0, 1) := by decide +kernel
theorem dX11_lays_46 : decode cX11_lays 46 = .ok (.istore_n 3, 1) := by decide +kernel
theorem dX11_lays_47 : decode cX11_lays 47 = .ok (.iconst 0, 1) := by decide +kernel
theorem dX11_lays_48 : decode cX11_lays 48 = .ok (.istore 4, 2) := by decide +kernel
theorem dX11_lays_50 : decode cX11_lays 50 = .ok (.iload 4, 2) := by decide +kernel
theorem dX11_lays_52 : decode cX11_lays 52 = .ok (.aload_n 0, 1) := by decide +kernel
theorem dX11_lays_53 : decode cX11_lays 53 = .ok (.getfield 71, 3) := by decide +kernel
theorem dX11_lays_56 : decode cX11_lays 56 = .ok (.iload_n 1, 1) := by decide +kernel
theorem dX11_lays_57 : decode cX11_lays 57 = .ok (.aaload, 1) := by decide +kernel
theorem dX11_lays_58 : decode cX11_lays 58 = .ok (.getfield 233, 3) := by decide +kernel
theorem dX11_lays_61 : decode cX11_lays 61 = .ok (.if_icmp .ge 66, 3) := by decide +kernel
theorem dX11_lays_64 : decode cX11_lays 64 = .ok (.iload 4, 2) := by decide +kernel
theorem dX11_lays_66 : decode cX11_lays 66 = .ok (.bipush 10, 2) := by decide +kernel
theorem dX11_lays_68 : decode cX11_lays 68 = .ok (.if_icmp .ge 59, 3) := by decide +kernel
theorem dX11_lays_71 : decode cX11_lays 71 = .ok (.aload_n 0, 1) := by decide +kernel
theorem dX11_lays_72 : decode cX11_lays 72 = .ok (.getfield 71, 3) := by decide +kernel
theorem dX11_lays_75 : decode cX11_lays 75 = .ok (.iload_n 1, 1) := by decide +kernel
theorem dX11_lays_76 : decode cX11_lays 76 = .ok (.aaload, 1) := by decide +kernel
theorem dX11_lays_77 : decode cX11_lays 77 = .ok (.getfield 240, 3) := by decide +kernel
theorem dX11_lays_80 : decode cX11_lays 80 = .ok (.iload 4, 2) := by decide +kernel
theorem dX11_lays_82 : decode cX11_lays 82 = .ok (.laload, 1) := by decide +kernel
theorem dX11_lays_83 : decode cX11_lays 83 = .ok (.lstore 5, 2) := by decide +kernel
theorem dX11_lays_85 : decode cX11_lays 85 = .ok (.lload 5, 2) := by decide +kernel
theorem dX11_lays_87 : decode cX11_lays 87 = .ok (.lconst 0, 1) := by decide +kernel
theorem dX11_lays_88 : decode cX11_lays 88 = .ok (.lcmp, 1) := by decide +kernel
theorem dX11_lays_89 : decode cX11_lays 89 = .ok (.ifCond .lt 32, 3) := by decide +kernel
theorem dX11_lays_92 : decode cX11_lays 92 = .ok (.lload 5, 2) := by decide +kernel
theorem dX11_lays_94 : decode cX11_lays 94 = .ok (.ldc2_w 259, 3) := by decide +kernel
theorem dX11_lays_97 : decode cX11_lays 97 = .ok (.lcmp, 1) := by decide +kernel
theorem dX11_lays_98 : decode cX11_lays 98 = .ok (.ifCond .gt 23, 3) := by decide +kernel
theorem dX11_lays_101 : decode cX11_lays 101 = .ok (.aload_n 0, 1) := by decide +kernel
theorem dX11_lays_102 : decode cX11_lays 102 = .ok (.getfield 30, 3) := by decide +kernel
theorem dX11_lays_105 : decode cX11_lays 105 = .ok (.getfield 165, 3) := by decide +kernel
theorem dX11_lays_108 : decode cX11_lays 108 = .ok (.iload_n 2, 1) := by decide +kernel
theorem dX11_lays_109 : decode cX11_lays 109 = .ok (.iload 4, 2) := by decide +kernel
theorem dX11_lays_111 : decode cX11_lays 111 = .ok (.invokestatic 168, 3) := by decide +kernel
theorem dX11_lays_114 : decode cX11_lays 114 = .ok (.lload 5, 2) := by decide +kernel
theorem dX11_lays_116 : decode cX11_lays 116 = .ok (.l2i, 1) := by decide +kernel
theorem dX11_lays_117 : decode cX11_lays 117 = .ok (.iastore, 1) := by decide +kernel
theorem dX11_lays_118 : decode cX11_lays 118 = .ok (.iinc 3 1, 3) := by decide +kernel
theorem dX11_lays_121 : decode cX11_lays 121 = .ok (.iinc 4 1, 3) := by decide +kernel
theorem dX11_lays_124 : decode cX11_lays 124 = .ok (.goto (-74), 3) := by decide +kernel
theorem dX11_lays_127 : decode cX11_lays 127 = .ok (.iload_n 3, 1) := by decide +kernel
theorem dX11_lays_128 : decode cX11_lays 128 = .ok (.ireturn, 1) := by decide +kernel
theorem dX11_book_0 : decode cX11_book 0 = .ok (.iload_n 1, 1) := by decide +kernel
theorem dX11_book_1 : decode cX11_book 1 = .ok (.invokestatic 227, 3) := by decide +kernel
theorem dX11_book_4 : decode cX11_book 4 = .ok (.ifCond .eq 9, 3) := by decide +kernel
theorem dX11_book_7 : decode cX11_book 7 = .ok (.aload_n 0, 1) := by decide +kernel
theorem dX11_book_8 : decode cX11_book 8 = .ok (.iconst 0, 1) := by decide +kernel
theorem dX11_book_9 : decode cX11_book 9 = .ok (.invokevirtual 84, 3) := by decide +kernel
theorem dX11_book_12 : decode cX11_book 12 = .ok (.ireturn, 1) := by decide +kernel
theorem dX11_book_13 : decode cX11_book 13 = .ok (.aload_n 0, 1) := by decide +kernel
theorem dX11_book_14 : decode cX11_book 14 = .ok (.getfield 71, 3) := by decide +kernel
theorem dX11_book_17 : decode cX11_book 17 = .ok (.iload_n 1, 1) := by decide +kernel
theorem dX11_book_18 : decode cX11_book 18 = .ok (.aaload, 1) := by decide +kernel
theorem dX11_book_19 : decode cX11_book 19 = .ok (.invokevirtual 236, 3) := by decide +kernel
theorem dX11_book_22 : decode cX11_book 22 = .ok (.ifCond .eq 9, 3) := by decide +kernel
theorem dX11_book_25 : decode cX11_book 25 = .ok (.aload_n 0, 1) := by decide +kernel
theorem dX11_book_26 : decode cX11_book 26 = .ok (.iconst 5, 1) := by decide +kernel
theorem dX11_book_27 : decode cX11_book 27 = .ok (.invokevirtual 84, 3) := by decide +kernel
theorem dX11_book_30 : decode cX11_book 30 = .ok (.ireturn, 1) := by decide +kernel
theorem dX11_book_31 : decode cX11_book 31 = .ok (.aload_n 0, 1) := by decide +kernel
theorem dX11_book_32 : decode cX11_book 32 = .ok (.iload_n 2, 1) := by decide +kernel
theorem dX11_book_33 : decode cX11_book 33 = .ok (.invokevirtual 99, 3) := by decide +kernel
theorem dX11_book_36 : decode cX11_book 36 = .ok (.ifCond .eq 9, 3) := by decide +kernel
theorem dX11_book_39 : decode cX11_book 39 = .ok (.aload_n 0, 1) := by decide +kernel
theorem dX11_book_40 : decode cX11_book 40 = .ok (.iconst 0, 1) := by decide +kernel
theorem dX11_book_41 : decode cX11_book 41 = .ok (.invokevirtual 84, 3) := by decide +kernel
theorem dX11_book_44 : decode cX11_book 44 = .ok (.ireturn, 1) := by decide +kernel
theorem dX11_book_45 : decode cX11_book 45 = .ok (.aload_n 0, 1) := by decide +kernel
theorem dX11_book_46 : decode cX11_book 46 = .ok (.getfield 36, 3) := by decide +kernel
theorem dX11_book_49 : decode cX11_book 49 = .ok (.aload_n 0, 1) := by decide +kernel
theorem dX11_book_50 : decode cX11_book 50 = .ok (.getfield 30, 3) := by decide +kernel
theorem dX11_book_53 : decode cX11_book 53 = .ok (.invokevirtual 189, 3) := by decide +kernel
theorem dX11_book_56 : decode cX11_book 56 = .ok (.iconst 0, 1) := by decide +kernel
theorem dX11_book_57 : decode cX11_book 57 = .ok (.istore_n 3, 1) := by decide +kernel
theorem dX11_book_58 : decode cX11_book 58 = .ok (.iload_n 3, 1) := by decide +kernel
theorem dX11_book_59 : decode cX11_book 59 = .ok (.aload_n 0, 1) := by decide +kernel
theorem dX11_book_60 : decode cX11_book 60 = .ok (.getfield 71, 3) := by decide +kernel
theorem dX11_book_63 : decode cX11_book 63 = .ok (.iload_n 1, 1) := by decide +kernel
theorem dX11_book_64 : decode cX11_book 64 = .ok (.aaload, 1) := by decide +kernel
theorem dX11_book_65 : decode cX11_book 65 = .ok (.getfield 233, 3) := by decide +kernel
theorem dX11_book_68 : decode cX11_book 68 = .ok (.if_icmp .ge 37, 3) := by decide +kernel
theorem dX11_book_71 : decode cX11_book 71 = .ok (.aload_n 0, 1) := by decide +kernel
theorem dX11_book_72 : decode cX11_book 72 = .ok (.getfield 71, 3) := by decide +kernel
theorem dX11_book_75 : decode cX11_book 75 = .ok (.iload_n 1, 1) := by decide +kernel
theorem dX11_book_76 : decode cX11_book 76 = .ok (.aaload, 1) := by decide +kernel
theorem dX11_book_77 : decode cX11_book 77 = .ok (.iload_n 3, 1) := by decide +kernel
theorem dX11_book_78 : decode cX11_book 78 = .ok (.aload_n 0, 1) := by decide +kernel
theorem dX11_book_79 : decode cX11_book 79 = .ok (.getfield 36, 3) := by decide +kernel
theorem dX11_book_82 : decode cX11_book 82 = .ok (.getfield 103, 3) := by decide +kernel
theorem dX11_book_85 : decode cX11_book 85 = .ok (.iload_n 2, 1) := by decide +kernel
theorem dX11_book_86 : decode cX11_book 86 = .ok (.iaload, 1) := by decide +kernel
theorem dX11_book_87 : decode cX11_book 87 = .ok (.i2l, 1) := by decide +kernel
theorem dX11_book_88 : decode cX11_book 88 = .ok (.invokevirtual 244, 3) := by decide +kernel
theorem dX11_book_91 : decode cX11_book 91 = .ok (.aload_n 0, 1) := by decide +kernel
theorem dX11_book_92 : decode cX11_book 92 = .ok (.getfield 36, 3) := by decide +kernel
theorem dX11_book_95 : decode cX11_book 95 = .ok (.invokevirtual 196, 3) := by decide +kernel
theorem dX11_book_98 : decode cX11_book 98 = .ok (.pop, 1) := by decide +kernel
theorem dX11_book_99 : decode cX11_book 99 = .ok (.iinc 3 1, 3) := by decide +kernel
theorem dX11_book_102 : decode cX11_book 102 = .ok (.goto (-44), 3) := by decide +kernel
theorem dX11_book_105 : decode cX11_book 105 = .ok (.aload_n 0, 1) := by decide +kernel
theorem dX11_book_106 : decode cX11_book 106 = .ok (.getfield 71, 3) := by decide +kernel
theorem dX11_book_109 : decode cX11_book 109 = .ok (.iload_n 1, 1) := by decide +kernel
theorem dX11_book_110 : decode cX11_book 110 = .ok (.aaload, 1) := by decide +kernel
theorem dX11_book_111 : decode cX11_book 111 = .ok (.getfield 233, 3) := by decide +kernel
theorem dX11_book_114 : decode cX11_book 114 = .ok (.ireturn, 1) := by decide +kernel
theorem dX11_read_0 : decode cX11_read 0 = .ok (.iload_n 1, 1) := by decide +kernel
theorem dX11_read_1 : decode cX11_read 1 = .ok (.invokestatic 227, 3) := by decide +kernel
theorem dX11_read_4 : decode cX11_read 4 = .ok (.ifCond .eq 9, 3) := by decide +kernel
theorem dX11_read_7 : decode cX11_read 7 = .ok (.aload_n 0, 1) := by decide +kernel
theorem dX11_read_8 : decode cX11_read 8 = .ok (.iconst 0, 1) := by decide +kernel
theorem dX11_read_9 : decode cX11_read 9 = .ok (.invokevirtual 84, 3) := by decide +kernel
theorem dX11_read_12 : decode cX11_read 12 = .ok (.ireturn, 1) := by decide +kernel
theorem dX11_read_13 : decode cX11_read 13 = .ok (.aload_n 0, 1) := by decide +kernel
theorem dX11_read_14 : decode cX11_read 14 = .ok (.getfield 71, 3) := by decide +kernel
theorem dX11_read_17 : decode cX11_read 17 = .ok (.iload_n 1, 1) := by decide +kernel
theorem dX11_read_18 : decode cX11_read 18 = .ok (.aaload, 1) := by decide +kernel
theorem dX11_read_19 : decode cX11_read 19 = .ok (.invokevirtual 236, 3) := by decide +kernel
theorem dX11_read_22 : decode cX11_read 22 = .ok (.ifCond .eq 9, 3) := by decide +kernel
theorem dX11_read_25 : decode cX11_read 25 = .ok (.aload_n 0, 1) := by decide +kernel
theorem dX11_read_26 : decode cX11_read 26 = .ok (.iconst 5, 1) := by decide +kernel
theorem dX11_read_27 : decode cX11_read 27 = .ok (.invokevirtual 84, 3) := by decide +kernel
theorem dX11_read_30 : decode cX11_read 30 = .ok (.ireturn, 1) := by decide +kernel
theorem dX11_read_31 : decode cX11_read 31 = .ok (.aload_n 0, 1) := by decide +kernel
theorem dX11_read_32 : decode cX11_read 32 = .ok (.iload_n 2, 1) := by decide +kernel
theorem dX11_read_33 : decode cX11_read 33 = .ok (.invokevirtual 99, 3) := by decide +kernel
theorem dX11_read_36 : decode cX11_read 36 = .ok (.ifCond .ne 11, 3) := by decide +kernel
theorem dX11_read_39 : decode cX11_read 39 = .ok (.aload_n 0, 1) := by decide +kernel
theorem dX11_read_40 : decode cX11_read 40 = .ok (.iload_n 3, 1) := by decide +kernel
theorem dX11_read_41 : decode cX11_read 41 = .ok (.invokevirtual 147, 3) := by decide +kernel
theorem dX11_read_44 : decode cX11_read 44 = .ok (.ifCond .eq 9, 3) := by decide +kernel
theorem dX11_read_47 : decode cX11_read 47 = .ok (.aload_n 0, 1) := by decide +kernel
theorem dX11_read_48 : decode cX11_read 48 = .ok (.iconst 0, 1) := by decide +kernel
theorem dX11_read_49 : decode cX11_read 49 = .ok (.invokevirtual 84, 3) := by decide +kernel
theorem dX11_read_52 : decode cX11_read 52 = .ok (.ireturn, 1) := by decide +kernel
theorem dX11_read_53 : decode cX11_read 53 = .ok (.iconst 0, 1) := by decide +kernel
theorem dX11_read_54 : decode cX11_read 54 = .ok (.istore 4, 2) := by decide +kernel
theorem dX11_read_56 : decode cX11_read 56 = .ok (.iconst 0, 1) := by decide +kernel
theorem dX11_read_57 : decode cX11_read 57 = .ok (.istore 5, 2) := by decide +kernel
theorem dX11_read_59 : decode cX11_read 59 = .ok (.iload 5, 2) := by decide +kernel
theorem dX11_read_61 : decode cX11_read 61 = .ok (.iconst 5, 1) := by decide +kernel
theorem dX11_read_62 : decode cX11_read 62 = .ok (.if_icmp .gt 78, 3) := by decide +kernel
theorem dX11_read_65 : decode cX11_read 65 = .ok (.iconst 0, 1) := by decide +kernel
theorem dX11_read_66 : decode cX11_read 66 = .ok (.istore 6, 2) := by decide +kernel
theorem dX11_read_68 : decode cX11_read 68 = .ok (.iload 6, 2) := by decide +kernel
theorem dX11_read_70 : decode cX11_read 70 = .ok (.iconst 5, 1) := by decide +kernel
theorem dX11_read_71 : decode cX11_read 71 = .ok (.if_icmp .gt 63, 3) := by decide +kernel
theorem dX11_read_74 : decode cX11_read 74 = .ok (.aload_n 0, 1) := by decide +kernel
theorem dX11_read_75 : decode cX11_read 75 = .ok (.getfield 36, 3) := by decide +kernel
theorem dX11_read_78 : decode cX11_read 78 = .ok (.aload_n 0, 1) := by decide +kernel
theorem dX11_read_79 : decode cX11_read 79 = .ok (.getfield 30, 3) := by decide +kernel
theorem dX11_read_82 : decode cX11_read 82 = .ok (.invokevirtual 189, 3) := by decide +kernel
theorem dX11_read_85 : decode cX11_read 85 = .ok (.aload_n 0, 1) := by decide +kernel
theorem dX11_read_86 : decode cX11_read 86 = .ok (.getfield 36, 3) := by decide +kernel
theorem dX11_read_89 : decode cX11_read 89 = .ok (.getfield 150, 3) := by decide +kernel
theorem dX11_read_92 : decode cX11_read 92 = .ok (.iload_n 3, 1) := by decide +kernel
theorem dX11_read_93 : decode cX11_read 93 = .ok (.iload 5, 2) := by decide +kernel
theorem dX11_read_95 : decode cX11_read 95 = .ok (.iastore, 1) := by decide +kernel
theorem dX11_read_96 : decode cX11_read 96 = .ok (.aload_n 0, 1) := by decide +kernel
theorem dX11_read_97 : decode cX11_read 97 = .ok (.getfield 36, 3) := by decide +kernel
theorem dX11_read_100 : decode cX11_read 100 = .ok (.getfield 165, 3) := by decide +kernel
theorem dX11_read_103 : decode cX11_read 103 = .ok (.iload_n 3, 1) := by decide +kernel
theorem dX11_read_104 : decode cX11_read 104 = .ok (.iload_n 2, 1) := by decide +kernel
theorem dX11_read_105 : decode cX11_read 105 = .ok (.invokestatic 168, 3) := by decide +kernel
theorem dX11_read_108 : decode cX11_read 108 = .ok (.iload 6, 2) := by decide +kernel
theorem dX11_read_110 : decode cX11_read 110 = .ok (.iastore, 1) := by decide +kernel
theorem dX11_read_111 : decode cX11_read 111 = .ok (.aload_n 0, 1) := by decide +kernel
theorem dX11_read_112 : decode cX11_read 112 = .ok (.aload_n 0, 1) := by decide +kernel
theorem dX11_read_113 : decode cX11_read 113 = .ok (.getfield 71, 3) := by decide +kernel
theorem dX11_read_116 : decode cX11_read 116 = .ok (.iload_n 1, 1) := by decide +kernel
theorem dX11_read_117 : decode cX11_read 117 = .ok (.aaload, 1) := by decide +kernel
theorem dX11_read_118 : decode cX11_read 118 = .ok (.iload_n 2, 1) := by decide +kernel
theorem dX11_read_119 : decode cX11_read 119 = .ok (.invokevirtual 261, 3) := by decide +kernel
theorem dX11_read_122 : decode cX11_read 122 = .ok (.ifCond .eq 6, 3) := by decide +kernel
theorem dX11_read_125 : decode cX11_read 125 = .ok (.iinc 4 1, 3) := by decide +kernel
theorem dX11_read_128 : decode cX11_read 128 = .ok (.iinc 6 1, 3) := by decide +kernel
theorem dX11_read_131 : decode cX11_read 131 = .ok (.goto (-63), 3) := by decide +kernel
theorem dX11_read_134 : decode cX11_read 134 = .ok (.iinc 5 1, 3) := by decide +kernel
theorem dX11_read_137 : decode cX11_read 137 = .ok (.goto (-78), 3) := by decide +kernel
theorem dX11_read_140 : decode cX11_read 140 = .ok (.iload 4, 2) := by decide +kernel
theorem dX11_read_142 : decode cX11_read 142 = .ok (.ireturn, 1) := by decide +kernel
theorem dX11_image_0 : decode cX11_image 0 = .ok (.aload_n 0, 1) := by decide +kernel
theorem dX11_image_1 : decode cX11_image 1 = .ok (.getfield 39, 3) := by decide +kernel
theorem dX11_image_4 : decode cX11_image 4 = .ok (.aload_n 0, 1) := by decide +kernel
theorem dX11_image_5 : decode cX11_image 5 = .ok (.getfield 30, 3) := by decide +kernel
theorem dX11_image_8 : decode cX11_image 8 = .ok (.invokevirtual 189, 3) := by decide +kernel
theorem dX11_image_11 : decode cX11_image 11 = .ok (.aload_n 0, 1) := by decide +kernel
theorem dX11_image_12 : decode cX11_image 12 = .ok (.iconst 1, 1) := by decide +kernel
theorem dX11_image_13 : decode cX11_image 13 = .ok (.putfield 42, 3) := by decide +kernel
theorem dX11_image_16 : decode cX11_image 16 = .ok (.iconst 1, 1) := by decide +kernel
theorem dX11_image_17 : decode cX11_image 17 = .ok (.ireturn, 1) := by decide +kernel
theorem dX11_undo_0 : decode cX11_undo 0 = .ok (.aload_n 0, 1) := by decide +kernel
theorem dX11_undo_1 : decode cX11_undo 1 = .ok (.getfield 42, 3) := by decide +kernel
theorem dX11_undo_4 : decode cX11_undo 4 = .ok (.ifCond .ne 9, 3) := by decide +kernel
theorem dX11_undo_7 : decode cX11_undo 7 = .ok (.aload_n 0, 1) := by decide +kernel
theorem dX11_undo_8 : decode cX11_undo 8 = .ok (.iconst 3, 1) := by decide +kernel
theorem dX11_undo_9 : decode cX11_undo 9 = .ok (.invokevirtual 84, 3) := by decide +kernel
theorem dX11_undo_12 : decode cX11_undo 12 = .ok (.ireturn, 1) := by decide +kernel
theorem dX11_undo_13 : decode cX11_undo 13 = .ok (.aload_n 0, 1) := by decide +kernel
theorem dX11_undo_14 : decode cX11_undo 14 = .ok (.getfield 30, 3) := by decide +kernel
theorem dX11_undo_17 : decode cX11_undo 17 = .ok (.aload_n 0, 1) := by decide +kernel
theorem dX11_undo_18 : decode cX11_undo 18 = .ok (.getfield 39, 3) := by decide +kernel
theorem dX11_undo_21 : decode cX11_undo 21 = .ok (.invokevirtual 189, 3) := by decide +kernel
theorem dX11_undo_24 : decode cX11_undo 24 = .ok (.aload_n 0, 1) := by decide +kernel
theorem dX11_undo_25 : decode cX11_undo 25 = .ok (.getfield 30, 3) := by decide +kernel
theorem dX11_undo_28 : decode cX11_undo 28 = .ok (.getfield 92, 3) := by decide +kernel
theorem dX11_undo_31 : decode cX11_undo 31 = .ok (.ireturn, 1) := by decide +kernel
theorem dX11_tear_0 : decode cX11_tear 0 = .ok (.aload_n 0, 1) := by decide +kernel
theorem dX11_tear_1 : decode cX11_tear 1 = .ok (.getfield 42, 3) := by decide +kernel
theorem dX11_tear_4 : decode cX11_tear 4 = .ok (.ifCond .eq 7, 3) := by decide +kernel
theorem dX11_tear_7 : decode cX11_tear 7 = .ok (.iconst 1, 1) := by decide +kernel
theorem dX11_tear_8 : decode cX11_tear 8 = .ok (.goto 4, 3) := by decide +kernel
theorem dX11_tear_11 : decode cX11_tear 11 = .ok (.iconst 0, 1) := by decide +kernel
theorem dX11_tear_12 : decode cX11_tear 12 = .ok (.istore_n 1, 1) := by decide +kernel
theorem dX11_tear_13 : decode cX11_tear 13 = .ok (.aload_n 0, 1) := by decide +kernel
theorem dX11_tear_14 : decode cX11_tear 14 = .ok (.iconst 0, 1) := by decide +kernel
theorem dX11_tear_15 : decode cX11_tear 15 = .ok (.putfield 42, 3) := by decide +kernel
theorem dX11_tear_18 : decode cX11_tear 18 = .ok (.iload_n 1, 1) := by decide +kernel
theorem dX11_tear_19 : decode cX11_tear 19 = .ok (.ireturn, 1) := by decide +kernel
theorem dX11_count_0 : decode cX11_count 0 = .ok (.iload_n 1, 1) := by decide +kernel
theorem dX11_count_1 : decode cX11_count 1 = .ok (.tableswitch 67 0 3 #[31, 39, 47, 55], 31) := by decide +kernel
theorem dX11_count_32 : decode cX11_count 32 = .ok (.aload_n 0, 1) := by decide +kernel
theorem dX11_count_33 : decode cX11_count 33 = .ok (.getfield 30, 3) := by decide +kernel
theorem dX11_count_36 : decode cX11_count 36 = .ok (.getfield 92, 3) := by decide +kernel
theorem dX11_count_39 : decode cX11_count 39 = .ok (.ireturn, 1) := by decide +kernel
theorem dX11_count_40 : decode cX11_count 40 = .ok (.aload_n 0, 1) := by decide +kernel
theorem dX11_count_41 : decode cX11_count 41 = .ok (.getfield 30, 3) := by decide +kernel
theorem dX11_count_44 : decode cX11_count 44 = .ok (.getfield 141, 3) := by decide +kernel
theorem dX11_count_47 : decode cX11_count 47 = .ok (.ireturn, 1) := by decide +kernel
theorem dX11_count_48 : decode cX11_count 48 = .ok (.aload_n 0, 1) := by decide +kernel
theorem dX11_count_49 : decode cX11_count 49 = .ok (.getfield 56, 3) := by decide +kernel
theorem dX11_count_52 : decode cX11_count 52 = .ok (.getfield 217, 3) := by decide +kernel
theorem dX11_count_55 : decode cX11_count 55 = .ok (.ireturn, 1) := by decide +kernel
theorem dX11_count_56 : decode cX11_count 56 = .ok (.aload_n 0, 1) := by decide +kernel
theorem dX11_count_57 : decode cX11_count 57 = .ok (.getfield 30, 3) := by decide +kernel
theorem dX11_count_60 : decode cX11_count 60 = .ok (.iconst (-1), 1) := by decide +kernel
theorem dX11_count_61 : decode cX11_count 61 = .ok (.invokevirtual 122, 3) := by decide +kernel
theorem dX11_count_64 : decode cX11_count 64 = .ok (.invokestatic 212, 3) := by decide +kernel
theorem dX11_count_67 : decode cX11_count 67 = .ok (.ireturn, 1) := by decide +kernel
theorem dX11_count_68 : decode cX11_count 68 = .ok (.aload_n 0, 1) := by decide +kernel
theorem dX11_count_69 : decode cX11_count 69 = .ok (.iconst 0, 1) := by decide +kernel
theorem dX11_count_70 : decode cX11_count 70 = .ok (.invokevirtual 84, 3) := by decide +kernel
theorem dX11_count_73 : decode cX11_count 73 = .ok (.ireturn, 1) := by decide +kernel
theorem dX11_status_0 : decode cX11_status 0 = .ok (.iload_n 1, 1) := by decide +kernel
theorem dX11_status_1 : decode cX11_status 1 = .ok (.iconst (-1), 1) := by decide +kernel
theorem dX11_status_2 : decode cX11_status 2 = .ok (.bipush 6, 2) := by decide +kernel
theorem dX11_status_4 : decode cX11_status 4 = .ok (.invokestatic 80, 3) := by decide +kernel
theorem dX11_status_7 : decode cX11_status 7 = .ok (.ifCond .ne 9, 3) := by decide +kernel
theorem dX11_status_10 : decode cX11_status 10 = .ok (.aload_n 0, 1) := by decide +kernel
theorem dX11_status_11 : decode cX11_status 11 = .ok (.iconst 0, 1) := by decide +kernel
theorem dX11_status_12 : decode cX11_status 12 = .ok (.invokevirtual 84, 3) := by decide +kernel
theorem dX11_status_15 : decode cX11_status 15 = .ok (.ireturn, 1) := by decide +kernel
theorem dX11_status_16 : decode cX11_status 16 = .ok (.iload_n 1, 1) := by decide +kernel
theorem dX11_status_17 : decode cX11_status 17 = .ok (.ifCond .lt 10, 3) := by decide +kernel
theorem dX11_status_20 : decode cX11_status 20 = .ok (.aload_n 0, 1) := by decide +kernel
theorem dX11_status_21 : decode cX11_status 21 = .ok (.getfield 76, 3) := by decide +kernel
theorem dX11_status_24 : decode cX11_status 24 = .ok (.iload_n 1, 1) := by decide +kernel
theorem dX11_status_25 : decode cX11_status 25 = .ok (.iaload, 1) := by decide +kernel
theorem dX11_status_26 : decode cX11_status 26 = .ok (.ireturn, 1) := by decide +kernel
theorem dX11_status_27 : decode cX11_status 27 = .ok (.iconst 0, 1) := by decide +kernel
theorem dX11_status_28 : decode cX11_status 28 = .ok (.istore_n 2, 1) := by decide +kernel
theorem dX11_status_29 : decode cX11_status 29 = .ok (.iconst 0, 1) := by decide +kernel
theorem dX11_status_30 : decode cX11_status 30 = .ok (.istore_n 3, 1) := by decide +kernel
theorem dX11_status_31 : decode cX11_status 31 = .ok (.iload_n 3, 1) := by decide +kernel
theorem dX11_status_32 : decode cX11_status 32 = .ok (.bipush 7, 2) := by decide +kernel
theorem dX11_status_34 : decode cX11_status 34 = .ok (.if_icmp .ge 18, 3) := by decide +kernel
theorem dX11_status_37 : decode cX11_status 37 = .ok (.iload_n 2, 1) := by decide +kernel
theorem dX11_status_38 : decode cX11_status 38 = .ok (.aload_n 0, 1) := by decide +kernel
theorem dX11_status_39 : decode cX11_status 39 = .ok (.getfield 76, 3) := by decide +kernel
theorem dX11_status_42 : decode cX11_status 42 = .ok (.iload_n 3, 1) := by decide +kernel
theorem dX11_status_43 : decode cX11_status 43 = .ok (.iaload, 1) := by decide +kernel
theorem dX11_status_44 : decode cX11_status 44 = .ok (.iadd, 1) := by decide +kernel
theorem dX11_status_45 : decode cX11_status 45 = .ok (.istore_n 2, 1) := by decide +kernel
theorem dX11_status_46 : decode cX11_status 46 = .ok (.iinc 3 1, 3) := by decide +kernel
theorem dX11_status_49 : decode cX11_status 49 = .ok (.goto (-18), 3) := by decide +kernel
theorem dX11_status_52 : decode cX11_status 52 = .ok (.iload_n 2, 1) := by decide +kernel
theorem dX11_status_53 : decode cX11_status 53 = .ok (.ireturn, 1) := by decide +kernel
theorem dX11_within_0 : decode cX11_within 0 = .ok (.iload_n 0, 1) := by decide +kernel
theorem dX11_within_1 : decode cX11_within 1 = .ok (.iload_n 1, 1) := by decide +kernel
theorem dX11_within_2 : decode cX11_within 2 = .ok (.if_icmp .lt 12, 3) := by decide +kernel
theorem dX11_within_5 : decode cX11_within 5 = .ok (.iload_n 0, 1) := by decide +kernel
theorem dX11_within_6 : decode cX11_within 6 = .ok (.iload_n 2, 1) := by decide +kernel
theorem dX11_within_7 : decode cX11_within 7 = .ok (.if_icmp .gt 7, 3) := by decide +kernel
theorem dX11_within_10 : decode cX11_within 10 = .ok (.iconst 1, 1) := by decide +kernel
theorem dX11_within_11 : decode cX11_within 11 = .ok (.goto 4, 3) := by decide +kernel
theorem dX11_within_14 : decode cX11_within 14 = .ok (.iconst 0, 1) := by decide +kernel
theorem dX11_within_15 : decode cX11_within 15 = .ok (.ireturn, 1) := by decide +kernel
theorem dX11_noSlip_0 : decode cX11_noSlip 0 = .ok (.iload_n 1, 1) := by decide +kernel
theorem dX11_noSlip_1 : decode cX11_noSlip 1 = .ok (.iconst 0, 1) := by decide +kernel
theorem dX11_noSlip_2 : decode cX11_noSlip 2 = .ok (.aload_n 0, 1) := by decide +kernel
theorem dX11_noSlip_3 : decode cX11_noSlip 3 = .ok (.getfield 30, 3) := by decide +kernel
theorem dX11_noSlip_6 : decode cX11_noSlip 6 = .ok (.getfield 92, 3) := by decide +kernel
theorem dX11_noSlip_9 : decode cX11_noSlip 9 = .ok (.iconst 1, 1) := by decide +kernel
theorem dX11_noSlip_10 : decode cX11_noSlip 10 = .ok (.isub, 1) := by decide +kernel
theorem dX11_noSlip_11 : decode cX11_noSlip 11 = .ok (.invokestatic 80, 3) := by decide +kernel
theorem dX11_noSlip_14 : decode cX11_noSlip 14 = .ok (.ifCond .ne 7, 3) := by decide +kernel
theorem dX11_noSlip_17 : decode cX11_noSlip 17 = .ok (.iconst 1, 1) := by decide +kernel
theorem dX11_noSlip_18 : decode cX11_noSlip 18 = .ok (.goto 4, 3) := by decide +kernel
theorem dX11_noSlip_21 : decode cX11_noSlip 21 = .ok (.iconst 0, 1) := by decide +kernel
theorem dX11_noSlip_22 : decode cX11_noSlip 22 = .ok (.ireturn, 1) := by decide +kernel
theorem dX11_noPerson_0 : decode cX11_noPerson 0 = .ok (.iload_n 1, 1) := by decide +kernel
theorem dX11_noPerson_1 : decode cX11_noPerson 1 = .ok (.iconst 0, 1) := by decide +kernel
theorem dX11_noPerson_2 : decode cX11_noPerson 2 = .ok (.aload_n 0, 1) := by decide +kernel
theorem dX11_noPerson_3 : decode cX11_noPerson 3 = .ok (.getfield 30, 3) := by decide +kernel
theorem dX11_noPerson_6 : decode cX11_noPerson 6 = .ok (.getfield 141, 3) := by decide +kernel
theorem dX11_noPerson_9 : decode cX11_noPerson 9 = .ok (.iconst 1, 1) := by decide +kernel
theorem dX11_noPerson_10 : decode cX11_noPerson 10 = .ok (.isub, 1) := by decide +kernel
theorem dX11_noPerson_11 : decode cX11_noPerson 11 = .ok (.invokestatic 80, 3) := by decide +kernel
theorem dX11_noPerson_14 : decode cX11_noPerson 14 = .ok (.ifCond .ne 7, 3) := by decide +kernel
theorem dX11_noPerson_17 : decode cX11_noPerson 17 = .ok (.iconst 1, 1) := by decide +kernel
theorem dX11_noPerson_18 : decode cX11_noPerson 18 = .ok (.goto 4, 3) := by decide +kernel
theorem dX11_noPerson_21 : decode cX11_noPerson 21 = .ok (.iconst 0, 1) := by decide +kernel
theorem dX11_noPerson_22 : decode cX11_noPerson 22 = .ok (.ireturn, 1) := by decide +kernel
theorem dX11_noSheet_0 : decode cX11_noSheet 0 = .ok (.iload_n 0, 1) := by decide +kernel
theorem dX11_noSheet_1 : decode cX11_noSheet 1 = .ok (.iconst 0, 1) := by decide +kernel
theorem dX11_noSheet_2 : decode cX11_noSheet 2 = .ok (.iconst 3, 1) := by decide +kernel
theorem dX11_noSheet_3 : decode cX11_noSheet 3 = .ok (.invokestatic 80, 3) := by decide +kernel
theorem dX11_noSheet_6 : decode cX11_noSheet 6 = .ok (.ifCond .ne 7, 3) := by decide +kernel
theorem dX11_noSheet_9 : decode cX11_noSheet 9 = .ok (.iconst 1, 1) := by decide +kernel
theorem dX11_noSheet_10 : decode cX11_noSheet 10 = .ok (.goto 4, 3) := by decide +kernel
theorem dX11_noSheet_13 : decode cX11_noSheet 13 = .ok (.iconst 0, 1) := by decide +kernel
theorem dX11_noSheet_14 : decode cX11_noSheet 14 = .ok (.ireturn, 1) := by decide +kernel
theorem dX11_finding_0 : decode cX11_finding 0 = .ok (.aload_n 0, 1) := by decide +kernel
theorem dX11_finding_1 : decode cX11_finding 1 = .ok (.getfield 76, 3) := by decide +kernel
theorem dX11_finding_4 : decode cX11_finding 4 = .ok (.iload_n 1, 1) := by decide +kernel
theorem dX11_finding_5 : decode cX11_finding 5 = .ok (.dup2, 1) := by decide +kernel
theorem dX11_finding_6 : decode cX11_finding 6 = .ok (.iaload, 1) := by decide +kernel
theorem dX11_finding_7 : decode cX11_finding 7 = .ok (.iconst 1, 1) := by decide +kernel
theorem dX11_finding_8 : decode cX11_finding 8 = .ok (.iadd, 1) := by decide +kernel
theorem dX11_finding_9 : decode cX11_finding 9 = .ok (.iastore, 1) := by decide +kernel
theorem dX11_finding_10 : decode cX11_finding 10 = .ok (.ldc_w 265, 3) := by decide +kernel
theorem dX11_finding_13 : decode cX11_finding 13 = .ok (.iload_n 1, 1) := by decide +kernel
theorem dX11_finding_14 : decode cX11_finding 14 = .ok (.isub, 1) := by decide +kernel
theorem dX11_finding_15 : decode cX11_finding 15 = .ok (.ireturn, 1) := by decide +kernel
theorem dX11_put_0 : decode cX11_put 0 = .ok (.iload_n 3, 1) := by decide +kernel
theorem dX11_put_1 : decode cX11_put 1 = .ok (.iload 4, 2) := by decide +kernel
theorem dX11_put_3 : decode cX11_put 3 = .ok (.iload 5, 2) := by decide +kernel
theorem dX11_put_5 : decode cX11_put 5 = .ok (.invokestatic 80, 3) := by decide +kernel
theorem dX11_put_8 : decode cX11_put 8 = .ok (.ifCond .ne 9, 3) := by decide +kernel
theorem dX11_put_11 : decode cX11_put 11 = .ok (.aload_n 0, 1) := by decide +kernel
theorem dX11_put_12 : decode cX11_put 12 = .ok (.iconst 0, 1) := by decide +kernel
theorem dX11_put_13 : decode cX11_put 13 = .ok (.invokevirtual 84, 3) := by decide +kernel
theorem dX11_put_16 : decode cX11_put 16 = .ok (.ireturn, 1) := by decide +kernel
theorem dX11_put_17 : decode cX11_put 17 = .ok (.aload_n 1, 1) := by decide +kernel
theorem dX11_put_18 : decode cX11_put 18 = .ok (.iload_n 2, 1) := by decide +kernel
theorem dX11_put_19 : decode cX11_put 19 = .ok (.iaload, 1) := by decide +kernel
theorem dX11_put_20 : decode cX11_put 20 = .ok (.istore 6, 2) := by decide +kernel
theorem dX11_put_22 : decode cX11_put 22 = .ok (.aload_n 1, 1) := by decide +kernel
theorem dX11_put_23 : decode cX11_put 23 = .ok (.iload_n 2, 1) := by decide +kernel
theorem dX11_put_24 : decode cX11_put 24 = .ok (.iload_n 3, 1) := by decide +kernel
theorem dX11_put_25 : decode cX11_put 25 = .ok (.iastore, 1) := by decide +kernel
theorem dX11_put_26 : decode cX11_put 26 = .ok (.iload 6, 2) := by decide +kernel
theorem dX11_put_28 : decode cX11_put 28 = .ok (.ireturn, 1) := by decide +kernel
theorem dX11_tryOn_0 : decode cX11_tryOn 0 = .ok (.aload_n 0, 1) := by decide +kernel
theorem dX11_tryOn_1 : decode cX11_tryOn 1 = .ok (.getfield 36, 3) := by decide +kernel
theorem dX11_tryOn_4 : decode cX11_tryOn 4 = .ok (.aload_n 0, 1) := by decide +kernel
theorem dX11_tryOn_5 : decode cX11_tryOn 5 = .ok (.getfield 30, 3) := by decide +kernel
theorem dX11_tryOn_8 : decode cX11_tryOn 8 = .ok (.invokevirtual 189, 3) := by decide +kernel
theorem dX11_tryOn_11 : decode cX11_tryOn 11 = .ok (.aload_n 0, 1) := by decide +kernel
theorem dX11_tryOn_12 : decode cX11_tryOn 12 = .ok (.getfield 36, 3) := by decide +kernel
theorem dX11_tryOn_15 : decode cX11_tryOn 15 = .ok (.iload_n 1, 1) := by decide +kernel
theorem dX11_tryOn_16 : decode cX11_tryOn 16 = .ok (.invokevirtual 182, 3) := by decide +kernel
theorem dX11_tryOn_19 : decode cX11_tryOn 19 = .ok (.return_, 1) := by decide +kernel
theorem dX11_wayOfTrial_0 : decode cX11_wayOfTrial 0 = .ok (.aload_n 0, 1) := by decide +kernel
theorem dX11_wayOfTrial_1 : decode cX11_wayOfTrial 1 = .ok (.getfield 36, 3) := by decide +kernel
theorem dX11_wayOfTrial_4 : decode cX11_wayOfTrial 4 = .ok (.iload_n 2, 1) := by decide +kernel
theorem dX11_wayOfTrial_5 : decode cX11_wayOfTrial 5 = .ok (.invokevirtual 182, 3) := by decide +kernel
theorem dX11_wayOfTrial_8 : decode cX11_wayOfTrial 8 = .ok (.aload_n 0, 1) := by decide +kernel
theorem dX11_wayOfTrial_9 : decode cX11_wayOfTrial 9 = .ok (.getfield 36, 3) := by decide +kernel
theorem dX11_wayOfTrial_12 : decode cX11_wayOfTrial 12 = .ok (.iload_n 1, 1) := by decide +kernel
theorem dX11_wayOfTrial_13 : decode cX11_wayOfTrial 13 = .ok (.invokevirtual 175, 3) := by decide +kernel
theorem dX11_wayOfTrial_16 : decode cX11_wayOfTrial 16 = .ok (.ireturn, 1) := by decide +kernel
theorem dX11_bestOrNone_0 : decode cX11_bestOrNone 0 = .ok (.aload_n 0, 1) := by decide +kernel
theorem dX11_bestOrNone_1 : decode cX11_bestOrNone 1 = .ok (.getfield 49, 3) := by decide +kernel
theorem dX11_bestOrNone_4 : decode cX11_bestOrNone 4 = .ok (.getfield 206, 3) := by decide +kernel
theorem dX11_bestOrNone_7 : decode cX11_bestOrNone 7 = .ok (.iconst (-1), 1) := by decide +kernel
theorem dX11_bestOrNone_8 : decode cX11_bestOrNone 8 = .ok (.if_icmp .ne 11, 3) := by decide +kernel
theorem dX11_bestOrNone_11 : decode cX11_bestOrNone 11 = .ok (.aload_n 0, 1) := by decide +kernel
theorem dX11_bestOrNone_12 : decode cX11_bestOrNone 12 = .ok (.iconst 3, 1) := by decide +kernel
theorem dX11_bestOrNone_13 : decode cX11_bestOrNone 13 = .ok (.invokevirtual 84, 3) := by decide +kernel
theorem dX11_bestOrNone_16 : decode cX11_bestOrNone 16 = .ok (.goto 10, 3) := by decide +kernel
theorem dX11_bestOrNone_19 : decode cX11_bestOrNone 19 = .ok (.aload_n 0, 1) := by decide +kernel
theorem dX11_bestOrNone_20 : decode cX11_bestOrNone 20 = .ok (.getfield 49, 3) := by decide +kernel
theorem dX11_bestOrNone_23 : decode cX11_bestOrNone 23 = .ok (.getfield 206, 3) := by decide +kernel
theorem dX11_bestOrNone_26 : decode cX11_bestOrNone 26 = .ok (.ireturn, 1) := by decide +kernel
theorem dX11_groupMostWanted_0 : decode cX11_groupMostWanted 0 = .ok (.aload_n 0, 1) := by decide +kernel
theorem dX11_groupMostWanted_1 : decode cX11_groupMostWanted 1 = .ok (.getfield 30, 3) := by decide +kernel
theorem dX11_groupMostWanted_4 : decode cX11_groupMostWanted 4 = .ok (.getfield 141, 3) := by decide +kernel
theorem dX11_groupMostWanted_7 : decode cX11_groupMostWanted 7 = .ok (.ifCond .ne 5, 3) := by decide +kernel
theorem dX11_groupMostWanted_10 : decode cX11_groupMostWanted 10 = .ok (.iconst (-1), 1) := by decide +kernel
theorem dX11_groupMostWanted_11 : decode cX11_groupMostWanted 11 = .ok (.ireturn, 1) := by decide +kernel
theorem dX11_groupMostWanted_12 : decode cX11_groupMostWanted 12 = .ok (.aload_n 0, 1) := by decide +kernel
theorem dX11_groupMostWanted_13 : decode cX11_groupMostWanted 13 = .ok (.getfield 49, 3) := by decide +kernel
theorem dX11_groupMostWanted_16 : decode cX11_groupMostWanted 16 = .ok (.invokevirtual 199, 3) := by decide +kernel
theorem dX11_groupMostWanted_19 : decode cX11_groupMostWanted 19 = .ok (.iconst 0, 1) := by decide +kernel
theorem dX11_groupMostWanted_20 : decode cX11_groupMostWanted 20 = .ok (.istore_n 2, 1) := by decide +kernel
theorem dX11_groupMostWanted_21 : decode cX11_groupMostWanted 21 = .ok (.iload_n 2, 1) := by decide +kernel
theorem dX11_groupMostWanted_22 : decode cX11_groupMostWanted 22 = .ok (.iconst 5, 1) := by decide +kernel
theorem dX11_groupMostWanted_23 : decode cX11_groupMostWanted 23 = .ok (.if_icmp .gt 26, 3) := by decide +kernel
theorem dX11_groupMostWanted_26 : decode cX11_groupMostWanted 26 = .ok (.aload_n 0, 1) := by decide +kernel
theorem dX11_groupMostWanted_27 : decode cX11_groupMostWanted 27 = .ok (.getfield 49, 3) := by decide +kernel
theorem dX11_groupMostWanted_30 : decode cX11_groupMostWanted 30 = .ok (.iload_n 2, 1) := by decide +kernel
theorem dX11_groupMostWanted_31 : decode cX11_groupMostWanted 31 = .ok (.aload_n 0, 1) := by decide +kernel
theorem dX11_groupMostWanted_32 : decode cX11_groupMostWanted 32 = .ok (.getfield 30, 3) := by decide +kernel
theorem dX11_groupMostWanted_35 : decode cX11_groupMostWanted 35 = .ok (.iload_n 1, 1) := by decide +kernel
theorem dX11_groupMostWanted_36 : decode cX11_groupMostWanted 36 = .ok (.iload_n 2, 1) := by decide +kernel
theorem dX11_groupMostWanted_37 : decode cX11_groupMostWanted 37 = .ok (.invokevirtual 266, 3) := by decide +kernel
theorem dX11_groupMostWanted_40 : decode cX11_groupMostWanted 40 = .ok (.invokevirtual 202, 3) := by decide +kernel
theorem dX11_groupMostWanted_43 : decode cX11_groupMostWanted 43 = .ok (.iinc 2 1, 3) := by decide +kernel
theorem dX11_groupMostWanted_46 : decode cX11_groupMostWanted 46 = .ok (.goto (-25), 3) := by decide +kernel
theorem dX11_groupMostWanted_49 : decode cX11_groupMostWanted 49 = .ok (.aload_n 0, 1) := by decide +kernel
theorem dX11_groupMostWanted_50 : decode cX11_groupMostWanted 50 = .ok (.getfield 49, 3) := by decide +kernel
theorem dX11_groupMostWanted_53 : decode cX11_groupMostWanted 53 = .ok (.getfield 206, 3) := by decide +kernel
theorem dX11_groupMostWanted_56 : decode cX11_groupMostWanted 56 = .ok (.ireturn, 1) := by decide +kernel
theorem dX11_trialGoesAs_0 : decode cX11_trialGoesAs 0 = .ok (.iconst 0, 1) := by decide +kernel
theorem dX11_trialGoesAs_1 : decode cX11_trialGoesAs 1 = .ok (.istore_n 3, 1) := by decide +kernel
theorem dX11_trialGoesAs_2 : decode cX11_trialGoesAs 2 = .ok (.iload_n 3, 1) := by decide +kernel
theorem dX11_trialGoesAs_3 : decode cX11_trialGoesAs 3 = .ok (.aload_n 1, 1) := by decide +kernel
theorem dX11_trialGoesAs_4 : decode cX11_trialGoesAs 4 = .ok (.getfield 233, 3) := by decide +kernel
theorem dX11_trialGoesAs_7 : decode cX11_trialGoesAs 7 = .ok (.if_icmp .ge 39, 3) := by decide +kernel
theorem dX11_trialGoesAs_10 : decode cX11_trialGoesAs 10 = .ok (.aload_n 1, 1) := by decide +kernel
theorem dX11_trialGoesAs_11 : decode cX11_trialGoesAs 11 = .ok (.getfield 240, 3) := by decide +kernel
theorem dX11_trialGoesAs_14 : decode cX11_trialGoesAs 14 = .ok (.iload_n 3, 1) := by decide +kernel
theorem dX11_trialGoesAs_15 : decode cX11_trialGoesAs 15 = .ok (.laload, 1) := by decide +kernel
theorem dX11_trialGoesAs_16 : decode cX11_trialGoesAs 16 = .ok (.aload_n 0, 1) := by decide +kernel
theorem dX11_trialGoesAs_17 : decode cX11_trialGoesAs 17 = .ok (.getfield 36, 3) := by decide +kernel
theorem dX11_trialGoesAs_20 : decode cX11_trialGoesAs 20 = .ok (.getfield 103, 3) := by decide +kernel
theorem dX11_trialGoesAs_23 : decode cX11_trialGoesAs 23 = .ok (.iload_n 2, 1) := by decide +kernel
theorem dX11_trialGoesAs_24 : decode cX11_trialGoesAs 24 = .ok (.iaload, 1) := by decide +kernel
theorem dX11_trialGoesAs_25 : decode cX11_trialGoesAs 25 = .ok (.i2l, 1) := by decide +kernel
theorem dX11_trialGoesAs_26 : decode cX11_trialGoesAs 26 = .ok (.lcmp, 1) := by decide +kernel
theorem dX11_trialGoesAs_27 : decode cX11_trialGoesAs 27 = .ok (.ifCond .eq 5, 3) := by decide +kernel
theorem dX11_trialGoesAs_30 : decode cX11_trialGoesAs 30 = .ok (.iconst 0, 1) := by decide +kernel
theorem dX11_trialGoesAs_31 : decode cX11_trialGoesAs 31 = .ok (.ireturn, 1) := by decide +kernel
theorem dX11_trialGoesAs_32 : decode cX11_trialGoesAs 32 = .ok (.aload_n 0, 1) := by decide +kernel
theorem dX11_trialGoesAs_33 : decode cX11_trialGoesAs 33 = .ok (.getfield 36, 3) := by decide +kernel
theorem dX11_trialGoesAs_36 : decode cX11_trialGoesAs 36 = .ok (.invokevirtual 196, 3) := by decide +kernel
theorem dX11_trialGoesAs_39 : decode cX11_trialGoesAs 39 = .ok (.pop, 1) := by decide +kernel
theorem dX11_trialGoesAs_40 : decode cX11_trialGoesAs 40 = .ok (.iinc 3 1, 3) := by decide +kernel
theorem dX11_trialGoesAs_43 : decode cX11_trialGoesAs 43 = .ok (.goto (-41), 3) := by decide +kernel
theorem dX11_trialGoesAs_46 : decode cX11_trialGoesAs 46 = .ok (.iconst 1, 1) := by decide +kernel
theorem dX11_trialGoesAs_47 : decode cX11_trialGoesAs 47 = .ok (.ireturn, 1) := by decide +kernel
theorem dJ6_bitCount_0f7a4_0 : decode cJ6_bitCount_0f7a4 0 = .ok (.iload_n 0, 1) := by decide +kernel
theorem dJ6_bitCount_0f7a4_1 : decode cJ6_bitCount_0f7a4 1 = .ok (.iload_n 0, 1) := by decide +kernel
theorem dJ6_bitCount_0f7a4_2 : decode cJ6_bitCount_0f7a4 2 = .ok (.iconst 1, 1) := by decide +kernel
theorem dJ6_bitCount_0f7a4_3 : decode cJ6_bitCount_0f7a4 3 = .ok (.iushr, 1) := by decide +kernel
theorem dJ6_bitCount_0f7a4_4 : decode cJ6_bitCount_0f7a4 4 = .ok (.ldc_w 265, 3) := by decide +kernel
theorem dJ6_bitCount_0f7a4_7 : decode cJ6_bitCount_0f7a4 7 = .ok (.iand, 1) := by decide +kernel
theorem dJ6_bitCount_0f7a4_8 : decode cJ6_bitCount_0f7a4 8 = .ok (.isub, 1) := by decide +kernel
theorem dJ6_bitCount_0f7a4_9 : decode cJ6_bitCount_0f7a4 9 = .ok (.istore_n 0, 1) := by decide +kernel
theorem dJ6_bitCount_0f7a4_10 : decode cJ6_bitCount_0f7a4 10 = .ok (.iload_n 0, 1) := by decide +kernel
theorem dJ6_bitCount_0f7a4_11 : decode cJ6_bitCount_0f7a4 11 = .ok (.ldc_w 266, 3) := by decide +kernel
theorem dJ6_bitCount_0f7a4_14 : decode cJ6_bitCount_0f7a4 14 = .ok (.iand, 1) := by decide +kernel
theorem dJ6_bitCount_0f7a4_15 : decode cJ6_bitCount_0f7a4 15 = .ok (.iload_n 0, 1) := by decide +kernel
theorem dJ6_bitCount_0f7a4_16 : decode cJ6_bitCount_0f7a4 16 = .ok (.iconst 2, 1) := by decide +kernel
theorem dJ6_bitCount_0f7a4_17 : decode cJ6_bitCount_0f7a4 17 = .ok (.iushr, 1) := by decide +kernel
theorem dJ6_bitCount_0f7a4_18 : decode cJ6_bitCount_0f7a4 18 = .ok (.ldc_w 266, 3) := by decide +kernel
theorem dJ6_bitCount_0f7a4_21 : decode cJ6_bitCount_0f7a4 21 = .ok (.iand, 1) := by decide +kernel
theorem dJ6_bitCount_0f7a4_22 : decode cJ6_bitCount_0f7a4 22 = .ok (.iadd, 1) := by decide +kernel
theorem dJ6_bitCount_0f7a4_23 : decode cJ6_bitCount_0f7a4 23 = .ok (.istore_n 0, 1) := by decide +kernel
theorem dJ6_bitCount_0f7a4_24 : decode cJ6_bitCount_0f7a4 24 = .ok (.iload_n 0, 1) := by decide +kernel
theorem dJ6_bitCount_0f7a4_25 : decode cJ6_bitCount_0f7a4 25 = .ok (.iload_n 0, 1) := by decide +kernel
theorem dJ6_bitCount_0f7a4_26 : decode cJ6_bitCount_0f7a4 26 = .ok (.iconst 4, 1) := by decide +kernel
theorem dJ6_bitCount_0f7a4_27 : decode cJ6_bitCount_0f7a4 27 = .ok (.iushr, 1) := by decide +kernel
theorem dJ6_bitCount_0f7a4_28 : decode cJ6_bitCount_0f7a4 28 = .ok (.iadd, 1) := by decide +kernel
theorem dJ6_bitCount_0f7a4_29 : decode cJ6_bitCount_0f7a4 29 = .ok (.ldc_w 267, 3) := by decide +kernel
theorem dJ6_bitCount_0f7a4_32 : decode cJ6_bitCount_0f7a4 32 = .ok (.iand, 1) := by decide +kernel
theorem dJ6_bitCount_0f7a4_33 : decode cJ6_bitCount_0f7a4 33 = .ok (.istore_n 0, 1) := by decide +kernel
theorem dJ6_bitCount_0f7a4_34 : decode cJ6_bitCount_0f7a4 34 = .ok (.iload_n 0, 1) := by decide +kernel
theorem dJ6_bitCount_0f7a4_35 : decode cJ6_bitCount_0f7a4 35 = .ok (.iload_n 0, 1) := by decide +kernel
theorem dJ6_bitCount_0f7a4_36 : decode cJ6_bitCount_0f7a4 36 = .ok (.bipush 8, 2) := by decide +kernel
theorem dJ6_bitCount_0f7a4_38 : decode cJ6_bitCount_0f7a4 38 = .ok (.iushr, 1) := by decide +kernel
theorem dJ6_bitCount_0f7a4_39 : decode cJ6_bitCount_0f7a4 39 = .ok (.iadd, 1) := by decide +kernel
theorem dJ6_bitCount_0f7a4_40 : decode cJ6_bitCount_0f7a4 40 = .ok (.istore_n 0, 1) := by decide +kernel
theorem dJ6_bitCount_0f7a4_41 : decode cJ6_bitCount_0f7a4 41 = .ok (.iload_n 0, 1) := by decide +kernel
theorem dJ6_bitCount_0f7a4_42 : decode cJ6_bitCount_0f7a4 42 = .ok (.iload_n 0, 1) := by decide +kernel
theorem dJ6_bitCount_0f7a4_43 : decode cJ6_bitCount_0f7a4 43 = .ok (.bipush 16, 2) := by decide +kernel
theorem dJ6_bitCount_0f7a4_45 : decode cJ6_bitCount_0f7a4 45 = .ok (.iushr, 1) := by decide +kernel
theorem dJ6_bitCount_0f7a4_46 : decode cJ6_bitCount_0f7a4 46 = .ok (.iadd, 1) := by decide +kernel
theorem dJ6_bitCount_0f7a4_47 : decode cJ6_bitCount_0f7a4 47 = .ok (.istore_n 0, 1) := by decide +kernel
theorem dJ6_bitCount_0f7a4_48 : decode cJ6_bitCount_0f7a4 48 = .ok (.iload_n 0, 1) := by decide +kernel
theorem dJ6_bitCount_0f7a4_49 : decode cJ6_bitCount_0f7a4 49 = .ok (.bipush 63, 2) := by decide +kernel
theorem dJ6_bitCount_0f7a4_51 : decode cJ6_bitCount_0f7a4 51 = .ok (.iand, 1) := by decide +kernel
theorem dJ6_bitCount_0f7a4_52 : decode cJ6_bitCount_0f7a4 52 = .ok (.ireturn, 1) := by decide +kernel
theorem dJ9_min_7cf53_0 : decode cJ9_min_7cf53 0 = .ok (.iload_n 0, 1) := by decide +kernel
theorem dJ9_min_7cf53_1 : decode cJ9_min_7cf53 1 = .ok (.iload_n 1, 1) := by decide +kernel
theorem dJ9_min_7cf53_2 : decode cJ9_min_7cf53 2 = .ok (.if_icmp .gt 7, 3) := by decide +kernel
theorem dJ9_min_7cf53_5 : decode cJ9_min_7cf53 5 = .ok (.iload_n 0, 1) := by decide +kernel
theorem dJ9_min_7cf53_6 : decode cJ9_min_7cf53 6 = .ok (.goto 4, 3) := by decide +kernel
theorem dJ9_min_7cf53_9 : decode cJ9_min_7cf53 9 = .ok (.iload_n 1, 1) := by decide +kernel
theorem dJ9_min_7cf53_10 : decode cJ9_min_7cf53 10 = .ok (.ireturn, 1) := by decide +kernel
theorem dJ0_length_8abf5_0 : decode cJ0_length_8abf5 0 = .ok (.aload_n 0, 1) := by decide +kernel
theorem dJ0_length_8abf5_1 : decode cJ0_length_8abf5 1 = .ok (.getfield 9, 3) := by decide +kernel
theorem dJ0_length_8abf5_4 : decode cJ0_length_8abf5 4 = .ok (.arraylength, 1) := by decide +kernel
theorem dJ0_length_8abf5_5 : decode cJ0_length_8abf5 5 = .ok (.aload_n 0, 1) := by decide +kernel
theorem dJ0_length_8abf5_6 : decode cJ0_length_8abf5 6 = .ok (.invokevirtual 335, 3) := by decide +kernel
theorem dJ0_length_8abf5_9 : decode cJ0_length_8abf5 9 = .ok (.ishr, 1) := by decide +kernel
theorem dJ0_length_8abf5_10 : decode cJ0_length_8abf5 10 = .ok (.ireturn, 1) := by decide +kernel
theorem dJ0_charAt_5068e_0 : decode cJ0_charAt_5068e 0 = .ok (.aload_n 0, 1) := by decide +kernel
theorem dJ0_charAt_5068e_1 : decode cJ0_charAt_5068e 1 = .ok (.invokevirtual 492, 3) := by decide +kernel
theorem dJ0_charAt_5068e_4 : decode cJ0_charAt_5068e 4 = .ok (.ifCond .eq 12, 3) := by decide +kernel
theorem dJ0_charAt_5068e_7 : decode cJ0_charAt_5068e 7 = .ok (.aload_n 0, 1) := by decide +kernel
theorem dJ0_charAt_5068e_8 : decode cJ0_charAt_5068e 8 = .ok (.getfield 9, 3) := by decide +kernel
theorem dJ0_charAt_5068e_11 : decode cJ0_charAt_5068e 11 = .ok (.iload_n 1, 1) := by decide +kernel
theorem dJ0_charAt_5068e_12 : decode cJ0_charAt_5068e 12 = .ok (.invokestatic 495, 3) := by decide +kernel
theorem dJ0_charAt_5068e_15 : decode cJ0_charAt_5068e 15 = .ok (.ireturn, 1) := by decide +kernel
theorem dJ0_charAt_5068e_16 : decode cJ0_charAt_5068e 16 = .ok (.aload_n 0, 1) := by decide +kernel
theorem dJ0_charAt_5068e_17 : decode cJ0_charAt_5068e 17 = .ok (.getfield 9, 3) := by decide +kernel
theorem dJ0_charAt_5068e_20 : decode cJ0_charAt_5068e 20 = .ok (.iload_n 1, 1) := by decide +kernel
theorem dJ0_charAt_5068e_21 : decode cJ0_charAt_5068e 21 = .ok (.invokestatic 498, 3) := by decide +kernel
theorem dJ0_charAt_5068e_24 : decode cJ0_charAt_5068e 24 = .ok (.ireturn, 1) := by decide +kernel
theorem dJ0_coder_7d493_0 : decode cJ0_coder_7d493 0 = .ok (.getstatic 38, 3) := by decide +kernel
theorem dJ0_coder_7d493_3 : decode cJ0_coder_7d493 3 = .ok (.ifCond .eq 10, 3) := by decide +kernel
theorem dJ0_coder_7d493_6 : decode cJ0_coder_7d493 6 = .ok (.aload_n 0, 1) := by decide +kernel
theorem dJ0_coder_7d493_7 : decode cJ0_coder_7d493 7 = .ok (.getfield 15, 3) := by decide +kernel
theorem dJ0_coder_7d493_10 : decode cJ0_coder_7d493 10 = .ok (.goto 4, 3) := by decide +kernel
theorem dJ0_coder_7d493_13 : decode cJ0_coder_7d493 13 = .ok (.iconst 1, 1) := by decide +kernel
theorem dJ0_coder_7d493_14 : decode cJ0_coder_7d493 14 = .ok (.ireturn, 1) := by decide +kernel
theorem dJ0_isLatin1_aae02_0 : decode cJ0_isLatin1_aae02 0 = .ok (.getstatic 38, 3) := by decide +kernel
theorem dJ0_isLatin1_aae02_3 : decode cJ0_isLatin1_aae02 3 = .ok (.ifCond .eq 14, 3) := by decide +kernel
theorem dJ0_isLatin1_aae02_6 : decode cJ0_isLatin1_aae02 6 = .ok (.aload_n 0, 1) := by decide +kernel
theorem dJ0_isLatin1_aae02_7 : decode cJ0_isLatin1_aae02 7 = .ok (.getfield 15, 3) := by decide +kernel
theorem dJ0_isLatin1_aae02_10 : decode cJ0_isLatin1_aae02 10 = .ok (.ifCond .ne 7, 3) := by decide +kernel
theorem dJ0_isLatin1_aae02_13 : decode cJ0_isLatin1_aae02 13 = .ok (.iconst 1, 1) := by decide +kernel
theorem dJ0_isLatin1_aae02_14 : decode cJ0_isLatin1_aae02 14 = .ok (.goto 4, 3) := by decide +kernel
theorem dJ0_isLatin1_aae02_17 : decode cJ0_isLatin1_aae02 17 = .ok (.iconst 0, 1) := by decide +kernel
theorem dJ0_isLatin1_aae02_18 : decode cJ0_isLatin1_aae02 18 = .ok (.ireturn, 1) := by decide +kernel
theorem dJ0_checkIndex_df160_0 : decode cJ0_checkIndex_df160 0 = .ok (.iload_n 0, 1) := by decide +kernel
theorem dJ0_checkIndex_df160_1 : decode cJ0_checkIndex_df160 1 = .ok (.iload_n 1, 1) := by decide +kernel
theorem dJ0_checkIndex_df160_2 : decode cJ0_checkIndex_df160 2 = .ok (.getstatic 1053, 3) := by decide +kernel
theorem dJ0_checkIndex_df160_5 : decode cJ0_checkIndex_df160 5 = .ok (.invokestatic 1059, 3) := by decide +kernel
theorem dJ0_checkIndex_df160_8 : decode cJ0_checkIndex_df160 8 = .ok (.pop, 1) := by decide +kernel
theorem dJ0_checkIndex_df160_9 : decode cJ0_checkIndex_df160 9 = .ok (.return_, 1) := by decide +kernel
theorem dJ1_charAt_3b067_0 : decode cJ1_charAt_3b067 0 = .ok (.iload_n 1, 1) := by decide +kernel
theorem dJ1_charAt_3b067_1 : decode cJ1_charAt_3b067 1 = .ok (.aload_n 0, 1) := by decide +kernel
theorem dJ1_charAt_3b067_2 : decode cJ1_charAt_3b067 2 = .ok (.arraylength, 1) := by decide +kernel
theorem dJ1_charAt_3b067_3 : decode cJ1_charAt_3b067 3 = .ok (.invokestatic 9, 3) := by decide +kernel
theorem dJ1_charAt_3b067_6 : decode cJ1_charAt_3b067 6 = .ok (.aload_n 0, 1) := by decide +kernel
theorem dJ1_charAt_3b067_7 : decode cJ1_charAt_3b067 7 = .ok (.iload_n 1, 1) := by decide +kernel
theorem dJ1_charAt_3b067_8 : decode cJ1_charAt_3b067 8 = .ok (.baload, 1) := by decide +kernel
theorem dJ1_charAt_3b067_9 : decode cJ1_charAt_3b067 9 = .ok (.sipush 255, 3) := by decide +kernel
theorem dJ1_charAt_3b067_12 : decode cJ1_charAt_3b067 12 = .ok (.iand, 1) := by decide +kernel
theorem dJ1_charAt_3b067_13 : decode cJ1_charAt_3b067 13 = .ok (.i2c, 1) := by decide +kernel
theorem dJ1_charAt_3b067_14 : decode cJ1_charAt_3b067 14 = .ok (.ireturn, 1) := by decide +kernel
theorem dJ2_getChar_3b067_0 : decode cJ2_getChar_3b067 0 = .ok (.getstatic 44, 3) := by decide +kernel
theorem dJ2_getChar_3b067_3 : decode cJ2_getChar_3b067 3 = .ok (.ifCond .ne 25, 3) := by decide +kernel
theorem dJ2_getChar_3b067_6 : decode cJ2_getChar_3b067 6 = .ok (.iload_n 1, 1) := by decide +kernel
theorem dJ2_getChar_3b067_7 : decode cJ2_getChar_3b067 7 = .ok (.ifCond .lt 11, 3) := by decide +kernel
theorem dJ2_getChar_3b067_10 : decode cJ2_getChar_3b067 10 = .ok (.iload_n 1, 1) := by decide +kernel
theorem dJ2_getChar_3b067_11 : decode cJ2_getChar_3b067 11 = .ok (.aload_n 0, 1) := by decide +kernel
theorem dJ2_getChar_3b067_12 : decode cJ2_getChar_3b067 12 = .ok (.invokestatic 48, 3) := by decide +kernel
theorem dJ2_getChar_3b067_15 : decode cJ2_getChar_3b067 15 = .ok (.if_icmp .lt 13, 3) := by decide +kernel
theorem dJ2_getChar_3b067_18 : decode cJ2_getChar_3b067 18 = .ok (.new 52, 3) := by decide +kernel
theorem dJ2_getChar_3b067_21 : decode cJ2_getChar_3b067 21 = .ok (.dup, 1) := by decide +kernel
theorem dJ2_getChar_3b067_22 : decode cJ2_getChar_3b067 22 = .ok (.ldc 54, 2) := by decide +kernel
theorem dJ2_getChar_3b067_24 : decode cJ2_getChar_3b067 24 = .ok (.invokespecial 56, 3) := by decide +kernel
theorem dJ2_getChar_3b067_27 : decode cJ2_getChar_3b067 27 = .ok (.athrow, 1) := by decide +kernel
theorem dJ2_getChar_3b067_28 : decode cJ2_getChar_3b067 28 = .ok (.iload_n 1, 1) := by decide +kernel
theorem dJ2_getChar_3b067_29 : decode cJ2_getChar_3b067 29 = .ok (.iconst 1, 1) := by decide +kernel
theorem dJ2_getChar_3b067_30 : decode cJ2_getChar_3b067 30 = .ok (.ishl, 1) := by decide +kernel
theorem dJ2_getChar_3b067_31 : decode cJ2_getChar_3b067 31 = .ok (.istore_n 1, 1) := by decide +kernel
theorem dJ2_getChar_3b067_32 : decode cJ2_getChar_3b067 32 = .ok (.aload_n 0, 1) := by decide +kernel
theorem dJ2_getChar_3b067_33 : decode cJ2_getChar_3b067 33 = .ok (.iload_n 1, 1) := by decide +kernel
theorem dJ2_getChar_3b067_34 : decode cJ2_getChar_3b067 34 = .ok (.iinc 1 1, 3) := by decide +kernel
theorem dJ2_getChar_3b067_37 : decode cJ2_getChar_3b067 37 = .ok (.baload, 1) := by decide +kernel
theorem dJ2_getChar_3b067_38 : decode cJ2_getChar_3b067 38 = .ok (.sipush 255, 3) := by decide +kernel
theorem dJ2_getChar_3b067_41 : decode cJ2_getChar_3b067 41 = .ok (.iand, 1) := by decide +kernel
theorem dJ2_getChar_3b067_42 : decode cJ2_getChar_3b067 42 = .ok (.getstatic 59, 3) := by decide +kernel
theorem dJ2_getChar_3b067_45 : decode cJ2_getChar_3b067 45 = .ok (.ishl, 1) := by decide +kernel
theorem dJ2_getChar_3b067_46 : decode cJ2_getChar_3b067 46 = .ok (.aload_n 0, 1) := by decide +kernel
theorem dJ2_getChar_3b067_47 : decode cJ2_getChar_3b067 47 = .ok (.iload_n 1, 1) := by decide +kernel
theorem dJ2_getChar_3b067_48 : decode cJ2_getChar_3b067 48 = .ok (.baload, 1) := by decide +kernel
theorem dJ2_getChar_3b067_49 : decode cJ2_getChar_3b067 49 = .ok (.sipush 255, 3) := by decide +kernel
theorem dJ2_getChar_3b067_52 : decode cJ2_getChar_3b067 52 = .ok (.iand, 1) := by decide +kernel
theorem dJ2_getChar_3b067_53 : decode cJ2_getChar_3b067 53 = .ok (.getstatic 63, 3) := by decide +kernel
theorem dJ2_getChar_3b067_56 : decode cJ2_getChar_3b067 56 = .ok (.ishl, 1) := by decide +kernel
theorem dJ2_getChar_3b067_57 : decode cJ2_getChar_3b067 57 = .ok (.ior, 1) := by decide +kernel
theorem dJ2_getChar_3b067_58 : decode cJ2_getChar_3b067 58 = .ok (.i2c, 1) := by decide +kernel
theorem dJ2_getChar_3b067_59 : decode cJ2_getChar_3b067 59 = .ok (.ireturn, 1) := by decide +kernel
theorem dJ2_length_9d52b_0 : decode cJ2_length_9d52b 0 = .ok (.aload_n 0, 1) := by decide +kernel
theorem dJ2_length_9d52b_1 : decode cJ2_length_9d52b 1 = .ok (.arraylength, 1) := by decide +kernel
theorem dJ2_length_9d52b_2 : decode cJ2_length_9d52b 2 = .ok (.iconst 1, 1) := by decide +kernel
theorem dJ2_length_9d52b_3 : decode cJ2_length_9d52b 3 = .ok (.ishr, 1) := by decide +kernel
theorem dJ2_length_9d52b_4 : decode cJ2_length_9d52b 4 = .ok (.ireturn, 1) := by decide +kernel
theorem dJ2_charAt_3b067_0 : decode cJ2_charAt_3b067 0 = .ok (.iload_n 1, 1) := by decide +kernel
theorem dJ2_charAt_3b067_1 : decode cJ2_charAt_3b067 1 = .ok (.aload_n 0, 1) := by decide +kernel
theorem dJ2_charAt_3b067_2 : decode cJ2_charAt_3b067 2 = .ok (.invokestatic 67, 3) := by decide +kernel
theorem dJ2_charAt_3b067_5 : decode cJ2_charAt_3b067 5 = .ok (.aload_n 0, 1) := by decide +kernel
theorem dJ2_charAt_3b067_6 : decode cJ2_charAt_3b067 6 = .ok (.iload_n 1, 1) := by decide +kernel
theorem dJ2_charAt_3b067_7 : decode cJ2_charAt_3b067 7 = .ok (.invokestatic 71, 3) := by decide +kernel
theorem dJ2_charAt_3b067_10 : decode cJ2_charAt_3b067 10 = .ok (.ireturn, 1) := by decide +kernel
theorem dJ2_checkIndex_2214a_0 : decode cJ2_checkIndex_2214a 0 = .ok (.iload_n 0, 1) := by decide +kernel
theorem dJ2_checkIndex_2214a_1 : decode cJ2_checkIndex_2214a 1 = .ok (.aload_n 1, 1) := by decide +kernel
theorem dJ2_checkIndex_2214a_2 : decode cJ2_checkIndex_2214a 2 = .ok (.invokestatic 48, 3) := by decide +kernel
theorem dJ2_checkIndex_2214a_5 : decode cJ2_checkIndex_2214a 5 = .ok (.invokestatic 414, 3) := by decide +kernel
theorem dJ2_checkIndex_2214a_8 : decode cJ2_checkIndex_2214a 8 = .ok (.return_, 1) := by decide +kernel
theorem dJ3_checkIndex_8e157_0 : decode cJ3_checkIndex_8e157 0 = .ok (.iload_n 0, 1) := by decide +kernel
theorem dJ3_checkIndex_8e157_1 : decode cJ3_checkIndex_8e157 1 = .ok (.ifCond .lt 8, 3) := by decide +kernel
theorem dJ3_checkIndex_8e157_4 : decode cJ3_checkIndex_8e157 4 = .ok (.iload_n 0, 1) := by decide +kernel
theorem dJ3_checkIndex_8e157_5 : decode cJ3_checkIndex_8e157 5 = .ok (.iload_n 1, 1) := by decide +kernel
theorem dJ3_checkIndex_8e157_6 : decode cJ3_checkIndex_8e157 6 = .ok (.if_icmp .lt 10, 3) := by decide +kernel
theorem dJ3_checkIndex_8e157_9 : decode cJ3_checkIndex_8e157 9 = .ok (.aload_n 2, 1) := by decide +kernel
theorem dJ3_checkIndex_8e157_10 : decode cJ3_checkIndex_8e157 10 = .ok (.iload_n 0, 1) := by decide +kernel
theorem dJ3_checkIndex_8e157_11 : decode cJ3_checkIndex_8e157 11 = .ok (.iload_n 1, 1) := by decide +kernel
theorem dJ3_checkIndex_8e157_12 : decode cJ3_checkIndex_8e157 12 = .ok (.invokestatic 95, 3) := by decide +kernel
theorem dJ3_checkIndex_8e157_15 : decode cJ3_checkIndex_8e157 15 = .ok (.athrow, 1) := by decide +kernel
theorem dJ3_checkIndex_8e157_16 : decode cJ3_checkIndex_8e157 16 = .ok (.iload_n 0, 1) := by decide +kernel
theorem dJ3_checkIndex_8e157_17 : decode cJ3_checkIndex_8e157 17 = .ok (.ireturn, 1) := by decide +kernel
end
section
theorem dX12_init_0 : decode cX12_init 0 = .ok (.aload_n 0, 1) := by decide +kernel
theorem dX12_init_1 : decode cX12_init 1 = .ok (.invokespecial 3, 3) := by decide +kernel
theorem dX12_init_4 : decode cX12_init 4 = .ok (.aload_n 0, 1) := by decide +kernel
theorem dX12_init_5 : decode cX12_init 5 = .ok (.bipush 106, 2) := by decide +kernel
theorem dX12_init_7 : decode cX12_init 7 = .ok (.newarray .int, 2) := by decide +kernel
theorem dX12_init_9 : decode cX12_init 9 = .ok (.putfield 9, 3) := by decide +kernel
theorem dX12_init_12 : decode cX12_init 12 = .ok (.aload_n 0, 1) := by decide +kernel
theorem dX12_init_13 : decode cX12_init 13 = .ok (.bipush 106, 2) := by decide +kernel
theorem dX12_init_15 : decode cX12_init 15 = .ok (.newarray .int, 2) := by decide +kernel
theorem dX12_init_17 : decode cX12_init 17 = .ok (.putfield 13, 3) := by decide +kernel
theorem dX12_init_20 : decode cX12_init 20 = .ok (.aload_n 0, 1) := by decide +kernel
theorem dX12_init_21 : decode cX12_init 21 = .ok (.bipush 106, 2) := by decide +kernel
theorem dX12_init_23 : decode cX12_init 23 = .ok (.newarray .int, 2) := by decide +kernel
theorem dX12_init_25 : decode cX12_init 25 = .ok (.putfield 16, 3) := by decide +kernel
theorem dX12_init_28 : decode cX12_init 28 = .ok (.aload_n 0, 1) := by decide +kernel
theorem dX12_init_29 : decode cX12_init 29 = .ok (.bipush 7, 2) := by decide +kernel
theorem dX12_init_31 : decode cX12_init 31 = .ok (.newarray .int, 2) := by decide +kernel
theorem dX12_init_33 : decode cX12_init 33 = .ok (.putfield 19, 3) := by decide +kernel
theorem dX12_init_36 : decode cX12_init 36 = .ok (.aload_n 0, 1) := by decide +kernel
theorem dX12_init_37 : decode cX12_init 37 = .ok (.bipush 120, 2) := by decide +kernel
theorem dX12_init_39 : decode cX12_init 39 = .ok (.newarray .int, 2) := by decide +kernel
theorem dX12_init_41 : decode cX12_init 41 = .ok (.putfield 22, 3) := by decide +kernel
theorem dX12_init_44 : decode cX12_init 44 = .ok (.aload_n 0, 1) := by decide +kernel
theorem dX12_init_45 : decode cX12_init 45 = .ok (.iconst 4, 1) := by decide +kernel
theorem dX12_init_46 : decode cX12_init 46 = .ok (.newarray .int, 2) := by decide +kernel
theorem dX12_init_48 : decode cX12_init 48 = .ok (.putfield 25, 3) := by decide +kernel
theorem dX12_init_51 : decode cX12_init 51 = .ok (.aload_n 0, 1) := by decide +kernel
theorem dX12_init_52 : decode cX12_init 52 = .ok (.iconst 4, 1) := by decide +kernel
theorem dX12_init_53 : decode cX12_init 53 = .ok (.newarray .int, 2) := by decide +kernel
theorem dX12_init_55 : decode cX12_init 55 = .ok (.putfield 28, 3) := by decide +kernel
theorem dX12_init_58 : decode cX12_init 58 = .ok (.aload_n 0, 1) := by decide +kernel
theorem dX12_init_59 : decode cX12_init 59 = .ok (.sipush 160, 3) := by decide +kernel
theorem dX12_init_62 : decode cX12_init 62 = .ok (.newarray .long, 2) := by decide +kernel
theorem dX12_init_64 : decode cX12_init 64 = .ok (.putfield 31, 3) := by decide +kernel
theorem dX12_init_67 : decode cX12_init 67 = .ok (.aload_n 0, 1) := by decide +kernel
theorem dX12_init_68 : decode cX12_init 68 = .ok (.getfield 9, 3) := by decide +kernel
theorem dX12_init_71 : decode cX12_init 71 = .ok (.iconst 1, 1) := by decide +kernel
theorem dX12_init_72 : decode cX12_init 72 = .ok (.iconst 3, 1) := by decide +kernel
theorem dX12_init_73 : decode cX12_init 73 = .ok (.iastore, 1) := by decide +kernel
theorem dX12_init_74 : decode cX12_init 74 = .ok (.return_, 1) := by decide +kernel
theorem dX12_finds_0 : decode cX12_finds 0 = .ok (.aload_n 0, 1) := by decide +kernel
theorem dX12_finds_1 : decode cX12_finds 1 = .ok (.getfield 19, 3) := by decide +kernel
theorem dX12_finds_4 : decode cX12_finds 4 = .ok (.ldc 35, 2) := by decide +kernel
theorem dX12_finds_6 : decode cX12_finds 6 = .ok (.iload_n 1, 1) := by decide +kernel
theorem dX12_finds_7 : decode cX12_finds 7 = .ok (.isub, 1) := by decide +kernel
theorem dX12_finds_8 : decode cX12_finds 8 = .ok (.dup2, 1) := by decide +kernel
theorem dX12_finds_9 : decode cX12_finds 9 = .ok (.iaload, 1) := by decide +kernel
theorem dX12_finds_10 : decode cX12_finds 10 = .ok (.iconst 1, 1) := by decide +kernel
theorem dX12_finds_11 : decode cX12_finds 11 = .ok (.iadd, 1) := by decide +kernel
theorem dX12_finds_12 : decode cX12_finds 12 = .ok (.iastore, 1) := by decide +kernel
theorem dX12_finds_13 : decode cX12_finds 13 = .ok (.iload_n 1, 1) := by decide +kernel
theorem dX12_finds_14 : decode cX12_finds 14 = .ok (.ireturn, 1) := by decide +kernel
theorem dX12_orNone_0 : decode cX12_orNone 0 = .ok (.iload_n 1, 1) := by decide +kernel
theorem dX12_orNone_1 : decode cX12_orNone 1 = .ok (.ifCond .ge 12, 3) := by decide +kernel
theorem dX12_orNone_4 : decode cX12_orNone 4 = .ok (.aload_n 0, 1) := by decide +kernel
theorem dX12_orNone_5 : decode cX12_orNone 5 = .ok (.ldc 36, 2) := by decide +kernel
theorem dX12_orNone_7 : decode cX12_orNone 7 = .ok (.invokevirtual 37, 3) := by decide +kernel
theorem dX12_orNone_10 : decode cX12_orNone 10 = .ok (.goto 4, 3) := by decide +kernel
theorem dX12_orNone_13 : decode cX12_orNone 13 = .ok (.iload_n 1, 1) := by decide +kernel
theorem dX12_orNone_14 : decode cX12_orNone 14 = .ok (.ireturn, 1) := by decide +kernel
theorem dX12_in_0 : decode cX12_in 0 = .ok (.lload_n 0, 1) := by decide +kernel
theorem dX12_in_1 : decode cX12_in 1 = .ok (.iload_n 2, 1) := by decide +kernel
theorem dX12_in_2 : decode cX12_in 2 = .ok (.i2l, 1) := by decide +kernel
theorem dX12_in_3 : decode cX12_in 3 = .ok (.lcmp, 1) := by decide +kernel
theorem dX12_in_4 : decode cX12_in 4 = .ok (.ifCond .lt 14, 3) := by decide +kernel
theorem dX12_in_7 : decode cX12_in 7 = .ok (.lload_n 0, 1) := by decide +kernel
theorem dX12_in_8 : decode cX12_in 8 = .ok (.iload_n 3, 1) := by decide +kernel
theorem dX12_in_9 : decode cX12_in 9 = .ok (.i2l, 1) := by decide +kernel
theorem dX12_in_10 : decode cX12_in 10 = .ok (.lcmp, 1) := by decide +kernel
theorem dX12_in_11 : decode cX12_in 11 = .ok (.ifCond .gt 7, 3) := by decide +kernel
theorem dX12_in_14 : decode cX12_in 14 = .ok (.iconst 1, 1) := by decide +kernel
theorem dX12_in_15 : decode cX12_in 15 = .ok (.goto 4, 3) := by decide +kernel
theorem dX12_in_18 : decode cX12_in 18 = .ok (.iconst 0, 1) := by decide +kernel
theorem dX12_in_19 : decode cX12_in 19 = .ok (.ireturn, 1) := by decide +kernel
theorem dX12_held_0 : decode cX12_held 0 = .ok (.iload_n 0, 1) := by decide +kernel
theorem dX12_held_1 : decode cX12_held 1 = .ok (.iload_n 1, 1) := by decide +kernel
theorem dX12_held_2 : decode cX12_held 2 = .ok (.if_icmp .ge 7, 3) := by decide +kernel
theorem dX12_held_5 : decode cX12_held 5 = .ok (.iload_n 1, 1) := by decide +kernel
theorem dX12_held_6 : decode cX12_held 6 = .ok (.goto 13, 3) := by decide +kernel
theorem dX12_held_9 : decode cX12_held 9 = .ok (.iload_n 0, 1) := by decide +kernel
theorem dX12_held_10 : decode cX12_held 10 = .ok (.iload_n 2, 1) := by decide +kernel
theorem dX12_held_11 : decode cX12_held 11 = .ok (.if_icmp .le 7, 3) := by decide +kernel
theorem dX12_held_14 : decode cX12_held 14 = .ok (.iload_n 2, 1) := by decide +kernel
theorem dX12_held_15 : decode cX12_held 15 = .ok (.goto 4, 3) := by decide +kernel
theorem dX12_held_18 : decode cX12_held 18 = .ok (.iload_n 0, 1) := by decide +kernel
theorem dX12_held_19 : decode cX12_held 19 = .ok (.ireturn, 1) := by decide +kernel
theorem dX12_copyAll_0 : decode cX12_copyAll 0 = .ok (.iconst 0, 1) := by decide +kernel
theorem dX12_copyAll_1 : decode cX12_copyAll 1 = .ok (.istore_n 2, 1) := by decide +kernel
theorem dX12_copyAll_2 : decode cX12_copyAll 2 = .ok (.iload_n 2, 1) := by decide +kernel
theorem dX12_copyAll_3 : decode cX12_copyAll 3 = .ok (.bipush 106, 2) := by decide +kernel
theorem dX12_copyAll_5 : decode cX12_copyAll 5 = .ok (.if_icmp .ge 15, 3) := by decide +kernel
theorem dX12_copyAll_8 : decode cX12_copyAll 8 = .ok (.aload_n 1, 1) := by decide +kernel
theorem dX12_copyAll_9 : decode cX12_copyAll 9 = .ok (.iload_n 2, 1) := by decide +kernel
theorem dX12_copyAll_10 : decode cX12_copyAll 10 = .ok (.aload_n 0, 1) := by decide +kernel
theorem dX12_copyAll_11 : decode cX12_copyAll 11 = .ok (.iload_n 2, 1) := by decide +kernel
theorem dX12_copyAll_12 : decode cX12_copyAll 12 = .ok (.iaload, 1) := by decide +kernel
theorem dX12_copyAll_13 : decode cX12_copyAll 13 = .ok (.iastore, 1) := by decide +kernel
theorem dX12_copyAll_14 : decode cX12_copyAll 14 = .ok (.iinc 2 1, 3) := by decide +kernel
theorem dX12_copyAll_17 : decode cX12_copyAll 17 = .ok (.goto (-15), 3) := by decide +kernel
theorem dX12_copyAll_20 : decode cX12_copyAll 20 = .ok (.return_, 1) := by decide +kernel
theorem dX12_bits_0 : decode cX12_bits 0 = .ok (.iconst 0, 1) := by decide +kernel
theorem dX12_bits_1 : decode cX12_bits 1 = .ok (.istore_n 1, 1) := by decide +kernel
theorem dX12_bits_2 : decode cX12_bits 2 = .ok (.iload_n 0, 1) := by decide +kernel
theorem dX12_bits_3 : decode cX12_bits 3 = .ok (.istore_n 2, 1) := by decide +kernel
theorem dX12_bits_4 : decode cX12_bits 4 = .ok (.iload_n 2, 1) := by decide +kernel
theorem dX12_bits_5 : decode cX12_bits 5 = .ok (.ifCond .eq 15, 3) := by decide +kernel
theorem dX12_bits_8 : decode cX12_bits 8 = .ok (.iinc 1 1, 3) := by decide +kernel
theorem dX12_bits_11 : decode cX12_bits 11 = .ok (.iload_n 2, 1) := by decide +kernel
theorem dX12_bits_12 : decode cX12_bits 12 = .ok (.iload_n 2, 1) := by decide +kernel
theorem dX12_bits_13 : decode cX12_bits 13 = .ok (.iconst 1, 1) := by decide +kernel
theorem dX12_bits_14 : decode cX12_bits 14 = .ok (.isub, 1) := by decide +kernel
theorem dX12_bits_15 : decode cX12_bits 15 = .ok (.iand, 1) := by decide +kernel
theorem dX12_bits_16 : decode cX12_bits 16 = .ok (.istore_n 2, 1) := by decide +kernel
theorem dX12_bits_17 : decode cX12_bits 17 = .ok (.goto (-13), 3) := by decide +kernel
theorem dX12_bits_20 : decode cX12_bits 20 = .ok (.iload_n 1, 1) := by decide +kernel
theorem dX12_bits_21 : decode cX12_bits 21 = .ok (.ireturn, 1) := by decide +kernel
theorem dX12_becomes_0 : decode cX12_becomes 0 = .ok (.aload_n 0, 1) := by decide +kernel
theorem dX12_becomes_1 : decode cX12_becomes 1 = .ok (.getfield 9, 3) := by decide +kernel
theorem dX12_becomes_4 : decode cX12_becomes 4 = .ok (.iload_n 1, 1) := by decide +kernel
theorem dX12_becomes_5 : decode cX12_becomes 5 = .ok (.iaload, 1) := by decide +kernel
theorem dX12_becomes_6 : decode cX12_becomes 6 = .ok (.istore_n 3, 1) := by decide +kernel
theorem dX12_becomes_7 : decode cX12_becomes 7 = .ok (.aload_n 0, 1) := by decide +kernel
theorem dX12_becomes_8 : decode cX12_becomes 8 = .ok (.getfield 9, 3) := by decide +kernel
theorem dX12_becomes_11 : decode cX12_becomes 11 = .ok (.iload_n 1, 1) := by decide +kernel
theorem dX12_becomes_12 : decode cX12_becomes 12 = .ok (.iload_n 2, 1) := by decide +kernel
theorem dX12_becomes_13 : decode cX12_becomes 13 = .ok (.iastore, 1) := by decide +kernel
theorem dX12_becomes_14 : decode cX12_becomes 14 = .ok (.iload_n 3, 1) := by decide +kernel
theorem dX12_becomes_15 : decode cX12_becomes 15 = .ok (.ireturn, 1) := by decide +kernel
theorem dX12_isSlip_0 : decode cX12_isSlip 0 = .ok (.iload_n 1, 1) := by decide +kernel
theorem dX12_isSlip_1 : decode cX12_isSlip 1 = .ok (.i2l, 1) := by decide +kernel
theorem dX12_isSlip_2 : decode cX12_isSlip 2 = .ok (.iconst 0, 1) := by decide +kernel
theorem dX12_isSlip_3 : decode cX12_isSlip 3 = .ok (.aload_n 0, 1) := by decide +kernel
theorem dX12_isSlip_4 : decode cX12_isSlip 4 = .ok (.getfield 9, 3) := by decide +kernel
theorem dX12_isSlip_7 : decode cX12_isSlip 7 = .ok (.iconst 2, 1) := by decide +kernel
theorem dX12_isSlip_8 : decode cX12_isSlip 8 = .ok (.iaload, 1) := by decide +kernel
theorem dX12_isSlip_9 : decode cX12_isSlip 9 = .ok (.iconst 1, 1) := by decide +kernel
theorem dX12_isSlip_10 : decode cX12_isSlip 10 = .ok (.isub, 1) := by decide +kernel
theorem dX12_isSlip_11 : decode cX12_isSlip 11 = .ok (.invokestatic 41, 3) := by decide +kernel
theorem dX12_isSlip_14 : decode cX12_isSlip 14 = .ok (.ireturn, 1) := by decide +kernel
theorem dX12_isPerson_0 : decode cX12_isPerson 0 = .ok (.iload_n 1, 1) := by decide +kernel
theorem dX12_isPerson_1 : decode cX12_isPerson 1 = .ok (.i2l, 1) := by decide +kernel
theorem dX12_isPerson_2 : decode cX12_isPerson 2 = .ok (.iconst 0, 1) := by decide +kernel
theorem dX12_isPerson_3 : decode cX12_isPerson 3 = .ok (.aload_n 0, 1) := by decide +kernel
theorem dX12_isPerson_4 : decode cX12_isPerson 4 = .ok (.getfield 9, 3) := by decide +kernel
theorem dX12_isPerson_7 : decode cX12_isPerson 7 = .ok (.iconst 3, 1) := by decide +kernel
theorem dX12_isPerson_8 : decode cX12_isPerson 8 = .ok (.iaload, 1) := by decide +kernel
theorem dX12_isPerson_9 : decode cX12_isPerson 9 = .ok (.iconst 1, 1) := by decide +kernel
theorem dX12_isPerson_10 : decode cX12_isPerson 10 = .ok (.isub, 1) := by decide +kernel
theorem dX12_isPerson_11 : decode cX12_isPerson 11 = .ok (.invokestatic 41, 3) := by decide +kernel
theorem dX12_isPerson_14 : decode cX12_isPerson 14 = .ok (.ireturn, 1) := by decide +kernel
theorem dX12_it_0 : decode cX12_it 0 = .ok (.aload_n 0, 1) := by decide +kernel
theorem dX12_it_1 : decode cX12_it 1 = .ok (.getfield 9, 3) := by decide +kernel
theorem dX12_it_4 : decode cX12_it 4 = .ok (.iconst 4, 1) := by decide +kernel
theorem dX12_it_5 : decode cX12_it 5 = .ok (.iconst 3, 1) := by decide +kernel
theorem dX12_it_6 : decode cX12_it 6 = .ok (.iload_n 1, 1) := by decide +kernel
theorem dX12_it_7 : decode cX12_it 7 = .ok (.imul, 1) := by decide +kernel
theorem dX12_it_8 : decode cX12_it 8 = .ok (.iadd, 1) := by decide +kernel
theorem dX12_it_9 : decode cX12_it 9 = .ok (.iload_n 2, 1) := by decide +kernel
theorem dX12_it_10 : decode cX12_it 10 = .ok (.iadd, 1) := by decide +kernel
theorem dX12_it_11 : decode cX12_it 11 = .ok (.iaload, 1) := by decide +kernel
theorem dX12_it_12 : decode cX12_it 12 = .ok (.ireturn, 1) := by decide +kernel
theorem dX12_put_0 : decode cX12_put 0 = .ok (.aload_n 0, 1) := by decide +kernel
theorem dX12_put_1 : decode cX12_put 1 = .ok (.getfield 9, 3) := by decide +kernel
theorem dX12_put_4 : decode cX12_put 4 = .ok (.iconst 4, 1) := by decide +kernel
theorem dX12_put_5 : decode cX12_put 5 = .ok (.iconst 3, 1) := by decide +kernel
theorem dX12_put_6 : decode cX12_put 6 = .ok (.iload_n 1, 1) := by decide +kernel
theorem dX12_put_7 : decode cX12_put 7 = .ok (.imul, 1) := by decide +kernel
theorem dX12_put_8 : decode cX12_put 8 = .ok (.iadd, 1) := by decide +kernel
theorem dX12_put_9 : decode cX12_put 9 = .ok (.iload_n 2, 1) := by decide +kernel
theorem dX12_put_10 : decode cX12_put 10 = .ok (.iadd, 1) := by decide +kernel
theorem dX12_put_11 : decode cX12_put 11 = .ok (.iload_n 3, 1) := by decide +kernel
theorem dX12_put_12 : decode cX12_put 12 = .ok (.iastore, 1) := by decide +kernel
theorem dX12_put_13 : decode cX12_put 13 = .ok (.return_, 1) := by decide +kernel
theorem dX12_who_0 : decode cX12_who 0 = .ok (.aload_n 0, 1) := by decide +kernel
theorem dX12_who_1 : decode cX12_who 1 = .ok (.getfield 9, 3) := by decide +kernel
theorem dX12_who_4 : decode cX12_who 4 = .ok (.bipush 34, 2) := by decide +kernel
theorem dX12_who_6 : decode cX12_who 6 = .ok (.bipush 12, 2) := by decide +kernel
theorem dX12_who_8 : decode cX12_who 8 = .ok (.iload_n 1, 1) := by decide +kernel
theorem dX12_who_9 : decode cX12_who 9 = .ok (.imul, 1) := by decide +kernel
theorem dX12_who_10 : decode cX12_who 10 = .ok (.iadd, 1) := by decide +kernel
theorem dX12_who_11 : decode cX12_who 11 = .ok (.iload_n 2, 1) := by decide +kernel
theorem dX12_who_12 : decode cX12_who 12 = .ok (.iadd, 1) := by decide +kernel
theorem dX12_who_13 : decode cX12_who 13 = .ok (.iaload, 1) := by decide +kernel
theorem dX12_who_14 : decode cX12_who 14 = .ok (.ireturn, 1) := by decide +kernel
theorem dX12_wish_0 : decode cX12_wish 0 = .ok (.aload_n 0, 1) := by decide +kernel
theorem dX12_wish_1 : decode cX12_wish 1 = .ok (.iload_n 1, 1) := by decide +kernel
theorem dX12_wish_2 : decode cX12_wish 2 = .ok (.iconst 2, 1) := by decide +kernel
theorem dX12_wish_3 : decode cX12_wish 3 = .ok (.iload_n 2, 1) := by decide +kernel
theorem dX12_wish_4 : decode cX12_wish 4 = .ok (.iadd, 1) := by decide +kernel
theorem dX12_wish_5 : decode cX12_wish 5 = .ok (.invokevirtual 45, 3) := by decide +kernel
theorem dX12_wish_8 : decode cX12_wish 8 = .ok (.ireturn, 1) := by decide +kernel
theorem dX12_mayTouch_0 : decode cX12_mayTouch 0 = .ok (.aload_n 0, 1) := by decide +kernel
theorem dX12_mayTouch_1 : decode cX12_mayTouch 1 = .ok (.iload_n 2, 1) := by decide +kernel
theorem dX12_mayTouch_2 : decode cX12_mayTouch 2 = .ok (.iconst 1, 1) := by decide +kernel
theorem dX12_mayTouch_3 : decode cX12_mayTouch 3 = .ok (.invokevirtual 49, 3) := by decide +kernel
theorem dX12_mayTouch_6 : decode cX12_mayTouch 6 = .ok (.istore_n 3, 1) := by decide +kernel
theorem dX12_mayTouch_7 : decode cX12_mayTouch 7 = .ok (.iload_n 3, 1) := by decide +kernel
theorem dX12_mayTouch_8 : decode cX12_mayTouch 8 = .ok (.aload_n 0, 1) := by decide +kernel
theorem dX12_mayTouch_9 : decode cX12_mayTouch 9 = .ok (.getfield 9, 3) := by decide +kernel
theorem dX12_mayTouch_12 : decode cX12_mayTouch 12 = .ok (.iconst 1, 1) := by decide +kernel
theorem dX12_mayTouch_13 : decode cX12_mayTouch 13 = .ok (.iaload, 1) := by decide +kernel
theorem dX12_mayTouch_14 : decode cX12_mayTouch 14 = .ok (.if_icmp .ge 7, 3) := by decide +kernel
theorem dX12_mayTouch_17 : decode cX12_mayTouch 17 = .ok (.iconst 1, 1) := by decide +kernel
theorem dX12_mayTouch_18 : decode cX12_mayTouch 18 = .ok (.goto 4, 3) := by decide +kernel
theorem dX12_mayTouch_21 : decode cX12_mayTouch 21 = .ok (.iconst 0, 1) := by decide +kernel
theorem dX12_mayTouch_22 : decode cX12_mayTouch 22 = .ok (.istore 4, 2) := by decide +kernel
theorem dX12_mayTouch_24 : decode cX12_mayTouch 24 = .ok (.iload 4, 2) := by decide +kernel
theorem dX12_mayTouch_26 : decode cX12_mayTouch 26 = .ok (.ifCond .eq 11, 3) := by decide +kernel
theorem dX12_mayTouch_29 : decode cX12_mayTouch 29 = .ok (.iload_n 3, 1) := by decide +kernel
theorem dX12_mayTouch_30 : decode cX12_mayTouch 30 = .ok (.ifCond .ne 7, 3) := by decide +kernel
theorem dX12_mayTouch_33 : decode cX12_mayTouch 33 = .ok (.iconst 1, 1) := by decide +kernel
theorem dX12_mayTouch_34 : decode cX12_mayTouch 34 = .ok (.goto 4, 3) := by decide +kernel
theorem dX12_mayTouch_37 : decode cX12_mayTouch 37 = .ok (.iconst 0, 1) := by decide +kernel
theorem dX12_mayTouch_38 : decode cX12_mayTouch 38 = .ok (.istore 5, 2) := by decide +kernel
theorem dX12_mayTouch_40 : decode cX12_mayTouch 40 = .ok (.aload_n 0, 1) := by decide +kernel
theorem dX12_mayTouch_41 : decode cX12_mayTouch 41 = .ok (.iload_n 2, 1) := by decide +kernel
theorem dX12_mayTouch_42 : decode cX12_mayTouch 42 = .ok (.iconst 2, 1) := by decide +kernel
theorem dX12_mayTouch_43 : decode cX12_mayTouch 43 = .ok (.invokevirtual 49, 3) := by decide +kernel
theorem dX12_mayTouch_46 : decode cX12_mayTouch 46 = .ok (.iconst 1, 1) := by decide +kernel
theorem dX12_mayTouch_47 : decode cX12_mayTouch 47 = .ok (.if_icmp .ne 5, 3) := by decide +kernel
theorem dX12_mayTouch_50 : decode cX12_mayTouch 50 = .ok (.iconst 0, 1) := by decide +kernel
theorem dX12_mayTouch_51 : decode cX12_mayTouch 51 = .ok (.ireturn, 1) := by decide +kernel
theorem dX12_mayTouch_52 : decode cX12_mayTouch 52 = .ok (.aload_n 0, 1) := by decide +kernel
theorem dX12_mayTouch_53 : decode cX12_mayTouch 53 = .ok (.iload_n 1, 1) := by decide +kernel
theorem dX12_mayTouch_54 : decode cX12_mayTouch 54 = .ok (.iconst 0, 1) := by decide +kernel
theorem dX12_mayTouch_55 : decode cX12_mayTouch 55 = .ok (.invokevirtual 45, 3) := by decide +kernel
theorem dX12_mayTouch_58 : decode cX12_mayTouch 58 = .ok (.tableswitch 83 1 5 #[34, 50, 53, 34, 55], 34) := by decide +kernel
theorem dX12_mayTouch_92 : decode cX12_mayTouch 92 = .ok (.iload 4, 2) := by decide +kernel
theorem dX12_mayTouch_94 : decode cX12_mayTouch 94 = .ok (.ifCond .ne 8, 3) := by decide +kernel
theorem dX12_mayTouch_97 : decode cX12_mayTouch 97 = .ok (.iload_n 3, 1) := by decide +kernel
theorem dX12_mayTouch_98 : decode cX12_mayTouch 98 = .ok (.iconst 2, 1) := by decide +kernel
theorem dX12_mayTouch_99 : decode cX12_mayTouch 99 = .ok (.if_icmp .ge 7, 3) := by decide +kernel
theorem dX12_mayTouch_102 : decode cX12_mayTouch 102 = .ok (.iconst 1, 1) := by decide +kernel
theorem dX12_mayTouch_103 : decode cX12_mayTouch 103 = .ok (.goto 4, 3) := by decide +kernel
theorem dX12_mayTouch_106 : decode cX12_mayTouch 106 = .ok (.iconst 0, 1) := by decide +kernel
theorem dX12_mayTouch_107 : decode cX12_mayTouch 107 = .ok (.ireturn, 1) := by decide +kernel
theorem dX12_mayTouch_108 : decode cX12_mayTouch 108 = .ok (.iload 5, 2) := by decide +kernel
theorem dX12_mayTouch_110 : decode cX12_mayTouch 110 = .ok (.ireturn, 1) := by decide +kernel
theorem dX12_mayTouch_111 : decode cX12_mayTouch 111 = .ok (.iconst 1, 1) := by decide +kernel
theorem dX12_mayTouch_112 : decode cX12_mayTouch 112 = .ok (.ireturn, 1) := by decide +kernel
theorem dX12_mayTouch_113 : decode cX12_mayTouch 113 = .ok (.iload 5, 2) := by decide +kernel
theorem dX12_mayTouch_115 : decode cX12_mayTouch 115 = .ok (.ifCond .ne 20, 3) := by decide +kernel
theorem dX12_mayTouch_118 : decode cX12_mayTouch 118 = .ok (.aload_n 0, 1) := by decide +kernel
theorem dX12_mayTouch_119 : decode cX12_mayTouch 119 = .ok (.getfield 9, 3) := by decide +kernel
theorem dX12_mayTouch_122 : decode cX12_mayTouch 122 = .ok (.iconst 0, 1) := by decide +kernel
theorem dX12_mayTouch_123 : decode cX12_mayTouch 123 = .ok (.iaload, 1) := by decide +kernel
theorem dX12_mayTouch_124 : decode cX12_mayTouch 124 = .ok (.iconst 2, 1) := by decide +kernel
theorem dX12_mayTouch_125 : decode cX12_mayTouch 125 = .ok (.irem, 1) := by decide +kernel
theorem dX12_mayTouch_126 : decode cX12_mayTouch 126 = .ok (.iconst 1, 1) := by decide +kernel
theorem dX12_mayTouch_127 : decode cX12_mayTouch 127 = .ok (.if_icmp .ne 12, 3) := by decide +kernel
theorem dX12_mayTouch_130 : decode cX12_mayTouch 130 = .ok (.iload 4, 2) := by decide +kernel
theorem dX12_mayTouch_132 : decode cX12_mayTouch 132 = .ok (.ifCond .eq 7, 3) := by decide +kernel
theorem dX12_mayTouch_135 : decode cX12_mayTouch 135 = .ok (.iconst 1, 1) := by decide +kernel
theorem dX12_mayTouch_136 : decode cX12_mayTouch 136 = .ok (.goto 4, 3) := by decide +kernel
theorem dX12_mayTouch_139 : decode cX12_mayTouch 139 = .ok (.iconst 0, 1) := by decide +kernel
theorem dX12_mayTouch_140 : decode cX12_mayTouch 140 = .ok (.ireturn, 1) := by decide +kernel
theorem dX12_mayTouch_141 : decode cX12_mayTouch 141 = .ok (.iload 4, 2) := by decide +kernel
theorem dX12_mayTouch_143 : decode cX12_mayTouch 143 = .ok (.ireturn, 1) := by decide +kernel
theorem dX12_prefers_0 : decode cX12_prefers 0 = .ok (.aload_n 0, 1) := by decide +kernel
theorem dX12_prefers_1 : decode cX12_prefers 1 = .ok (.iload_n 1, 1) := by decide +kernel
theorem dX12_prefers_2 : decode cX12_prefers 2 = .ok (.iconst 0, 1) := by decide +kernel
theorem dX12_prefers_3 : decode cX12_prefers 3 = .ok (.invokevirtual 45, 3) := by decide +kernel
theorem dX12_prefers_6 : decode cX12_prefers 6 = .ok (.tableswitch 53 1 4 #[30, 53, 32, 30], 30) := by decide +kernel
theorem dX12_prefers_36 : decode cX12_prefers 36 = .ok (.iconst 1, 1) := by decide +kernel
theorem dX12_prefers_37 : decode cX12_prefers 37 = .ok (.ireturn, 1) := by decide +kernel
theorem dX12_prefers_38 : decode cX12_prefers 38 = .ok (.aload_n 0, 1) := by decide +kernel
theorem dX12_prefers_39 : decode cX12_prefers 39 = .ok (.iload_n 2, 1) := by decide +kernel
theorem dX12_prefers_40 : decode cX12_prefers 40 = .ok (.iconst 1, 1) := by decide +kernel
theorem dX12_prefers_41 : decode cX12_prefers 41 = .ok (.invokevirtual 49, 3) := by decide +kernel
theorem dX12_prefers_44 : decode cX12_prefers 44 = .ok (.aload_n 0, 1) := by decide +kernel
theorem dX12_prefers_45 : decode cX12_prefers 45 = .ok (.iload_n 3, 1) := by decide +kernel
theorem dX12_prefers_46 : decode cX12_prefers 46 = .ok (.iconst 1, 1) := by decide +kernel
theorem dX12_prefers_47 : decode cX12_prefers 47 = .ok (.invokevirtual 49, 3) := by decide +kernel
theorem dX12_prefers_50 : decode cX12_prefers 50 = .ok (.if_icmp .le 7, 3) := by decide +kernel
theorem dX12_prefers_53 : decode cX12_prefers 53 = .ok (.iconst 1, 1) := by decide +kernel
theorem dX12_prefers_54 : decode cX12_prefers 54 = .ok (.goto 4, 3) := by decide +kernel
theorem dX12_prefers_57 : decode cX12_prefers 57 = .ok (.iconst 0, 1) := by decide +kernel
theorem dX12_prefers_58 : decode cX12_prefers 58 = .ok (.ireturn, 1) := by decide +kernel
theorem dX12_prefers_59 : decode cX12_prefers 59 = .ok (.iconst 0, 1) := by decide +kernel
theorem dX12_prefers_60 : decode cX12_prefers 60 = .ok (.ireturn, 1) := by decide +kernel
theorem dX12_picked_0 : decode cX12_picked 0 = .ok (.iconst (-1), 1) := by decide +kernel
theorem dX12_picked_1 : decode cX12_picked 1 = .ok (.istore_n 2, 1) := by decide +kernel
theorem dX12_picked_2 : decode cX12_picked 2 = .ok (.iconst 0, 1) := by decide +kernel
theorem dX12_picked_3 : decode cX12_picked 3 = .ok (.istore_n 3, 1) := by decide +kernel
theorem dX12_picked_4 : decode cX12_picked 4 = .ok (.iload_n 3, 1) := by decide +kernel
theorem dX12_picked_5 : decode cX12_picked 5 = .ok (.aload_n 0, 1) := by decide +kernel
theorem dX12_picked_6 : decode cX12_picked 6 = .ok (.getfield 9, 3) := by decide +kernel
theorem dX12_picked_9 : decode cX12_picked 9 = .ok (.iconst 2, 1) := by decide +kernel
theorem dX12_picked_10 : decode cX12_picked 10 = .ok (.iaload, 1) := by decide +kernel
theorem dX12_picked_11 : decode cX12_picked 11 = .ok (.if_icmp .ge 65, 3) := by decide +kernel
theorem dX12_picked_14 : decode cX12_picked 14 = .ok (.aload_n 0, 1) := by decide +kernel
theorem dX12_picked_15 : decode cX12_picked 15 = .ok (.iload_n 3, 1) := by decide +kernel
theorem dX12_picked_16 : decode cX12_picked 16 = .ok (.iconst 0, 1) := by decide +kernel
theorem dX12_picked_17 : decode cX12_picked 17 = .ok (.invokevirtual 49, 3) := by decide +kernel
theorem dX12_picked_20 : decode cX12_picked 20 = .ok (.aload_n 0, 1) := by decide +kernel
theorem dX12_picked_21 : decode cX12_picked 21 = .ok (.iload_n 1, 1) := by decide +kernel
theorem dX12_picked_22 : decode cX12_picked 22 = .ok (.iload_n 3, 1) := by decide +kernel
theorem dX12_picked_23 : decode cX12_picked 23 = .ok (.invokevirtual 52, 3) := by decide +kernel
theorem dX12_picked_26 : decode cX12_picked 26 = .ok (.if_icmp .eq 16, 3) := by decide +kernel
theorem dX12_picked_29 : decode cX12_picked 29 = .ok (.aload_n 0, 1) := by decide +kernel
theorem dX12_picked_30 : decode cX12_picked 30 = .ok (.iload_n 1, 1) := by decide +kernel
theorem dX12_picked_31 : decode cX12_picked 31 = .ok (.iload_n 3, 1) := by decide +kernel
theorem dX12_picked_32 : decode cX12_picked 32 = .ok (.invokevirtual 55, 3) := by decide +kernel
theorem dX12_picked_35 : decode cX12_picked 35 = .ok (.ifCond .eq 7, 3) := by decide +kernel
theorem dX12_picked_38 : decode cX12_picked 38 = .ok (.iconst 1, 1) := by decide +kernel
theorem dX12_picked_39 : decode cX12_picked 39 = .ok (.goto 4, 3) := by decide +kernel
theorem dX12_picked_42 : decode cX12_picked 42 = .ok (.iconst 0, 1) := by decide +kernel
theorem dX12_picked_43 : decode cX12_picked 43 = .ok (.istore 4, 2) := by decide +kernel
theorem dX12_picked_45 : decode cX12_picked 45 = .ok (.iload 4, 2) := by decide +kernel
theorem dX12_picked_47 : decode cX12_picked 47 = .ok (.ifCond .eq 21, 3) := by decide +kernel
theorem dX12_picked_50 : decode cX12_picked 50 = .ok (.iload_n 2, 1) := by decide +kernel
theorem dX12_picked_51 : decode cX12_picked 51 = .ok (.ifCond .lt 13, 3) := by decide +kernel
theorem dX12_picked_54 : decode cX12_picked 54 = .ok (.aload_n 0, 1) := by decide +kernel
theorem dX12_picked_55 : decode cX12_picked 55 = .ok (.iload_n 1, 1) := by decide +kernel
theorem dX12_picked_56 : decode cX12_picked 56 = .ok (.iload_n 3, 1) := by decide +kernel
theorem dX12_picked_57 : decode cX12_picked 57 = .ok (.iload_n 2, 1) := by decide +kernel
theorem dX12_picked_58 : decode cX12_picked 58 = .ok (.invokevirtual 59, 3) := by decide +kernel
theorem dX12_picked_61 : decode cX12_picked 61 = .ok (.ifCond .eq 7, 3) := by decide +kernel
theorem dX12_picked_64 : decode cX12_picked 64 = .ok (.iload_n 3, 1) := by decide +kernel
theorem dX12_picked_65 : decode cX12_picked 65 = .ok (.goto 4, 3) := by decide +kernel
theorem dX12_picked_68 : decode cX12_picked 68 = .ok (.iload_n 2, 1) := by decide +kernel
theorem dX12_picked_69 : decode cX12_picked 69 = .ok (.istore_n 2, 1) := by decide +kernel
theorem dX12_picked_70 : decode cX12_picked 70 = .ok (.iinc 3 1, 3) := by decide +kernel
theorem dX12_picked_73 : decode cX12_picked 73 = .ok (.goto (-69), 3) := by decide +kernel
theorem dX12_picked_76 : decode cX12_picked 76 = .ok (.iload_n 2, 1) := by decide +kernel
theorem dX12_picked_77 : decode cX12_picked 77 = .ok (.ireturn, 1) := by decide +kernel
theorem dX12_turnsOf_0 : decode cX12_turnsOf 0 = .ok (.aload_n 0, 1) := by decide +kernel
theorem dX12_turnsOf_1 : decode cX12_turnsOf 1 = .ok (.iload_n 1, 1) := by decide +kernel
theorem dX12_turnsOf_2 : decode cX12_turnsOf 2 = .ok (.iconst 0, 1) := by decide +kernel
theorem dX12_turnsOf_3 : decode cX12_turnsOf 3 = .ok (.invokevirtual 45, 3) := by decide +kernel
theorem dX12_turnsOf_6 : decode cX12_turnsOf 6 = .ok (.iconst 1, 1) := by decide +kernel
theorem dX12_turnsOf_7 : decode cX12_turnsOf 7 = .ok (.if_icmp .ne 7, 3) := by decide +kernel
theorem dX12_turnsOf_10 : decode cX12_turnsOf 10 = .ok (.iconst 2, 1) := by decide +kernel
theorem dX12_turnsOf_11 : decode cX12_turnsOf 11 = .ok (.goto 18, 3) := by decide +kernel
theorem dX12_turnsOf_14 : decode cX12_turnsOf 14 = .ok (.aload_n 0, 1) := by decide +kernel
theorem dX12_turnsOf_15 : decode cX12_turnsOf 15 = .ok (.iload_n 1, 1) := by decide +kernel
theorem dX12_turnsOf_16 : decode cX12_turnsOf 16 = .ok (.iconst 0, 1) := by decide +kernel
theorem dX12_turnsOf_17 : decode cX12_turnsOf 17 = .ok (.invokevirtual 45, 3) := by decide +kernel
theorem dX12_turnsOf_20 : decode cX12_turnsOf 20 = .ok (.iconst 4, 1) := by decide +kernel
theorem dX12_turnsOf_21 : decode cX12_turnsOf 21 = .ok (.if_icmp .ne 7, 3) := by decide +kernel
theorem dX12_turnsOf_24 : decode cX12_turnsOf 24 = .ok (.iconst 3, 1) := by decide +kernel
theorem dX12_turnsOf_25 : decode cX12_turnsOf 25 = .ok (.goto 4, 3) := by decide +kernel
theorem dX12_turnsOf_28 : decode cX12_turnsOf 28 = .ok (.iconst 1, 1) := by decide +kernel
theorem dX12_turnsOf_29 : decode cX12_turnsOf 29 = .ok (.ireturn, 1) := by decide +kernel
theorem dX12_doesFix_0 : decode cX12_doesFix 0 = .ok (.aload_n 0, 1) := by decide +kernel
theorem dX12_doesFix_1 : decode cX12_doesFix 1 = .ok (.iload_n 1, 1) := by decide +kernel
theorem dX12_doesFix_2 : decode cX12_doesFix 2 = .ok (.iconst 0, 1) := by decide +kernel
theorem dX12_doesFix_3 : decode cX12_doesFix 3 = .ok (.invokevirtual 45, 3) := by decide +kernel
theorem dX12_doesFix_6 : decode cX12_doesFix 6 = .ok (.iconst 3, 1) := by decide +kernel
theorem dX12_doesFix_7 : decode cX12_doesFix 7 = .ok (.if_icmp .eq 23, 3) := by decide +kernel
theorem dX12_doesFix_10 : decode cX12_doesFix 10 = .ok (.aload_n 0, 1) := by decide +kernel
theorem dX12_doesFix_11 : decode cX12_doesFix 11 = .ok (.iload_n 1, 1) := by decide +kernel
theorem dX12_doesFix_12 : decode cX12_doesFix 12 = .ok (.iconst 0, 1) := by decide +kernel
theorem dX12_doesFix_13 : decode cX12_doesFix 13 = .ok (.invokevirtual 45, 3) := by decide +kernel
theorem dX12_doesFix_16 : decode cX12_doesFix 16 = .ok (.iconst 4, 1) := by decide +kernel
theorem dX12_doesFix_17 : decode cX12_doesFix 17 = .ok (.if_icmp .ne 17, 3) := by decide +kernel
theorem dX12_doesFix_20 : decode cX12_doesFix 20 = .ok (.aload_n 0, 1) := by decide +kernel
theorem dX12_doesFix_21 : decode cX12_doesFix 21 = .ok (.iload_n 2, 1) := by decide +kernel
theorem dX12_doesFix_22 : decode cX12_doesFix 22 = .ok (.iconst 1, 1) := by decide +kernel
theorem dX12_doesFix_23 : decode cX12_doesFix 23 = .ok (.invokevirtual 49, 3) := by decide +kernel
theorem dX12_doesFix_26 : decode cX12_doesFix 26 = .ok (.iconst 5, 1) := by decide +kernel
theorem dX12_doesFix_27 : decode cX12_doesFix 27 = .ok (.if_icmp .lt 7, 3) := by decide +kernel
theorem dX12_doesFix_30 : decode cX12_doesFix 30 = .ok (.iconst 1, 1) := by decide +kernel
theorem dX12_doesFix_31 : decode cX12_doesFix 31 = .ok (.goto 4, 3) := by decide +kernel
theorem dX12_doesFix_34 : decode cX12_doesFix 34 = .ok (.iconst 0, 1) := by decide +kernel
theorem dX12_doesFix_35 : decode cX12_doesFix 35 = .ok (.ireturn, 1) := by decide +kernel
theorem dX12_wayOf_0 : decode cX12_wayOf 0 = .ok (.iconst 0, 1) := by decide +kernel
theorem dX12_wayOf_1 : decode cX12_wayOf 1 = .ok (.istore_n 2, 1) := by decide +kernel
theorem dX12_wayOf_2 : decode cX12_wayOf 2 = .ok (.iconst 0, 1) := by decide +kernel
theorem dX12_wayOf_3 : decode cX12_wayOf 3 = .ok (.istore_n 3, 1) := by decide +kernel
theorem dX12_wayOf_4 : decode cX12_wayOf 4 = .ok (.iload_n 3, 1) := by decide +kernel
theorem dX12_wayOf_5 : decode cX12_wayOf 5 = .ok (.aload_n 0, 1) := by decide +kernel
theorem dX12_wayOf_6 : decode cX12_wayOf 6 = .ok (.getfield 9, 3) := by decide +kernel
theorem dX12_wayOf_9 : decode cX12_wayOf 9 = .ok (.iconst 2, 1) := by decide +kernel
theorem dX12_wayOf_10 : decode cX12_wayOf 10 = .ok (.iaload, 1) := by decide +kernel
theorem dX12_wayOf_11 : decode cX12_wayOf 11 = .ok (.if_icmp .ge 34, 3) := by decide +kernel
theorem dX12_wayOf_14 : decode cX12_wayOf 14 = .ok (.iload_n 2, 1) := by decide +kernel
theorem dX12_wayOf_15 : decode cX12_wayOf 15 = .ok (.aload_n 0, 1) := by decide +kernel
theorem dX12_wayOf_16 : decode cX12_wayOf 16 = .ok (.iload_n 3, 1) := by decide +kernel
theorem dX12_wayOf_17 : decode cX12_wayOf 17 = .ok (.iconst 0, 1) := by decide +kernel
theorem dX12_wayOf_18 : decode cX12_wayOf 18 = .ok (.invokevirtual 49, 3) := by decide +kernel
theorem dX12_wayOf_21 : decode cX12_wayOf 21 = .ok (.aload_n 0, 1) := by decide +kernel
theorem dX12_wayOf_22 : decode cX12_wayOf 22 = .ok (.iload_n 1, 1) := by decide +kernel
theorem dX12_wayOf_23 : decode cX12_wayOf 23 = .ok (.iload_n 3, 1) := by decide +kernel
theorem dX12_wayOf_24 : decode cX12_wayOf 24 = .ok (.invokevirtual 52, 3) := by decide +kernel
theorem dX12_wayOf_27 : decode cX12_wayOf 27 = .ok (.if_icmp .ne 9, 3) := by decide +kernel
theorem dX12_wayOf_30 : decode cX12_wayOf 30 = .ok (.iconst 1, 1) := by decide +kernel
theorem dX12_wayOf_31 : decode cX12_wayOf 31 = .ok (.iload_n 3, 1) := by decide +kernel
theorem dX12_wayOf_32 : decode cX12_wayOf 32 = .ok (.ishl, 1) := by decide +kernel
theorem dX12_wayOf_33 : decode cX12_wayOf 33 = .ok (.goto 4, 3) := by decide +kernel
theorem dX12_wayOf_36 : decode cX12_wayOf 36 = .ok (.iconst 0, 1) := by decide +kernel
theorem dX12_wayOf_37 : decode cX12_wayOf 37 = .ok (.ior, 1) := by decide +kernel
theorem dX12_wayOf_38 : decode cX12_wayOf 38 = .ok (.istore_n 2, 1) := by decide +kernel
theorem dX12_wayOf_39 : decode cX12_wayOf 39 = .ok (.iinc 3 1, 3) := by decide +kernel
theorem dX12_wayOf_42 : decode cX12_wayOf 42 = .ok (.goto (-38), 3) := by decide +kernel
theorem dX12_wayOf_45 : decode cX12_wayOf 45 = .ok (.iload_n 2, 1) := by decide +kernel
theorem dX12_wayOf_46 : decode cX12_wayOf 46 = .ok (.ireturn, 1) := by decide +kernel
theorem dX12_moves_0 : decode cX12_moves 0 = .ok (.iload_n 1, 1) := by decide +kernel
theorem dX12_moves_1 : decode cX12_moves 1 = .ok (.i2l, 1) := by decide +kernel
theorem dX12_moves_2 : decode cX12_moves 2 = .ok (.iconst 0, 1) := by decide +kernel
theorem dX12_moves_3 : decode cX12_moves 3 = .ok (.bipush 99, 2) := by decide +kernel
theorem dX12_moves_5 : decode cX12_moves 5 = .ok (.invokestatic 41, 3) := by decide +kernel
theorem dX12_moves_8 : decode cX12_moves 8 = .ok (.ifCond .eq 12, 3) := by decide +kernel
theorem dX12_moves_11 : decode cX12_moves 11 = .ok (.aload_n 0, 1) := by decide +kernel
theorem dX12_moves_12 : decode cX12_moves 12 = .ok (.iconst 1, 1) := by decide +kernel
theorem dX12_moves_13 : decode cX12_moves 13 = .ok (.iload_n 1, 1) := by decide +kernel
theorem dX12_moves_14 : decode cX12_moves 14 = .ok (.invokevirtual 63, 3) := by decide +kernel
theorem dX12_moves_17 : decode cX12_moves 17 = .ok (.goto 9, 3) := by decide +kernel
theorem dX12_moves_20 : decode cX12_moves 20 = .ok (.aload_n 0, 1) := by decide +kernel
theorem dX12_moves_21 : decode cX12_moves 21 = .ok (.ldc 35, 2) := by decide +kernel
theorem dX12_moves_23 : decode cX12_moves 23 = .ok (.invokevirtual 37, 3) := by decide +kernel
theorem dX12_moves_26 : decode cX12_moves 26 = .ok (.ireturn, 1) := by decide +kernel
theorem dX12_comesTo_0 : decode cX12_comesTo 0 = .ok (.aload_n 0, 1) := by decide +kernel
theorem dX12_comesTo_1 : decode cX12_comesTo 1 = .ok (.getfield 9, 3) := by decide +kernel
theorem dX12_comesTo_4 : decode cX12_comesTo 4 = .ok (.iconst 2, 1) := by decide +kernel
theorem dX12_comesTo_5 : decode cX12_comesTo 5 = .ok (.iaload, 1) := by decide +kernel
theorem dX12_comesTo_6 : decode cX12_comesTo 6 = .ok (.istore_n 3, 1) := by decide +kernel
theorem dX12_comesTo_7 : decode cX12_comesTo 7 = .ok (.aload_n 0, 1) := by decide +kernel
theorem dX12_comesTo_8 : decode cX12_comesTo 8 = .ok (.getfield 9, 3) := by decide +kernel
theorem dX12_comesTo_11 : decode cX12_comesTo 11 = .ok (.iconst 2, 1) := by decide +kernel
theorem dX12_comesTo_12 : decode cX12_comesTo 12 = .ok (.dup2, 1) := by decide +kernel
theorem dX12_comesTo_13 : decode cX12_comesTo 13 = .ok (.iaload, 1) := by decide +kernel
theorem dX12_comesTo_14 : decode cX12_comesTo 14 = .ok (.iconst 1, 1) := by decide +kernel
theorem dX12_comesTo_15 : decode cX12_comesTo 15 = .ok (.iadd, 1) := by decide +kernel
theorem dX12_comesTo_16 : decode cX12_comesTo 16 = .ok (.iastore, 1) := by decide +kernel
theorem dX12_comesTo_17 : decode cX12_comesTo 17 = .ok (.aload_n 0, 1) := by decide +kernel
theorem dX12_comesTo_18 : decode cX12_comesTo 18 = .ok (.iload_n 3, 1) := by decide +kernel
theorem dX12_comesTo_19 : decode cX12_comesTo 19 = .ok (.iconst 0, 1) := by decide +kernel
theorem dX12_comesTo_20 : decode cX12_comesTo 20 = .ok (.iload_n 1, 1) := by decide +kernel
theorem dX12_comesTo_21 : decode cX12_comesTo 21 = .ok (.invokevirtual 66, 3) := by decide +kernel
theorem dX12_comesTo_24 : decode cX12_comesTo 24 = .ok (.aload_n 0, 1) := by decide +kernel
theorem dX12_comesTo_25 : decode cX12_comesTo 25 = .ok (.iload_n 3, 1) := by decide +kernel
theorem dX12_comesTo_26 : decode cX12_comesTo 26 = .ok (.iconst 1, 1) := by decide +kernel
theorem dX12_comesTo_27 : decode cX12_comesTo 27 = .ok (.iconst 0, 1) := by decide +kernel
theorem dX12_comesTo_28 : decode cX12_comesTo 28 = .ok (.invokevirtual 66, 3) := by decide +kernel
theorem dX12_comesTo_31 : decode cX12_comesTo 31 = .ok (.aload_n 0, 1) := by decide +kernel
theorem dX12_comesTo_32 : decode cX12_comesTo 32 = .ok (.iload_n 3, 1) := by decide +kernel
theorem dX12_comesTo_33 : decode cX12_comesTo 33 = .ok (.iconst 2, 1) := by decide +kernel
theorem dX12_comesTo_34 : decode cX12_comesTo 34 = .ok (.iload_n 2, 1) := by decide +kernel
theorem dX12_comesTo_35 : decode cX12_comesTo 35 = .ok (.invokevirtual 66, 3) := by decide +kernel
theorem dX12_comesTo_38 : decode cX12_comesTo 38 = .ok (.iload_n 3, 1) := by decide +kernel
theorem dX12_comesTo_39 : decode cX12_comesTo 39 = .ok (.ireturn, 1) := by decide +kernel
theorem dX12_slip_0 : decode cX12_slip 0 = .ok (.iload_n 1, 1) := by decide +kernel
theorem dX12_slip_1 : decode cX12_slip 1 = .ok (.i2l, 1) := by decide +kernel
theorem dX12_slip_2 : decode cX12_slip 2 = .ok (.iconst (-1), 1) := by decide +kernel
theorem dX12_slip_3 : decode cX12_slip 3 = .ok (.iconst 5, 1) := by decide +kernel
theorem dX12_slip_4 : decode cX12_slip 4 = .ok (.invokestatic 41, 3) := by decide +kernel
theorem dX12_slip_7 : decode cX12_slip 7 = .ok (.ifCond .ne 10, 3) := by decide +kernel
theorem dX12_slip_10 : decode cX12_slip 10 = .ok (.aload_n 0, 1) := by decide +kernel
theorem dX12_slip_11 : decode cX12_slip 11 = .ok (.ldc 35, 2) := by decide +kernel
theorem dX12_slip_13 : decode cX12_slip 13 = .ok (.invokevirtual 37, 3) := by decide +kernel
theorem dX12_slip_16 : decode cX12_slip 16 = .ok (.ireturn, 1) := by decide +kernel
theorem dX12_slip_17 : decode cX12_slip 17 = .ok (.aload_n 0, 1) := by decide +kernel
theorem dX12_slip_18 : decode cX12_slip 18 = .ok (.getfield 9, 3) := by decide +kernel
theorem dX12_slip_21 : decode cX12_slip 21 = .ok (.iconst 2, 1) := by decide +kernel
theorem dX12_slip_22 : decode cX12_slip 22 = .ok (.iaload, 1) := by decide +kernel
theorem dX12_slip_23 : decode cX12_slip 23 = .ok (.bipush 10, 2) := by decide +kernel
theorem dX12_slip_25 : decode cX12_slip 25 = .ok (.if_icmp .ne 12, 3) := by decide +kernel
theorem dX12_slip_28 : decode cX12_slip 28 = .ok (.aload_n 0, 1) := by decide +kernel
theorem dX12_slip_29 : decode cX12_slip 29 = .ok (.ldc 70, 2) := by decide +kernel
theorem dX12_slip_31 : decode cX12_slip 31 = .ok (.invokevirtual 37, 3) := by decide +kernel
theorem dX12_slip_34 : decode cX12_slip 34 = .ok (.goto 9, 3) := by decide +kernel
theorem dX12_slip_37 : decode cX12_slip 37 = .ok (.aload_n 0, 1) := by decide +kernel
theorem dX12_slip_38 : decode cX12_slip 38 = .ok (.iload_n 1, 1) := by decide +kernel
theorem dX12_slip_39 : decode cX12_slip 39 = .ok (.iconst 0, 1) := by decide +kernel
theorem dX12_slip_40 : decode cX12_slip 40 = .ok (.invokevirtual 71, 3) := by decide +kernel
theorem dX12_slip_43 : decode cX12_slip 43 = .ok (.ireturn, 1) := by decide +kernel
theorem dX12_happyWith_0 : decode cX12_happyWith 0 = .ok (.iconst 0, 1) := by decide +kernel
theorem dX12_happyWith_1 : decode cX12_happyWith 1 = .ok (.istore_n 2, 1) := by decide +kernel
theorem dX12_happyWith_2 : decode cX12_happyWith 2 = .ok (.iconst 0, 1) := by decide +kernel
theorem dX12_happyWith_3 : decode cX12_happyWith 3 = .ok (.istore_n 3, 1) := by decide +kernel
theorem dX12_happyWith_4 : decode cX12_happyWith 4 = .ok (.iload_n 3, 1) := by decide +kernel
theorem dX12_happyWith_5 : decode cX12_happyWith 5 = .ok (.aload_n 0, 1) := by decide +kernel
theorem dX12_happyWith_6 : decode cX12_happyWith 6 = .ok (.getfield 9, 3) := by decide +kernel
theorem dX12_happyWith_9 : decode cX12_happyWith 9 = .ok (.iconst 3, 1) := by decide +kernel
theorem dX12_happyWith_10 : decode cX12_happyWith 10 = .ok (.iaload, 1) := by decide +kernel
theorem dX12_happyWith_11 : decode cX12_happyWith 11 = .ok (.if_icmp .ge 34, 3) := by decide +kernel
theorem dX12_happyWith_14 : decode cX12_happyWith 14 = .ok (.iload_n 2, 1) := by decide +kernel
theorem dX12_happyWith_15 : decode cX12_happyWith 15 = .ok (.aload_n 0, 1) := by decide +kernel
theorem dX12_happyWith_16 : decode cX12_happyWith 16 = .ok (.iload_n 3, 1) := by decide +kernel
theorem dX12_happyWith_17 : decode cX12_happyWith 17 = .ok (.iload_n 1, 1) := by decide +kernel
theorem dX12_happyWith_18 : decode cX12_happyWith 18 = .ok (.invokevirtual 52, 3) := by decide +kernel
theorem dX12_happyWith_21 : decode cX12_happyWith 21 = .ok (.aload_n 0, 1) := by decide +kernel
theorem dX12_happyWith_22 : decode cX12_happyWith 22 = .ok (.iload_n 1, 1) := by decide +kernel
theorem dX12_happyWith_23 : decode cX12_happyWith 23 = .ok (.iconst 0, 1) := by decide +kernel
theorem dX12_happyWith_24 : decode cX12_happyWith 24 = .ok (.invokevirtual 49, 3) := by decide +kernel
theorem dX12_happyWith_27 : decode cX12_happyWith 27 = .ok (.if_icmp .ne 9, 3) := by decide +kernel
theorem dX12_happyWith_30 : decode cX12_happyWith 30 = .ok (.iconst 1, 1) := by decide +kernel
theorem dX12_happyWith_31 : decode cX12_happyWith 31 = .ok (.iload_n 3, 1) := by decide +kernel
theorem dX12_happyWith_32 : decode cX12_happyWith 32 = .ok (.ishl, 1) := by decide +kernel
theorem dX12_happyWith_33 : decode cX12_happyWith 33 = .ok (.goto 4, 3) := by decide +kernel
theorem dX12_happyWith_36 : decode cX12_happyWith 36 = .ok (.iconst 0, 1) := by decide +kernel
theorem dX12_happyWith_37 : decode cX12_happyWith 37 = .ok (.ior, 1) := by decide +kernel
theorem dX12_happyWith_38 : decode cX12_happyWith 38 = .ok (.istore_n 2, 1) := by decide +kernel
theorem dX12_happyWith_39 : decode cX12_happyWith 39 = .ok (.iinc 3 1, 3) := by decide +kernel
theorem dX12_happyWith_42 : decode cX12_happyWith 42 = .ok (.goto (-38), 3) := by decide +kernel
theorem dX12_happyWith_45 : decode cX12_happyWith 45 = .ok (.iload_n 2, 1) := by decide +kernel
theorem dX12_happyWith_46 : decode cX12_happyWith 46 = .ok (.ireturn, 1) := by decide +kernel
theorem dX12_wantMost_0 : decode cX12_wantMost 0 = .ok (.iconst (-1), 1) := by decide +kernel
theorem dX12_wantMost_1 : decode cX12_wantMost 1 = .ok (.istore_n 2, 1) := by decide +kernel
theorem dX12_wantMost_2 : decode cX12_wantMost 2 = .ok (.iconst 0, 1) := by decide +kernel
theorem dX12_wantMost_3 : decode cX12_wantMost 3 = .ok (.istore_n 3, 1) := by decide +kernel
theorem dX12_wantMost_4 : decode cX12_wantMost 4 = .ok (.iconst 0, 1) := by decide +kernel
theorem dX12_wantMost_5 : decode cX12_wantMost 5 = .ok (.istore 4, 2) := by decide +kernel
theorem dX12_wantMost_7 : decode cX12_wantMost 7 = .ok (.iload 4, 2) := by decide +kernel
theorem dX12_wantMost_9 : decode cX12_wantMost 9 = .ok (.bipush 6, 2) := by decide +kernel
theorem dX12_wantMost_11 : decode cX12_wantMost 11 = .ok (.if_icmp .ge 80, 3) := by decide +kernel
theorem dX12_wantMost_14 : decode cX12_wantMost 14 = .ok (.iconst 0, 1) := by decide +kernel
theorem dX12_wantMost_15 : decode cX12_wantMost 15 = .ok (.istore 5, 2) := by decide +kernel
theorem dX12_wantMost_17 : decode cX12_wantMost 17 = .ok (.iconst 0, 1) := by decide +kernel
theorem dX12_wantMost_18 : decode cX12_wantMost 18 = .ok (.istore 6, 2) := by decide +kernel
theorem dX12_wantMost_20 : decode cX12_wantMost 20 = .ok (.iload 6, 2) := by decide +kernel
theorem dX12_wantMost_22 : decode cX12_wantMost 22 = .ok (.aload_n 0, 1) := by decide +kernel
theorem dX12_wantMost_23 : decode cX12_wantMost 23 = .ok (.getfield 9, 3) := by decide +kernel
theorem dX12_wantMost_26 : decode cX12_wantMost 26 = .ok (.iconst 3, 1) := by decide +kernel
theorem dX12_wantMost_27 : decode cX12_wantMost 27 = .ok (.iaload, 1) := by decide +kernel
theorem dX12_wantMost_28 : decode cX12_wantMost 28 = .ok (.if_icmp .ge 31, 3) := by decide +kernel
theorem dX12_wantMost_31 : decode cX12_wantMost 31 = .ok (.iload 5, 2) := by decide +kernel
theorem dX12_wantMost_33 : decode cX12_wantMost 33 = .ok (.aload_n 0, 1) := by decide +kernel
theorem dX12_wantMost_34 : decode cX12_wantMost 34 = .ok (.iload 6, 2) := by decide +kernel
theorem dX12_wantMost_36 : decode cX12_wantMost 36 = .ok (.iload_n 1, 1) := by decide +kernel
theorem dX12_wantMost_37 : decode cX12_wantMost 37 = .ok (.invokevirtual 52, 3) := by decide +kernel
theorem dX12_wantMost_40 : decode cX12_wantMost 40 = .ok (.iload 4, 2) := by decide +kernel
theorem dX12_wantMost_42 : decode cX12_wantMost 42 = .ok (.if_icmp .ne 7, 3) := by decide +kernel
theorem dX12_wantMost_45 : decode cX12_wantMost 45 = .ok (.iconst 1, 1) := by decide +kernel
theorem dX12_wantMost_46 : decode cX12_wantMost 46 = .ok (.goto 4, 3) := by decide +kernel
theorem dX12_wantMost_49 : decode cX12_wantMost 49 = .ok (.iconst 0, 1) := by decide +kernel
theorem dX12_wantMost_50 : decode cX12_wantMost 50 = .ok (.iadd, 1) := by decide +kernel
theorem dX12_wantMost_51 : decode cX12_wantMost 51 = .ok (.istore 5, 2) := by decide +kernel
theorem dX12_wantMost_53 : decode cX12_wantMost 53 = .ok (.iinc 6 1, 3) := by decide +kernel
theorem dX12_wantMost_56 : decode cX12_wantMost 56 = .ok (.goto (-36), 3) := by decide +kernel
theorem dX12_wantMost_59 : decode cX12_wantMost 59 = .ok (.iload 5, 2) := by decide +kernel
theorem dX12_wantMost_61 : decode cX12_wantMost 61 = .ok (.iload_n 3, 1) := by decide +kernel
theorem dX12_wantMost_62 : decode cX12_wantMost 62 = .ok (.if_icmp .le 8, 3) := by decide +kernel
theorem dX12_wantMost_65 : decode cX12_wantMost 65 = .ok (.iload 4, 2) := by decide +kernel
theorem dX12_wantMost_67 : decode cX12_wantMost 67 = .ok (.goto 4, 3) := by decide +kernel
theorem dX12_wantMost_70 : decode cX12_wantMost 70 = .ok (.iload_n 2, 1) := by decide +kernel
theorem dX12_wantMost_71 : decode cX12_wantMost 71 = .ok (.istore_n 2, 1) := by decide +kernel
theorem dX12_wantMost_72 : decode cX12_wantMost 72 = .ok (.iload 5, 2) := by decide +kernel
theorem dX12_wantMost_74 : decode cX12_wantMost 74 = .ok (.iload_n 3, 1) := by decide +kernel
theorem dX12_wantMost_75 : decode cX12_wantMost 75 = .ok (.if_icmp .le 8, 3) := by decide +kernel
theorem dX12_wantMost_78 : decode cX12_wantMost 78 = .ok (.iload 5, 2) := by decide +kernel
theorem dX12_wantMost_80 : decode cX12_wantMost 80 = .ok (.goto 4, 3) := by decide +kernel
theorem dX12_wantMost_83 : decode cX12_wantMost 83 = .ok (.iload_n 3, 1) := by decide +kernel
theorem dX12_wantMost_84 : decode cX12_wantMost 84 = .ok (.istore_n 3, 1) := by decide +kernel
theorem dX12_wantMost_85 : decode cX12_wantMost 85 = .ok (.iinc 4 1, 3) := by decide +kernel
theorem dX12_wantMost_88 : decode cX12_wantMost 88 = .ok (.goto (-81), 3) := by decide +kernel
theorem dX12_wantMost_91 : decode cX12_wantMost 91 = .ok (.iload_n 2, 1) := by decide +kernel
theorem dX12_wantMost_92 : decode cX12_wantMost 92 = .ok (.ireturn, 1) := by decide +kernel
theorem dX12_slipOf_0 : decode cX12_slipOf 0 = .ok (.aload_n 0, 1) := by decide +kernel
theorem dX12_slipOf_1 : decode cX12_slipOf 1 = .ok (.iload_n 1, 1) := by decide +kernel
theorem dX12_slipOf_2 : decode cX12_slipOf 2 = .ok (.invokevirtual 74, 3) := by decide +kernel
theorem dX12_slipOf_5 : decode cX12_slipOf 5 = .ok (.ifCond .eq 13, 3) := by decide +kernel
theorem dX12_slipOf_8 : decode cX12_slipOf 8 = .ok (.iload_n 2, 1) := by decide +kernel
theorem dX12_slipOf_9 : decode cX12_slipOf 9 = .ok (.i2l, 1) := by decide +kernel
theorem dX12_slipOf_10 : decode cX12_slipOf 10 = .ok (.iconst 0, 1) := by decide +kernel
theorem dX12_slipOf_11 : decode cX12_slipOf 11 = .ok (.iconst 4, 1) := by decide +kernel
theorem dX12_slipOf_12 : decode cX12_slipOf 12 = .ok (.invokestatic 41, 3) := by decide +kernel
theorem dX12_slipOf_15 : decode cX12_slipOf 15 = .ok (.ifCond .ne 10, 3) := by decide +kernel
theorem dX12_slipOf_18 : decode cX12_slipOf 18 = .ok (.aload_n 0, 1) := by decide +kernel
theorem dX12_slipOf_19 : decode cX12_slipOf 19 = .ok (.ldc 35, 2) := by decide +kernel
theorem dX12_slipOf_21 : decode cX12_slipOf 21 = .ok (.invokevirtual 37, 3) := by decide +kernel
theorem dX12_slipOf_24 : decode cX12_slipOf 24 = .ok (.ireturn, 1) := by decide +kernel
theorem dX12_slipOf_25 : decode cX12_slipOf 25 = .ok (.iload_n 2, 1) := by decide +kernel
theorem dX12_slipOf_26 : decode cX12_slipOf 26 = .ok (.iconst 3, 1) := by decide +kernel
theorem dX12_slipOf_27 : decode cX12_slipOf 27 = .ok (.if_icmp .ge 12, 3) := by decide +kernel
theorem dX12_slipOf_30 : decode cX12_slipOf 30 = .ok (.aload_n 0, 1) := by decide +kernel
theorem dX12_slipOf_31 : decode cX12_slipOf 31 = .ok (.iload_n 1, 1) := by decide +kernel
theorem dX12_slipOf_32 : decode cX12_slipOf 32 = .ok (.iload_n 2, 1) := by decide +kernel
theorem dX12_slipOf_33 : decode cX12_slipOf 33 = .ok (.invokevirtual 49, 3) := by decide +kernel
theorem dX12_slipOf_36 : decode cX12_slipOf 36 = .ok (.goto 21, 3) := by decide +kernel
theorem dX12_slipOf_39 : decode cX12_slipOf 39 = .ok (.iload_n 2, 1) := by decide +kernel
theorem dX12_slipOf_40 : decode cX12_slipOf 40 = .ok (.iconst 3, 1) := by decide +kernel
theorem dX12_slipOf_41 : decode cX12_slipOf 41 = .ok (.if_icmp .ne 11, 3) := by decide +kernel
theorem dX12_slipOf_44 : decode cX12_slipOf 44 = .ok (.aload_n 0, 1) := by decide +kernel
theorem dX12_slipOf_45 : decode cX12_slipOf 45 = .ok (.iload_n 1, 1) := by decide +kernel
theorem dX12_slipOf_46 : decode cX12_slipOf 46 = .ok (.invokevirtual 78, 3) := by decide +kernel
theorem dX12_slipOf_49 : decode cX12_slipOf 49 = .ok (.goto 8, 3) := by decide +kernel
theorem dX12_slipOf_52 : decode cX12_slipOf 52 = .ok (.aload_n 0, 1) := by decide +kernel
theorem dX12_slipOf_53 : decode cX12_slipOf 53 = .ok (.iload_n 1, 1) := by decide +kernel
theorem dX12_slipOf_54 : decode cX12_slipOf 54 = .ok (.invokevirtual 81, 3) := by decide +kernel
theorem dX12_slipOf_57 : decode cX12_slipOf 57 = .ok (.ireturn, 1) := by decide +kernel
theorem dX12_stick_0 : decode cX12_stick 0 = .ok (.aload_n 0, 1) := by decide +kernel
theorem dX12_stick_1 : decode cX12_stick 1 = .ok (.iload_n 1, 1) := by decide +kernel
theorem dX12_stick_2 : decode cX12_stick 2 = .ok (.invokevirtual 74, 3) := by decide +kernel
theorem dX12_stick_5 : decode cX12_stick 5 = .ok (.ifCond .eq 54, 3) := by decide +kernel
theorem dX12_stick_8 : decode cX12_stick 8 = .ok (.iload_n 2, 1) := by decide +kernel
theorem dX12_stick_9 : decode cX12_stick 9 = .ok (.i2l, 1) := by decide +kernel
theorem dX12_stick_10 : decode cX12_stick 10 = .ok (.iconst 0, 1) := by decide +kernel
theorem dX12_stick_11 : decode cX12_stick 11 = .ok (.iconst 2, 1) := by decide +kernel
theorem dX12_stick_12 : decode cX12_stick 12 = .ok (.invokestatic 41, 3) := by decide +kernel
theorem dX12_stick_15 : decode cX12_stick 15 = .ok (.ifCond .eq 44, 3) := by decide +kernel
theorem dX12_stick_18 : decode cX12_stick 18 = .ok (.iload_n 3, 1) := by decide +kernel
theorem dX12_stick_19 : decode cX12_stick 19 = .ok (.i2l, 1) := by decide +kernel
theorem dX12_stick_20 : decode cX12_stick 20 = .ok (.iload_n 2, 1) := by decide +kernel
theorem dX12_stick_21 : decode cX12_stick 21 = .ok (.ifCond .ne 7, 3) := by decide +kernel
theorem dX12_stick_24 : decode cX12_stick 24 = .ok (.iconst (-1), 1) := by decide +kernel
theorem dX12_stick_25 : decode cX12_stick 25 = .ok (.goto 4, 3) := by decide +kernel
theorem dX12_stick_28 : decode cX12_stick 28 = .ok (.iconst 0, 1) := by decide +kernel
theorem dX12_stick_29 : decode cX12_stick 29 = .ok (.iload_n 2, 1) := by decide +kernel
theorem dX12_stick_30 : decode cX12_stick 30 = .ok (.ifCond .ne 7, 3) := by decide +kernel
theorem dX12_stick_33 : decode cX12_stick 33 = .ok (.iconst 5, 1) := by decide +kernel
theorem dX12_stick_34 : decode cX12_stick 34 = .ok (.goto 15, 3) := by decide +kernel
theorem dX12_stick_37 : decode cX12_stick 37 = .ok (.iload_n 2, 1) := by decide +kernel
theorem dX12_stick_38 : decode cX12_stick 38 = .ok (.iconst 1, 1) := by decide +kernel
theorem dX12_stick_39 : decode cX12_stick 39 = .ok (.if_icmp .ne 9, 3) := by decide +kernel
theorem dX12_stick_42 : decode cX12_stick 42 = .ok (.sipush 999, 3) := by decide +kernel
theorem dX12_stick_45 : decode cX12_stick 45 = .ok (.goto 4, 3) := by decide +kernel
theorem dX12_stick_48 : decode cX12_stick 48 = .ok (.iconst 1, 1) := by decide +kernel
theorem dX12_stick_49 : decode cX12_stick 49 = .ok (.invokestatic 41, 3) := by decide +kernel
theorem dX12_stick_52 : decode cX12_stick 52 = .ok (.ifCond .eq 7, 3) := by decide +kernel
theorem dX12_stick_55 : decode cX12_stick 55 = .ok (.iconst 1, 1) := by decide +kernel
theorem dX12_stick_56 : decode cX12_stick 56 = .ok (.goto 4, 3) := by decide +kernel
theorem dX12_stick_59 : decode cX12_stick 59 = .ok (.iconst 0, 1) := by decide +kernel
theorem dX12_stick_60 : decode cX12_stick 60 = .ok (.istore 4, 2) := by decide +kernel
theorem dX12_stick_62 : decode cX12_stick 62 = .ok (.iload 4, 2) := by decide +kernel
theorem dX12_stick_64 : decode cX12_stick 64 = .ok (.ifCond .eq 18, 3) := by decide +kernel
theorem dX12_stick_67 : decode cX12_stick 67 = .ok (.aload_n 0, 1) := by decide +kernel
theorem dX12_stick_68 : decode cX12_stick 68 = .ok (.iconst 4, 1) := by decide +kernel
theorem dX12_stick_69 : decode cX12_stick 69 = .ok (.iconst 3, 1) := by decide +kernel
theorem dX12_stick_70 : decode cX12_stick 70 = .ok (.iload_n 1, 1) := by decide +kernel
theorem dX12_stick_71 : decode cX12_stick 71 = .ok (.imul, 1) := by decide +kernel
theorem dX12_stick_72 : decode cX12_stick 72 = .ok (.iadd, 1) := by decide +kernel
theorem dX12_stick_73 : decode cX12_stick 73 = .ok (.iload_n 2, 1) := by decide +kernel
theorem dX12_stick_74 : decode cX12_stick 74 = .ok (.iadd, 1) := by decide +kernel
theorem dX12_stick_75 : decode cX12_stick 75 = .ok (.iload_n 3, 1) := by decide +kernel
theorem dX12_stick_76 : decode cX12_stick 76 = .ok (.invokevirtual 63, 3) := by decide +kernel
theorem dX12_stick_79 : decode cX12_stick 79 = .ok (.goto 9, 3) := by decide +kernel
theorem dX12_stick_82 : decode cX12_stick 82 = .ok (.aload_n 0, 1) := by decide +kernel
theorem dX12_stick_83 : decode cX12_stick 83 = .ok (.ldc 35, 2) := by decide +kernel
theorem dX12_stick_85 : decode cX12_stick 85 = .ok (.invokevirtual 37, 3) := by decide +kernel
theorem dX12_stick_88 : decode cX12_stick 88 = .ok (.ireturn, 1) := by decide +kernel
theorem dX12_slipsIn_0 : decode cX12_slipsIn 0 = .ok (.iconst 0, 1) := by decide +kernel
theorem dX12_slipsIn_1 : decode cX12_slipsIn 1 = .ok (.istore_n 2, 1) := by decide +kernel
theorem dX12_slipsIn_2 : decode cX12_slipsIn 2 = .ok (.iconst 0, 1) := by decide +kernel
theorem dX12_slipsIn_3 : decode cX12_slipsIn 3 = .ok (.istore_n 3, 1) := by decide +kernel
theorem dX12_slipsIn_4 : decode cX12_slipsIn 4 = .ok (.iload_n 3, 1) := by decide +kernel
theorem dX12_slipsIn_5 : decode cX12_slipsIn 5 = .ok (.aload_n 0, 1) := by decide +kernel
theorem dX12_slipsIn_6 : decode cX12_slipsIn 6 = .ok (.getfield 9, 3) := by decide +kernel
theorem dX12_slipsIn_9 : decode cX12_slipsIn 9 = .ok (.iconst 2, 1) := by decide +kernel
theorem dX12_slipsIn_10 : decode cX12_slipsIn 10 = .ok (.iaload, 1) := by decide +kernel
theorem dX12_slipsIn_11 : decode cX12_slipsIn 11 = .ok (.if_icmp .ge 29, 3) := by decide +kernel
theorem dX12_slipsIn_14 : decode cX12_slipsIn 14 = .ok (.iload_n 2, 1) := by decide +kernel
theorem dX12_slipsIn_15 : decode cX12_slipsIn 15 = .ok (.aload_n 0, 1) := by decide +kernel
theorem dX12_slipsIn_16 : decode cX12_slipsIn 16 = .ok (.iload_n 3, 1) := by decide +kernel
theorem dX12_slipsIn_17 : decode cX12_slipsIn 17 = .ok (.iconst 0, 1) := by decide +kernel
theorem dX12_slipsIn_18 : decode cX12_slipsIn 18 = .ok (.invokevirtual 49, 3) := by decide +kernel
theorem dX12_slipsIn_21 : decode cX12_slipsIn 21 = .ok (.iload_n 1, 1) := by decide +kernel
theorem dX12_slipsIn_22 : decode cX12_slipsIn 22 = .ok (.if_icmp .ne 9, 3) := by decide +kernel
theorem dX12_slipsIn_25 : decode cX12_slipsIn 25 = .ok (.iconst 1, 1) := by decide +kernel
theorem dX12_slipsIn_26 : decode cX12_slipsIn 26 = .ok (.iload_n 3, 1) := by decide +kernel
theorem dX12_slipsIn_27 : decode cX12_slipsIn 27 = .ok (.ishl, 1) := by decide +kernel
theorem dX12_slipsIn_28 : decode cX12_slipsIn 28 = .ok (.goto 4, 3) := by decide +kernel
theorem dX12_slipsIn_31 : decode cX12_slipsIn 31 = .ok (.iconst 0, 1) := by decide +kernel
theorem dX12_slipsIn_32 : decode cX12_slipsIn 32 = .ok (.ior, 1) := by decide +kernel
theorem dX12_slipsIn_33 : decode cX12_slipsIn 33 = .ok (.istore_n 2, 1) := by decide +kernel
theorem dX12_slipsIn_34 : decode cX12_slipsIn 34 = .ok (.iinc 3 1, 3) := by decide +kernel
theorem dX12_slipsIn_37 : decode cX12_slipsIn 37 = .ok (.goto (-33), 3) := by decide +kernel
theorem dX12_slipsIn_40 : decode cX12_slipsIn 40 = .ok (.iload_n 2, 1) := by decide +kernel
theorem dX12_slipsIn_41 : decode cX12_slipsIn 41 = .ok (.ireturn, 1) := by decide +kernel
theorem dX12_group_0 : decode cX12_group 0 = .ok (.iload_n 1, 1) := by decide +kernel
theorem dX12_group_1 : decode cX12_group 1 = .ok (.i2l, 1) := by decide +kernel
theorem dX12_group_2 : decode cX12_group 2 = .ok (.iconst (-1), 1) := by decide +kernel
theorem dX12_group_3 : decode cX12_group 3 = .ok (.iconst 5, 1) := by decide +kernel
theorem dX12_group_4 : decode cX12_group 4 = .ok (.invokestatic 41, 3) := by decide +kernel
theorem dX12_group_7 : decode cX12_group 7 = .ok (.ifCond .eq 11, 3) := by decide +kernel
theorem dX12_group_10 : decode cX12_group 10 = .ok (.aload_n 0, 1) := by decide +kernel
theorem dX12_group_11 : decode cX12_group 11 = .ok (.iload_n 1, 1) := by decide +kernel
theorem dX12_group_12 : decode cX12_group 12 = .ok (.invokevirtual 84, 3) := by decide +kernel
theorem dX12_group_15 : decode cX12_group 15 = .ok (.goto 9, 3) := by decide +kernel
theorem dX12_group_18 : decode cX12_group 18 = .ok (.aload_n 0, 1) := by decide +kernel
theorem dX12_group_19 : decode cX12_group 19 = .ok (.ldc 35, 2) := by decide +kernel
theorem dX12_group_21 : decode cX12_group 21 = .ok (.invokevirtual 37, 3) := by decide +kernel
theorem dX12_group_24 : decode cX12_group 24 = .ok (.ireturn, 1) := by decide +kernel
theorem dX12_groupsHad_0 : decode cX12_groupsHad 0 = .ok (.iconst 0, 1) := by decide +kernel
theorem dX12_groupsHad_1 : decode cX12_groupsHad 1 = .ok (.istore_n 1, 1) := by decide +kernel
theorem dX12_groupsHad_2 : decode cX12_groupsHad 2 = .ok (.iconst 0, 1) := by decide +kernel
theorem dX12_groupsHad_3 : decode cX12_groupsHad 3 = .ok (.istore_n 2, 1) := by decide +kernel
theorem dX12_groupsHad_4 : decode cX12_groupsHad 4 = .ok (.iload_n 2, 1) := by decide +kernel
theorem dX12_groupsHad_5 : decode cX12_groupsHad 5 = .ok (.bipush 6, 2) := by decide +kernel
theorem dX12_groupsHad_7 : decode cX12_groupsHad 7 = .ok (.if_icmp .ge 27, 3) := by decide +kernel
theorem dX12_groupsHad_10 : decode cX12_groupsHad 10 = .ok (.iload_n 1, 1) := by decide +kernel
theorem dX12_groupsHad_11 : decode cX12_groupsHad 11 = .ok (.aload_n 0, 1) := by decide +kernel
theorem dX12_groupsHad_12 : decode cX12_groupsHad 12 = .ok (.iload_n 2, 1) := by decide +kernel
theorem dX12_groupsHad_13 : decode cX12_groupsHad 13 = .ok (.invokevirtual 84, 3) := by decide +kernel
theorem dX12_groupsHad_16 : decode cX12_groupsHad 16 = .ok (.ifCond .ne 7, 3) := by decide +kernel
theorem dX12_groupsHad_19 : decode cX12_groupsHad 19 = .ok (.iconst 0, 1) := by decide +kernel
theorem dX12_groupsHad_20 : decode cX12_groupsHad 20 = .ok (.goto 6, 3) := by decide +kernel
theorem dX12_groupsHad_23 : decode cX12_groupsHad 23 = .ok (.iconst 1, 1) := by decide +kernel
theorem dX12_groupsHad_24 : decode cX12_groupsHad 24 = .ok (.iload_n 2, 1) := by decide +kernel
theorem dX12_groupsHad_25 : decode cX12_groupsHad 25 = .ok (.ishl, 1) := by decide +kernel
theorem dX12_groupsHad_26 : decode cX12_groupsHad 26 = .ok (.ior, 1) := by decide +kernel
theorem dX12_groupsHad_27 : decode cX12_groupsHad 27 = .ok (.istore_n 1, 1) := by decide +kernel
theorem dX12_groupsHad_28 : decode cX12_groupsHad 28 = .ok (.iinc 2 1, 3) := by decide +kernel
theorem dX12_groupsHad_31 : decode cX12_groupsHad 31 = .ok (.goto (-27), 3) := by decide +kernel
theorem dX12_groupsHad_34 : decode cX12_groupsHad 34 = .ok (.iload_n 1, 1) := by decide +kernel
theorem dX12_groupsHad_35 : decode cX12_groupsHad 35 = .ok (.ireturn, 1) := by decide +kernel
theorem dX12_fixedOnes_0 : decode cX12_fixedOnes 0 = .ok (.iconst 0, 1) := by decide +kernel
theorem dX12_fixedOnes_1 : decode cX12_fixedOnes 1 = .ok (.istore_n 1, 1) := by decide +kernel
theorem dX12_fixedOnes_2 : decode cX12_fixedOnes 2 = .ok (.iconst 0, 1) := by decide +kernel
theorem dX12_fixedOnes_3 : decode cX12_fixedOnes 3 = .ok (.istore_n 2, 1) := by decide +kernel
theorem dX12_fixedOnes_4 : decode cX12_fixedOnes 4 = .ok (.iload_n 2, 1) := by decide +kernel
theorem dX12_fixedOnes_5 : decode cX12_fixedOnes 5 = .ok (.aload_n 0, 1) := by decide +kernel
theorem dX12_fixedOnes_6 : decode cX12_fixedOnes 6 = .ok (.getfield 9, 3) := by decide +kernel
theorem dX12_fixedOnes_9 : decode cX12_fixedOnes 9 = .ok (.iconst 2, 1) := by decide +kernel
theorem dX12_fixedOnes_10 : decode cX12_fixedOnes 10 = .ok (.iaload, 1) := by decide +kernel
theorem dX12_fixedOnes_11 : decode cX12_fixedOnes 11 = .ok (.if_icmp .ge 20, 3) := by decide +kernel
theorem dX12_fixedOnes_14 : decode cX12_fixedOnes 14 = .ok (.iload_n 1, 1) := by decide +kernel
theorem dX12_fixedOnes_15 : decode cX12_fixedOnes 15 = .ok (.aload_n 0, 1) := by decide +kernel
theorem dX12_fixedOnes_16 : decode cX12_fixedOnes 16 = .ok (.iload_n 2, 1) := by decide +kernel
theorem dX12_fixedOnes_17 : decode cX12_fixedOnes 17 = .ok (.iconst 2, 1) := by decide +kernel
theorem dX12_fixedOnes_18 : decode cX12_fixedOnes 18 = .ok (.invokevirtual 49, 3) := by decide +kernel
theorem dX12_fixedOnes_21 : decode cX12_fixedOnes 21 = .ok (.iload_n 2, 1) := by decide +kernel
theorem dX12_fixedOnes_22 : decode cX12_fixedOnes 22 = .ok (.ishl, 1) := by decide +kernel
theorem dX12_fixedOnes_23 : decode cX12_fixedOnes 23 = .ok (.ior, 1) := by decide +kernel
theorem dX12_fixedOnes_24 : decode cX12_fixedOnes 24 = .ok (.istore_n 1, 1) := by decide +kernel
theorem dX12_fixedOnes_25 : decode cX12_fixedOnes 25 = .ok (.iinc 2 1, 3) := by decide +kernel
theorem dX12_fixedOnes_28 : decode cX12_fixedOnes 28 = .ok (.goto (-24), 3) := by decide +kernel
theorem dX12_fixedOnes_31 : decode cX12_fixedOnes 31 = .ok (.iload_n 1, 1) := by decide +kernel
theorem dX12_fixedOnes_32 : decode cX12_fixedOnes 32 = .ok (.ireturn, 1) := by decide +kernel
theorem dX12_allMoved_0 : decode cX12_allMoved 0 = .ok (.iconst 0, 1) := by decide +kernel
theorem dX12_allMoved_1 : decode cX12_allMoved 1 = .ok (.istore_n 1, 1) := by decide +kernel
theorem dX12_allMoved_2 : decode cX12_allMoved 2 = .ok (.iconst 0, 1) := by decide +kernel
theorem dX12_allMoved_3 : decode cX12_allMoved 3 = .ok (.istore_n 2, 1) := by decide +kernel
theorem dX12_allMoved_4 : decode cX12_allMoved 4 = .ok (.iload_n 2, 1) := by decide +kernel
theorem dX12_allMoved_5 : decode cX12_allMoved 5 = .ok (.aload_n 0, 1) := by decide +kernel
theorem dX12_allMoved_6 : decode cX12_allMoved 6 = .ok (.getfield 9, 3) := by decide +kernel
theorem dX12_allMoved_9 : decode cX12_allMoved 9 = .ok (.iconst 2, 1) := by decide +kernel
theorem dX12_allMoved_10 : decode cX12_allMoved 10 = .ok (.iaload, 1) := by decide +kernel
theorem dX12_allMoved_11 : decode cX12_allMoved 11 = .ok (.if_icmp .ge 18, 3) := by decide +kernel
theorem dX12_allMoved_14 : decode cX12_allMoved 14 = .ok (.iload_n 1, 1) := by decide +kernel
theorem dX12_allMoved_15 : decode cX12_allMoved 15 = .ok (.aload_n 0, 1) := by decide +kernel
theorem dX12_allMoved_16 : decode cX12_allMoved 16 = .ok (.iload_n 2, 1) := by decide +kernel
theorem dX12_allMoved_17 : decode cX12_allMoved 17 = .ok (.iconst 1, 1) := by decide +kernel
theorem dX12_allMoved_18 : decode cX12_allMoved 18 = .ok (.invokevirtual 49, 3) := by decide +kernel
theorem dX12_allMoved_21 : decode cX12_allMoved 21 = .ok (.iadd, 1) := by decide +kernel
theorem dX12_allMoved_22 : decode cX12_allMoved 22 = .ok (.istore_n 1, 1) := by decide +kernel
theorem dX12_allMoved_23 : decode cX12_allMoved 23 = .ok (.iinc 2 1, 3) := by decide +kernel
theorem dX12_allMoved_26 : decode cX12_allMoved 26 = .ok (.goto (-22), 3) := by decide +kernel
theorem dX12_allMoved_29 : decode cX12_allMoved 29 = .ok (.iload_n 1, 1) := by decide +kernel
theorem dX12_allMoved_30 : decode cX12_allMoved 30 = .ok (.ireturn, 1) := by decide +kernel
theorem dX12_now_0 : decode cX12_now 0 = .ok (.iload_n 1, 1) := by decide +kernel
theorem dX12_now_1 : decode cX12_now 1 = .ok (.tableswitch 90 0 5 #[39, 39, 48, 75, 80, 85], 39) := by decide +kernel
theorem dX12_now_40 : decode cX12_now 40 = .ok (.aload_n 0, 1) := by decide +kernel
theorem dX12_now_41 : decode cX12_now 41 = .ok (.getfield 9, 3) := by decide +kernel
theorem dX12_now_44 : decode cX12_now 44 = .ok (.iconst 0, 1) := by decide +kernel
theorem dX12_now_45 : decode cX12_now 45 = .ok (.iload_n 1, 1) := by decide +kernel
theorem dX12_now_46 : decode cX12_now 46 = .ok (.iadd, 1) := by decide +kernel
theorem dX12_now_47 : decode cX12_now 47 = .ok (.iaload, 1) := by decide +kernel
theorem dX12_now_48 : decode cX12_now 48 = .ok (.ireturn, 1) := by decide +kernel
theorem dX12_now_49 : decode cX12_now 49 = .ok (.aload_n 0, 1) := by decide +kernel
theorem dX12_now_50 : decode cX12_now 50 = .ok (.getfield 9, 3) := by decide +kernel
theorem dX12_now_53 : decode cX12_now 53 = .ok (.iconst 3, 1) := by decide +kernel
theorem dX12_now_54 : decode cX12_now 54 = .ok (.iaload, 1) := by decide +kernel
theorem dX12_now_55 : decode cX12_now 55 = .ok (.ifCond .ne 7, 3) := by decide +kernel
theorem dX12_now_58 : decode cX12_now 58 = .ok (.iconst (-1), 1) := by decide +kernel
theorem dX12_now_59 : decode cX12_now 59 = .ok (.goto 16, 3) := by decide +kernel
theorem dX12_now_62 : decode cX12_now 62 = .ok (.aload_n 0, 1) := by decide +kernel
theorem dX12_now_63 : decode cX12_now 63 = .ok (.getfield 9, 3) := by decide +kernel
theorem dX12_now_66 : decode cX12_now 66 = .ok (.iconst 0, 1) := by decide +kernel
theorem dX12_now_67 : decode cX12_now 67 = .ok (.iaload, 1) := by decide +kernel
theorem dX12_now_68 : decode cX12_now 68 = .ok (.aload_n 0, 1) := by decide +kernel
theorem dX12_now_69 : decode cX12_now 69 = .ok (.getfield 9, 3) := by decide +kernel
theorem dX12_now_72 : decode cX12_now 72 = .ok (.iconst 3, 1) := by decide +kernel
theorem dX12_now_73 : decode cX12_now 73 = .ok (.iaload, 1) := by decide +kernel
theorem dX12_now_74 : decode cX12_now 74 = .ok (.irem, 1) := by decide +kernel
theorem dX12_now_75 : decode cX12_now 75 = .ok (.ireturn, 1) := by decide +kernel
theorem dX12_now_76 : decode cX12_now 76 = .ok (.aload_n 0, 1) := by decide +kernel
theorem dX12_now_77 : decode cX12_now 77 = .ok (.invokevirtual 87, 3) := by decide +kernel
theorem dX12_now_80 : decode cX12_now 80 = .ok (.ireturn, 1) := by decide +kernel
theorem dX12_now_81 : decode cX12_now 81 = .ok (.aload_n 0, 1) := by decide +kernel
theorem dX12_now_82 : decode cX12_now 82 = .ok (.invokevirtual 91, 3) := by decide +kernel
theorem dX12_now_85 : decode cX12_now 85 = .ok (.ireturn, 1) := by decide +kernel
theorem dX12_now_86 : decode cX12_now 86 = .ok (.aload_n 0, 1) := by decide +kernel
theorem dX12_now_87 : decode cX12_now 87 = .ok (.invokevirtual 94, 3) := by decide +kernel
theorem dX12_now_90 : decode cX12_now 90 = .ok (.ireturn, 1) := by decide +kernel
theorem dX12_now_91 : decode cX12_now 91 = .ok (.aload_n 0, 1) := by decide +kernel
theorem dX12_now_92 : decode cX12_now 92 = .ok (.ldc 35, 2) := by decide +kernel
theorem dX12_now_94 : decode cX12_now 94 = .ok (.invokevirtual 37, 3) := by decide +kernel
theorem dX12_now_97 : decode cX12_now 97 = .ok (.ireturn, 1) := by decide +kernel
theorem dX12_comesAs_0 : decode cX12_comesAs 0 = .ok (.aload_n 0, 1) := by decide +kernel
theorem dX12_comesAs_1 : decode cX12_comesAs 1 = .ok (.getfield 9, 3) := by decide +kernel
theorem dX12_comesAs_4 : decode cX12_comesAs 4 = .ok (.iconst 3, 1) := by decide +kernel
theorem dX12_comesAs_5 : decode cX12_comesAs 5 = .ok (.iaload, 1) := by decide +kernel
theorem dX12_comesAs_6 : decode cX12_comesAs 6 = .ok (.istore_n 2, 1) := by decide +kernel
theorem dX12_comesAs_7 : decode cX12_comesAs 7 = .ok (.aload_n 0, 1) := by decide +kernel
theorem dX12_comesAs_8 : decode cX12_comesAs 8 = .ok (.getfield 9, 3) := by decide +kernel
theorem dX12_comesAs_11 : decode cX12_comesAs 11 = .ok (.iconst 3, 1) := by decide +kernel
theorem dX12_comesAs_12 : decode cX12_comesAs 12 = .ok (.dup2, 1) := by decide +kernel
theorem dX12_comesAs_13 : decode cX12_comesAs 13 = .ok (.iaload, 1) := by decide +kernel
theorem dX12_comesAs_14 : decode cX12_comesAs 14 = .ok (.iconst 1, 1) := by decide +kernel
theorem dX12_comesAs_15 : decode cX12_comesAs 15 = .ok (.iadd, 1) := by decide +kernel
theorem dX12_comesAs_16 : decode cX12_comesAs 16 = .ok (.iastore, 1) := by decide +kernel
theorem dX12_comesAs_17 : decode cX12_comesAs 17 = .ok (.aload_n 0, 1) := by decide +kernel
theorem dX12_comesAs_18 : decode cX12_comesAs 18 = .ok (.getfield 9, 3) := by decide +kernel
theorem dX12_comesAs_21 : decode cX12_comesAs 21 = .ok (.bipush 34, 2) := by decide +kernel
theorem dX12_comesAs_23 : decode cX12_comesAs 23 = .ok (.bipush 12, 2) := by decide +kernel
theorem dX12_comesAs_25 : decode cX12_comesAs 25 = .ok (.iload_n 2, 1) := by decide +kernel
theorem dX12_comesAs_26 : decode cX12_comesAs 26 = .ok (.imul, 1) := by decide +kernel
theorem dX12_comesAs_27 : decode cX12_comesAs 27 = .ok (.iadd, 1) := by decide +kernel
theorem dX12_comesAs_28 : decode cX12_comesAs 28 = .ok (.iload_n 1, 1) := by decide +kernel
theorem dX12_comesAs_29 : decode cX12_comesAs 29 = .ok (.iastore, 1) := by decide +kernel
theorem dX12_comesAs_30 : decode cX12_comesAs 30 = .ok (.aload_n 0, 1) := by decide +kernel
theorem dX12_comesAs_31 : decode cX12_comesAs 31 = .ok (.getfield 9, 3) := by decide +kernel
theorem dX12_comesAs_34 : decode cX12_comesAs 34 = .ok (.bipush 34, 2) := by decide +kernel
theorem dX12_comesAs_36 : decode cX12_comesAs 36 = .ok (.bipush 12, 2) := by decide +kernel
theorem dX12_comesAs_38 : decode cX12_comesAs 38 = .ok (.iload_n 2, 1) := by decide +kernel
theorem dX12_comesAs_39 : decode cX12_comesAs 39 = .ok (.imul, 1) := by decide +kernel
theorem dX12_comesAs_40 : decode cX12_comesAs 40 = .ok (.iadd, 1) := by decide +kernel
theorem dX12_comesAs_41 : decode cX12_comesAs 41 = .ok (.iconst 1, 1) := by decide +kernel
theorem dX12_comesAs_42 : decode cX12_comesAs 42 = .ok (.iadd, 1) := by decide +kernel
theorem dX12_comesAs_43 : decode cX12_comesAs 43 = .ok (.iconst 0, 1) := by decide +kernel
theorem dX12_comesAs_44 : decode cX12_comesAs 44 = .ok (.iastore, 1) := by decide +kernel
theorem dX12_comesAs_45 : decode cX12_comesAs 45 = .ok (.iconst 0, 1) := by decide +kernel
theorem dX12_comesAs_46 : decode cX12_comesAs 46 = .ok (.istore_n 3, 1) := by decide +kernel
theorem dX12_comesAs_47 : decode cX12_comesAs 47 = .ok (.iload_n 3, 1) := by decide +kernel
theorem dX12_comesAs_48 : decode cX12_comesAs 48 = .ok (.bipush 10, 2) := by decide +kernel
theorem dX12_comesAs_50 : decode cX12_comesAs 50 = .ok (.if_icmp .ge 29, 3) := by decide +kernel
theorem dX12_comesAs_53 : decode cX12_comesAs 53 = .ok (.aload_n 0, 1) := by decide +kernel
theorem dX12_comesAs_54 : decode cX12_comesAs 54 = .ok (.getfield 9, 3) := by decide +kernel
theorem dX12_comesAs_57 : decode cX12_comesAs 57 = .ok (.bipush 34, 2) := by decide +kernel
theorem dX12_comesAs_59 : decode cX12_comesAs 59 = .ok (.bipush 12, 2) := by decide +kernel
theorem dX12_comesAs_61 : decode cX12_comesAs 61 = .ok (.iload_n 2, 1) := by decide +kernel
theorem dX12_comesAs_62 : decode cX12_comesAs 62 = .ok (.imul, 1) := by decide +kernel
theorem dX12_comesAs_63 : decode cX12_comesAs 63 = .ok (.iadd, 1) := by decide +kernel
theorem dX12_comesAs_64 : decode cX12_comesAs 64 = .ok (.iconst 2, 1) := by decide +kernel
theorem dX12_comesAs_65 : decode cX12_comesAs 65 = .ok (.iadd, 1) := by decide +kernel
theorem dX12_comesAs_66 : decode cX12_comesAs 66 = .ok (.iload_n 3, 1) := by decide +kernel
theorem dX12_comesAs_67 : decode cX12_comesAs 67 = .ok (.iadd, 1) := by decide +kernel
theorem dX12_comesAs_68 : decode cX12_comesAs 68 = .ok (.iload_n 3, 1) := by decide +kernel
theorem dX12_comesAs_69 : decode cX12_comesAs 69 = .ok (.bipush 6, 2) := by decide +kernel
theorem dX12_comesAs_71 : decode cX12_comesAs 71 = .ok (.irem, 1) := by decide +kernel
theorem dX12_comesAs_72 : decode cX12_comesAs 72 = .ok (.iastore, 1) := by decide +kernel
theorem dX12_comesAs_73 : decode cX12_comesAs 73 = .ok (.iinc 3 1, 3) := by decide +kernel
theorem dX12_comesAs_76 : decode cX12_comesAs 76 = .ok (.goto (-29), 3) := by decide +kernel
theorem dX12_comesAs_79 : decode cX12_comesAs 79 = .ok (.iload_n 2, 1) := by decide +kernel
theorem dX12_comesAs_80 : decode cX12_comesAs 80 = .ok (.ireturn, 1) := by decide +kernel
theorem dX12_person_0 : decode cX12_person 0 = .ok (.iload_n 1, 1) := by decide +kernel
theorem dX12_person_1 : decode cX12_person 1 = .ok (.i2l, 1) := by decide +kernel
theorem dX12_person_2 : decode cX12_person 2 = .ok (.iconst 0, 1) := by decide +kernel
theorem dX12_person_3 : decode cX12_person 3 = .ok (.iconst 5, 1) := by decide +kernel
theorem dX12_person_4 : decode cX12_person 4 = .ok (.invokestatic 41, 3) := by decide +kernel
theorem dX12_person_7 : decode cX12_person 7 = .ok (.ifCond .ne 10, 3) := by decide +kernel
theorem dX12_person_10 : decode cX12_person 10 = .ok (.aload_n 0, 1) := by decide +kernel
theorem dX12_person_11 : decode cX12_person 11 = .ok (.ldc 35, 2) := by decide +kernel
theorem dX12_person_13 : decode cX12_person 13 = .ok (.invokevirtual 37, 3) := by decide +kernel
theorem dX12_person_16 : decode cX12_person 16 = .ok (.ireturn, 1) := by decide +kernel
theorem dX12_person_17 : decode cX12_person 17 = .ok (.aload_n 0, 1) := by decide +kernel
theorem dX12_person_18 : decode cX12_person 18 = .ok (.getfield 9, 3) := by decide +kernel
theorem dX12_person_21 : decode cX12_person 21 = .ok (.iconst 3, 1) := by decide +kernel
theorem dX12_person_22 : decode cX12_person 22 = .ok (.iaload, 1) := by decide +kernel
theorem dX12_person_23 : decode cX12_person 23 = .ok (.bipush 6, 2) := by decide +kernel
theorem dX12_person_25 : decode cX12_person 25 = .ok (.if_icmp .ne 12, 3) := by decide +kernel
theorem dX12_person_28 : decode cX12_person 28 = .ok (.aload_n 0, 1) := by decide +kernel
theorem dX12_person_29 : decode cX12_person 29 = .ok (.ldc 70, 2) := by decide +kernel
theorem dX12_person_31 : decode cX12_person 31 = .ok (.invokevirtual 37, 3) := by decide +kernel
theorem dX12_person_34 : decode cX12_person 34 = .ok (.goto 8, 3) := by decide +kernel
theorem dX12_person_37 : decode cX12_person 37 = .ok (.aload_n 0, 1) := by decide +kernel
theorem dX12_person_38 : decode cX12_person 38 = .ok (.iload_n 1, 1) := by decide +kernel
theorem dX12_person_39 : decode cX12_person 39 = .ok (.invokevirtual 97, 3) := by decide +kernel
theorem dX12_person_42 : decode cX12_person 42 = .ok (.ireturn, 1) := by decide +kernel
theorem dX12_of_0 : decode cX12_of 0 = .ok (.aload_n 0, 1) := by decide +kernel
theorem dX12_of_1 : decode cX12_of 1 = .ok (.iload_n 1, 1) := by decide +kernel
theorem dX12_of_2 : decode cX12_of 2 = .ok (.invokevirtual 100, 3) := by decide +kernel
theorem dX12_of_5 : decode cX12_of 5 = .ok (.ifCond .ne 10, 3) := by decide +kernel
theorem dX12_of_8 : decode cX12_of 8 = .ok (.aload_n 0, 1) := by decide +kernel
theorem dX12_of_9 : decode cX12_of 9 = .ok (.ldc 35, 2) := by decide +kernel
theorem dX12_of_11 : decode cX12_of 11 = .ok (.invokevirtual 37, 3) := by decide +kernel
theorem dX12_of_14 : decode cX12_of 14 = .ok (.ireturn, 1) := by decide +kernel
theorem dX12_of_15 : decode cX12_of 15 = .ok (.iload_n 2, 1) := by decide +kernel
theorem dX12_of_16 : decode cX12_of 16 = .ok (.tableswitch 61 0 4 #[36, 36, 43, 49, 55], 36) := by decide +kernel
theorem dX12_of_52 : decode cX12_of 52 = .ok (.aload_n 0, 1) := by decide +kernel
theorem dX12_of_53 : decode cX12_of 53 = .ok (.iload_n 1, 1) := by decide +kernel
theorem dX12_of_54 : decode cX12_of 54 = .ok (.iload_n 2, 1) := by decide +kernel
theorem dX12_of_55 : decode cX12_of 55 = .ok (.invokevirtual 45, 3) := by decide +kernel
theorem dX12_of_58 : decode cX12_of 58 = .ok (.ireturn, 1) := by decide +kernel
theorem dX12_of_59 : decode cX12_of 59 = .ok (.aload_n 0, 1) := by decide +kernel
theorem dX12_of_60 : decode cX12_of 60 = .ok (.iload_n 1, 1) := by decide +kernel
theorem dX12_of_61 : decode cX12_of 61 = .ok (.invokevirtual 103, 3) := by decide +kernel
theorem dX12_of_64 : decode cX12_of 64 = .ok (.ireturn, 1) := by decide +kernel
theorem dX12_of_65 : decode cX12_of 65 = .ok (.aload_n 0, 1) := by decide +kernel
theorem dX12_of_66 : decode cX12_of 66 = .ok (.iload_n 1, 1) := by decide +kernel
theorem dX12_of_67 : decode cX12_of 67 = .ok (.invokevirtual 106, 3) := by decide +kernel
theorem dX12_of_70 : decode cX12_of 70 = .ok (.ireturn, 1) := by decide +kernel
theorem dX12_of_71 : decode cX12_of 71 = .ok (.aload_n 0, 1) := by decide +kernel
theorem dX12_of_72 : decode cX12_of 72 = .ok (.iload_n 1, 1) := by decide +kernel
theorem dX12_of_73 : decode cX12_of 73 = .ok (.invokevirtual 109, 3) := by decide +kernel
theorem dX12_of_76 : decode cX12_of 76 = .ok (.ireturn, 1) := by decide +kernel
theorem dX12_of_77 : decode cX12_of 77 = .ok (.aload_n 0, 1) := by decide +kernel
theorem dX12_of_78 : decode cX12_of 78 = .ok (.ldc 35, 2) := by decide +kernel
theorem dX12_of_80 : decode cX12_of 80 = .ok (.invokevirtual 37, 3) := by decide +kernel
theorem dX12_of_83 : decode cX12_of 83 = .ok (.ireturn, 1) := by decide +kernel
theorem dX12_wants_0 : decode cX12_wants 0 = .ok (.aload_n 0, 1) := by decide +kernel
theorem dX12_wants_1 : decode cX12_wants 1 = .ok (.iload_n 1, 1) := by decide +kernel
theorem dX12_wants_2 : decode cX12_wants 2 = .ok (.invokevirtual 100, 3) := by decide +kernel
theorem dX12_wants_5 : decode cX12_wants 5 = .ok (.ifCond .eq 28, 3) := by decide +kernel
theorem dX12_wants_8 : decode cX12_wants 8 = .ok (.iload_n 2, 1) := by decide +kernel
theorem dX12_wants_9 : decode cX12_wants 9 = .ok (.i2l, 1) := by decide +kernel
theorem dX12_wants_10 : decode cX12_wants 10 = .ok (.iconst 0, 1) := by decide +kernel
theorem dX12_wants_11 : decode cX12_wants 11 = .ok (.bipush 9, 2) := by decide +kernel
theorem dX12_wants_13 : decode cX12_wants 13 = .ok (.invokestatic 41, 3) := by decide +kernel
theorem dX12_wants_16 : decode cX12_wants 16 = .ok (.ifCond .eq 17, 3) := by decide +kernel
theorem dX12_wants_19 : decode cX12_wants 19 = .ok (.iload_n 3, 1) := by decide +kernel
theorem dX12_wants_20 : decode cX12_wants 20 = .ok (.i2l, 1) := by decide +kernel
theorem dX12_wants_21 : decode cX12_wants 21 = .ok (.iconst 0, 1) := by decide +kernel
theorem dX12_wants_22 : decode cX12_wants 22 = .ok (.iconst 5, 1) := by decide +kernel
theorem dX12_wants_23 : decode cX12_wants 23 = .ok (.invokestatic 41, 3) := by decide +kernel
theorem dX12_wants_26 : decode cX12_wants 26 = .ok (.ifCond .eq 7, 3) := by decide +kernel
theorem dX12_wants_29 : decode cX12_wants 29 = .ok (.iconst 1, 1) := by decide +kernel
theorem dX12_wants_30 : decode cX12_wants 30 = .ok (.goto 4, 3) := by decide +kernel
theorem dX12_wants_33 : decode cX12_wants 33 = .ok (.iconst 0, 1) := by decide +kernel
theorem dX12_wants_34 : decode cX12_wants 34 = .ok (.istore 4, 2) := by decide +kernel
theorem dX12_wants_36 : decode cX12_wants 36 = .ok (.iload 4, 2) := by decide +kernel
theorem dX12_wants_38 : decode cX12_wants 38 = .ok (.ifCond .eq 22, 3) := by decide +kernel
theorem dX12_wants_41 : decode cX12_wants 41 = .ok (.aload_n 0, 1) := by decide +kernel
theorem dX12_wants_42 : decode cX12_wants 42 = .ok (.bipush 34, 2) := by decide +kernel
theorem dX12_wants_44 : decode cX12_wants 44 = .ok (.bipush 12, 2) := by decide +kernel
theorem dX12_wants_46 : decode cX12_wants 46 = .ok (.iload_n 1, 1) := by decide +kernel
theorem dX12_wants_47 : decode cX12_wants 47 = .ok (.imul, 1) := by decide +kernel
theorem dX12_wants_48 : decode cX12_wants 48 = .ok (.iadd, 1) := by decide +kernel
theorem dX12_wants_49 : decode cX12_wants 49 = .ok (.iconst 2, 1) := by decide +kernel
theorem dX12_wants_50 : decode cX12_wants 50 = .ok (.iadd, 1) := by decide +kernel
theorem dX12_wants_51 : decode cX12_wants 51 = .ok (.iload_n 2, 1) := by decide +kernel
theorem dX12_wants_52 : decode cX12_wants 52 = .ok (.iadd, 1) := by decide +kernel
theorem dX12_wants_53 : decode cX12_wants 53 = .ok (.iload_n 3, 1) := by decide +kernel
theorem dX12_wants_54 : decode cX12_wants 54 = .ok (.invokevirtual 63, 3) := by decide +kernel
theorem dX12_wants_57 : decode cX12_wants 57 = .ok (.goto 9, 3) := by decide +kernel
theorem dX12_wants_60 : decode cX12_wants 60 = .ok (.aload_n 0, 1) := by decide +kernel
theorem dX12_wants_61 : decode cX12_wants 61 = .ok (.ldc 35, 2) := by decide +kernel
theorem dX12_wants_63 : decode cX12_wants 63 = .ok (.invokevirtual 37, 3) := by decide +kernel
theorem dX12_wants_66 : decode cX12_wants 66 = .ok (.ireturn, 1) := by decide +kernel
theorem dX12_out_0 : decode cX12_out 0 = .ok (.aload_n 0, 1) := by decide +kernel
theorem dX12_out_1 : decode cX12_out 1 = .ok (.iload_n 1, 1) := by decide +kernel
theorem dX12_out_2 : decode cX12_out 2 = .ok (.invokevirtual 100, 3) := by decide +kernel
theorem dX12_out_5 : decode cX12_out 5 = .ok (.ifCond .eq 30, 3) := by decide +kernel
theorem dX12_out_8 : decode cX12_out 8 = .ok (.iload_n 2, 1) := by decide +kernel
theorem dX12_out_9 : decode cX12_out 9 = .ok (.i2l, 1) := by decide +kernel
theorem dX12_out_10 : decode cX12_out 10 = .ok (.iconst 0, 1) := by decide +kernel
theorem dX12_out_11 : decode cX12_out 11 = .ok (.iconst 1, 1) := by decide +kernel
theorem dX12_out_12 : decode cX12_out 12 = .ok (.invokestatic 41, 3) := by decide +kernel
theorem dX12_out_15 : decode cX12_out 15 = .ok (.ifCond .eq 20, 3) := by decide +kernel
theorem dX12_out_18 : decode cX12_out 18 = .ok (.aload_n 0, 1) := by decide +kernel
theorem dX12_out_19 : decode cX12_out 19 = .ok (.bipush 34, 2) := by decide +kernel
theorem dX12_out_21 : decode cX12_out 21 = .ok (.bipush 12, 2) := by decide +kernel
theorem dX12_out_23 : decode cX12_out 23 = .ok (.iload_n 1, 1) := by decide +kernel
theorem dX12_out_24 : decode cX12_out 24 = .ok (.imul, 1) := by decide +kernel
theorem dX12_out_25 : decode cX12_out 25 = .ok (.iadd, 1) := by decide +kernel
theorem dX12_out_26 : decode cX12_out 26 = .ok (.iconst 1, 1) := by decide +kernel
theorem dX12_out_27 : decode cX12_out 27 = .ok (.iadd, 1) := by decide +kernel
theorem dX12_out_28 : decode cX12_out 28 = .ok (.iload_n 2, 1) := by decide +kernel
theorem dX12_out_29 : decode cX12_out 29 = .ok (.invokevirtual 63, 3) := by decide +kernel
theorem dX12_out_32 : decode cX12_out 32 = .ok (.goto 9, 3) := by decide +kernel
theorem dX12_out_35 : decode cX12_out 35 = .ok (.aload_n 0, 1) := by decide +kernel
theorem dX12_out_36 : decode cX12_out 36 = .ok (.ldc 35, 2) := by decide +kernel
theorem dX12_out_38 : decode cX12_out 38 = .ok (.invokevirtual 37, 3) := by decide +kernel
theorem dX12_out_41 : decode cX12_out 41 = .ok (.ireturn, 1) := by decide +kernel
theorem dX12_turn_0 : decode cX12_turn 0 = .ok (.aload_n 0, 1) := by decide +kernel
theorem dX12_turn_1 : decode cX12_turn 1 = .ok (.iload_n 1, 1) := by decide +kernel
theorem dX12_turn_2 : decode cX12_turn 2 = .ok (.invokevirtual 100, 3) := by decide +kernel
theorem dX12_turn_5 : decode cX12_turn 5 = .ok (.ifCond .eq 28, 3) := by decide +kernel
theorem dX12_turn_8 : decode cX12_turn 8 = .ok (.iload_n 2, 1) := by decide +kernel
theorem dX12_turn_9 : decode cX12_turn 9 = .ok (.i2l, 1) := by decide +kernel
theorem dX12_turn_10 : decode cX12_turn 10 = .ok (.iconst 0, 1) := by decide +kernel
theorem dX12_turn_11 : decode cX12_turn 11 = .ok (.iconst 5, 1) := by decide +kernel
theorem dX12_turn_12 : decode cX12_turn 12 = .ok (.invokestatic 41, 3) := by decide +kernel
theorem dX12_turn_15 : decode cX12_turn 15 = .ok (.ifCond .eq 18, 3) := by decide +kernel
theorem dX12_turn_18 : decode cX12_turn 18 = .ok (.aload_n 0, 1) := by decide +kernel
theorem dX12_turn_19 : decode cX12_turn 19 = .ok (.bipush 34, 2) := by decide +kernel
theorem dX12_turn_21 : decode cX12_turn 21 = .ok (.bipush 12, 2) := by decide +kernel
theorem dX12_turn_23 : decode cX12_turn 23 = .ok (.iload_n 1, 1) := by decide +kernel
theorem dX12_turn_24 : decode cX12_turn 24 = .ok (.imul, 1) := by decide +kernel
theorem dX12_turn_25 : decode cX12_turn 25 = .ok (.iadd, 1) := by decide +kernel
theorem dX12_turn_26 : decode cX12_turn 26 = .ok (.iload_n 2, 1) := by decide +kernel
theorem dX12_turn_27 : decode cX12_turn 27 = .ok (.invokevirtual 63, 3) := by decide +kernel
theorem dX12_turn_30 : decode cX12_turn 30 = .ok (.goto 9, 3) := by decide +kernel
theorem dX12_turn_33 : decode cX12_turn 33 = .ok (.aload_n 0, 1) := by decide +kernel
theorem dX12_turn_34 : decode cX12_turn 34 = .ok (.ldc 35, 2) := by decide +kernel
theorem dX12_turn_36 : decode cX12_turn 36 = .ok (.invokevirtual 37, 3) := by decide +kernel
theorem dX12_turn_39 : decode cX12_turn 39 = .ok (.ireturn, 1) := by decide +kernel
theorem dX12_as_0 : decode cX12_as 0 = .ok (.aload_n 0, 1) := by decide +kernel
theorem dX12_as_1 : decode cX12_as 1 = .ok (.iload_n 1, 1) := by decide +kernel
theorem dX12_as_2 : decode cX12_as 2 = .ok (.invokevirtual 100, 3) := by decide +kernel
theorem dX12_as_5 : decode cX12_as 5 = .ok (.ifCond .eq 13, 3) := by decide +kernel
theorem dX12_as_8 : decode cX12_as 8 = .ok (.iload_n 2, 1) := by decide +kernel
theorem dX12_as_9 : decode cX12_as 9 = .ok (.i2l, 1) := by decide +kernel
theorem dX12_as_10 : decode cX12_as 10 = .ok (.iconst 0, 1) := by decide +kernel
theorem dX12_as_11 : decode cX12_as 11 = .ok (.iconst 5, 1) := by decide +kernel
theorem dX12_as_12 : decode cX12_as 12 = .ok (.invokestatic 41, 3) := by decide +kernel
theorem dX12_as_15 : decode cX12_as 15 = .ok (.ifCond .ne 10, 3) := by decide +kernel
theorem dX12_as_18 : decode cX12_as 18 = .ok (.aload_n 0, 1) := by decide +kernel
theorem dX12_as_19 : decode cX12_as 19 = .ok (.ldc 35, 2) := by decide +kernel
theorem dX12_as_21 : decode cX12_as 21 = .ok (.invokevirtual 37, 3) := by decide +kernel
theorem dX12_as_24 : decode cX12_as 24 = .ok (.ireturn, 1) := by decide +kernel
theorem dX12_as_25 : decode cX12_as 25 = .ok (.aload_n 0, 1) := by decide +kernel
theorem dX12_as_26 : decode cX12_as 26 = .ok (.iload_n 1, 1) := by decide +kernel
theorem dX12_as_27 : decode cX12_as 27 = .ok (.iconst 0, 1) := by decide +kernel
theorem dX12_as_28 : decode cX12_as 28 = .ok (.invokevirtual 45, 3) := by decide +kernel
theorem dX12_as_31 : decode cX12_as 31 = .ok (.istore_n 3, 1) := by decide +kernel
theorem dX12_as_32 : decode cX12_as 32 = .ok (.iload_n 2, 1) := by decide +kernel
theorem dX12_as_33 : decode cX12_as 33 = .ok (.ifCond .eq 28, 3) := by decide +kernel
theorem dX12_as_36 : decode cX12_as 36 = .ok (.iload_n 2, 1) := by decide +kernel
theorem dX12_as_37 : decode cX12_as 37 = .ok (.iload_n 3, 1) := by decide +kernel
theorem dX12_as_38 : decode cX12_as 38 = .ok (.if_icmp .eq 23, 3) := by decide +kernel
theorem dX12_as_41 : decode cX12_as 41 = .ok (.iload_n 2, 1) := by decide +kernel
theorem dX12_as_42 : decode cX12_as 42 = .ok (.iconst 1, 1) := by decide +kernel
theorem dX12_as_43 : decode cX12_as 43 = .ok (.if_icmp .ne 8, 3) := by decide +kernel
theorem dX12_as_46 : decode cX12_as 46 = .ok (.iload_n 3, 1) := by decide +kernel
theorem dX12_as_47 : decode cX12_as 47 = .ok (.iconst 4, 1) := by decide +kernel
theorem dX12_as_48 : decode cX12_as 48 = .ok (.if_icmp .eq 13, 3) := by decide +kernel
theorem dX12_as_51 : decode cX12_as 51 = .ok (.iload_n 2, 1) := by decide +kernel
theorem dX12_as_52 : decode cX12_as 52 = .ok (.iconst 2, 1) := by decide +kernel
theorem dX12_as_53 : decode cX12_as 53 = .ok (.if_icmp .ne 12, 3) := by decide +kernel
theorem dX12_as_56 : decode cX12_as 56 = .ok (.iload_n 3, 1) := by decide +kernel
theorem dX12_as_57 : decode cX12_as 57 = .ok (.iconst 5, 1) := by decide +kernel
theorem dX12_as_58 : decode cX12_as 58 = .ok (.if_icmp .ne 7, 3) := by decide +kernel
theorem dX12_as_61 : decode cX12_as 61 = .ok (.iconst 1, 1) := by decide +kernel
theorem dX12_as_62 : decode cX12_as 62 = .ok (.goto 4, 3) := by decide +kernel
theorem dX12_as_65 : decode cX12_as 65 = .ok (.iconst 0, 1) := by decide +kernel
theorem dX12_as_66 : decode cX12_as 66 = .ok (.istore 4, 2) := by decide +kernel
theorem dX12_as_68 : decode cX12_as 68 = .ok (.iload 4, 2) := by decide +kernel
theorem dX12_as_70 : decode cX12_as 70 = .ok (.ifCond .eq 14, 3) := by decide +kernel
theorem dX12_as_73 : decode cX12_as 73 = .ok (.aload_n 0, 1) := by decide +kernel
theorem dX12_as_74 : decode cX12_as 74 = .ok (.iload_n 1, 1) := by decide +kernel
theorem dX12_as_75 : decode cX12_as 75 = .ok (.invokevirtual 103, 3) := by decide +kernel
theorem dX12_as_78 : decode cX12_as 78 = .ok (.invokestatic 112, 3) := by decide +kernel
theorem dX12_as_81 : decode cX12_as 81 = .ok (.goto 9, 3) := by decide +kernel
theorem dX12_as_84 : decode cX12_as 84 = .ok (.aload_n 0, 1) := by decide +kernel
theorem dX12_as_85 : decode cX12_as 85 = .ok (.ldc 115, 2) := by decide +kernel
theorem dX12_as_87 : decode cX12_as 87 = .ok (.invokevirtual 37, 3) := by decide +kernel
theorem dX12_as_90 : decode cX12_as 90 = .ok (.ireturn, 1) := by decide +kernel
theorem dX12_sameOf_0 : decode cX12_sameOf 0 = .ok (.iconst 0, 1) := by decide +kernel
theorem dX12_sameOf_1 : decode cX12_sameOf 1 = .ok (.istore_n 3, 1) := by decide +kernel
theorem dX12_sameOf_2 : decode cX12_sameOf 2 = .ok (.iconst 0, 1) := by decide +kernel
theorem dX12_sameOf_3 : decode cX12_sameOf 3 = .ok (.istore 4, 2) := by decide +kernel
theorem dX12_sameOf_5 : decode cX12_sameOf 5 = .ok (.iload 4, 2) := by decide +kernel
theorem dX12_sameOf_7 : decode cX12_sameOf 7 = .ok (.aload_n 0, 1) := by decide +kernel
theorem dX12_sameOf_8 : decode cX12_sameOf 8 = .ok (.getfield 9, 3) := by decide +kernel
theorem dX12_sameOf_11 : decode cX12_sameOf 11 = .ok (.iconst 2, 1) := by decide +kernel
theorem dX12_sameOf_12 : decode cX12_sameOf 12 = .ok (.iaload, 1) := by decide +kernel
theorem dX12_sameOf_13 : decode cX12_sameOf 13 = .ok (.if_icmp .ge 34, 3) := by decide +kernel
theorem dX12_sameOf_16 : decode cX12_sameOf 16 = .ok (.iload_n 3, 1) := by decide +kernel
theorem dX12_sameOf_17 : decode cX12_sameOf 17 = .ok (.aload_n 0, 1) := by decide +kernel
theorem dX12_sameOf_18 : decode cX12_sameOf 18 = .ok (.iload_n 1, 1) := by decide +kernel
theorem dX12_sameOf_19 : decode cX12_sameOf 19 = .ok (.iload 4, 2) := by decide +kernel
theorem dX12_sameOf_21 : decode cX12_sameOf 21 = .ok (.invokevirtual 52, 3) := by decide +kernel
theorem dX12_sameOf_24 : decode cX12_sameOf 24 = .ok (.aload_n 0, 1) := by decide +kernel
theorem dX12_sameOf_25 : decode cX12_sameOf 25 = .ok (.iload_n 2, 1) := by decide +kernel
theorem dX12_sameOf_26 : decode cX12_sameOf 26 = .ok (.iload 4, 2) := by decide +kernel
theorem dX12_sameOf_28 : decode cX12_sameOf 28 = .ok (.invokevirtual 52, 3) := by decide +kernel
theorem dX12_sameOf_31 : decode cX12_sameOf 31 = .ok (.if_icmp .ne 7, 3) := by decide +kernel
theorem dX12_sameOf_34 : decode cX12_sameOf 34 = .ok (.iconst 1, 1) := by decide +kernel
theorem dX12_sameOf_35 : decode cX12_sameOf 35 = .ok (.goto 4, 3) := by decide +kernel
theorem dX12_sameOf_38 : decode cX12_sameOf 38 = .ok (.iconst 0, 1) := by decide +kernel
theorem dX12_sameOf_39 : decode cX12_sameOf 39 = .ok (.iadd, 1) := by decide +kernel
theorem dX12_sameOf_40 : decode cX12_sameOf 40 = .ok (.istore_n 3, 1) := by decide +kernel
theorem dX12_sameOf_41 : decode cX12_sameOf 41 = .ok (.iinc 4 1, 3) := by decide +kernel
theorem dX12_sameOf_44 : decode cX12_sameOf 44 = .ok (.goto (-39), 3) := by decide +kernel
theorem dX12_sameOf_47 : decode cX12_sameOf 47 = .ok (.iload_n 3, 1) := by decide +kernel
theorem dX12_sameOf_48 : decode cX12_sameOf 48 = .ok (.ireturn, 1) := by decide +kernel
theorem dX12_alike_0 : decode cX12_alike 0 = .ok (.aload_n 0, 1) := by decide +kernel
theorem dX12_alike_1 : decode cX12_alike 1 = .ok (.iload_n 1, 1) := by decide +kernel
theorem dX12_alike_2 : decode cX12_alike 2 = .ok (.invokevirtual 100, 3) := by decide +kernel
theorem dX12_alike_5 : decode cX12_alike 5 = .ok (.ifCond .eq 25, 3) := by decide +kernel
theorem dX12_alike_8 : decode cX12_alike 8 = .ok (.aload_n 0, 1) := by decide +kernel
theorem dX12_alike_9 : decode cX12_alike 9 = .ok (.iload_n 2, 1) := by decide +kernel
theorem dX12_alike_10 : decode cX12_alike 10 = .ok (.invokevirtual 100, 3) := by decide +kernel
theorem dX12_alike_13 : decode cX12_alike 13 = .ok (.ifCond .eq 17, 3) := by decide +kernel
theorem dX12_alike_16 : decode cX12_alike 16 = .ok (.iload_n 1, 1) := by decide +kernel
theorem dX12_alike_17 : decode cX12_alike 17 = .ok (.iload_n 2, 1) := by decide +kernel
theorem dX12_alike_18 : decode cX12_alike 18 = .ok (.if_icmp .eq 12, 3) := by decide +kernel
theorem dX12_alike_21 : decode cX12_alike 21 = .ok (.aload_n 0, 1) := by decide +kernel
theorem dX12_alike_22 : decode cX12_alike 22 = .ok (.iload_n 1, 1) := by decide +kernel
theorem dX12_alike_23 : decode cX12_alike 23 = .ok (.iload_n 2, 1) := by decide +kernel
theorem dX12_alike_24 : decode cX12_alike 24 = .ok (.invokevirtual 116, 3) := by decide +kernel
theorem dX12_alike_27 : decode cX12_alike 27 = .ok (.goto 9, 3) := by decide +kernel
theorem dX12_alike_30 : decode cX12_alike 30 = .ok (.aload_n 0, 1) := by decide +kernel
theorem dX12_alike_31 : decode cX12_alike 31 = .ok (.ldc 35, 2) := by decide +kernel
theorem dX12_alike_33 : decode cX12_alike 33 = .ok (.invokevirtual 37, 3) := by decide +kernel
theorem dX12_alike_36 : decode cX12_alike 36 = .ok (.ireturn, 1) := by decide +kernel
theorem dX12_movesOne_0 : decode cX12_movesOne 0 = .ok (.aload_n 0, 1) := by decide +kernel
theorem dX12_movesOne_1 : decode cX12_movesOne 1 = .ok (.iload_n 1, 1) := by decide +kernel
theorem dX12_movesOne_2 : decode cX12_movesOne 2 = .ok (.invokevirtual 106, 3) := by decide +kernel
theorem dX12_movesOne_5 : decode cX12_movesOne 5 = .ok (.istore_n 2, 1) := by decide +kernel
theorem dX12_movesOne_6 : decode cX12_movesOne 6 = .ok (.iload_n 2, 1) := by decide +kernel
theorem dX12_movesOne_7 : decode cX12_movesOne 7 = .ok (.ifCond .lt 68, 3) := by decide +kernel
theorem dX12_movesOne_10 : decode cX12_movesOne 10 = .ok (.aload_n 0, 1) := by decide +kernel
theorem dX12_movesOne_11 : decode cX12_movesOne 11 = .ok (.iload_n 2, 1) := by decide +kernel
theorem dX12_movesOne_12 : decode cX12_movesOne 12 = .ok (.iconst 0, 1) := by decide +kernel
theorem dX12_movesOne_13 : decode cX12_movesOne 13 = .ok (.aload_n 0, 1) := by decide +kernel
theorem dX12_movesOne_14 : decode cX12_movesOne 14 = .ok (.iload_n 1, 1) := by decide +kernel
theorem dX12_movesOne_15 : decode cX12_movesOne 15 = .ok (.iload_n 2, 1) := by decide +kernel
theorem dX12_movesOne_16 : decode cX12_movesOne 16 = .ok (.invokevirtual 52, 3) := by decide +kernel
theorem dX12_movesOne_19 : decode cX12_movesOne 19 = .ok (.invokevirtual 66, 3) := by decide +kernel
theorem dX12_movesOne_22 : decode cX12_movesOne 22 = .ok (.aload_n 0, 1) := by decide +kernel
theorem dX12_movesOne_23 : decode cX12_movesOne 23 = .ok (.iload_n 2, 1) := by decide +kernel
theorem dX12_movesOne_24 : decode cX12_movesOne 24 = .ok (.iconst 1, 1) := by decide +kernel
theorem dX12_movesOne_25 : decode cX12_movesOne 25 = .ok (.aload_n 0, 1) := by decide +kernel
theorem dX12_movesOne_26 : decode cX12_movesOne 26 = .ok (.iload_n 2, 1) := by decide +kernel
theorem dX12_movesOne_27 : decode cX12_movesOne 27 = .ok (.iconst 1, 1) := by decide +kernel
theorem dX12_movesOne_28 : decode cX12_movesOne 28 = .ok (.invokevirtual 49, 3) := by decide +kernel
theorem dX12_movesOne_31 : decode cX12_movesOne 31 = .ok (.iconst 1, 1) := by decide +kernel
theorem dX12_movesOne_32 : decode cX12_movesOne 32 = .ok (.iadd, 1) := by decide +kernel
theorem dX12_movesOne_33 : decode cX12_movesOne 33 = .ok (.iconst 0, 1) := by decide +kernel
theorem dX12_movesOne_34 : decode cX12_movesOne 34 = .ok (.sipush 999, 3) := by decide +kernel
theorem dX12_movesOne_37 : decode cX12_movesOne 37 = .ok (.invokestatic 119, 3) := by decide +kernel
theorem dX12_movesOne_40 : decode cX12_movesOne 40 = .ok (.invokevirtual 66, 3) := by decide +kernel
theorem dX12_movesOne_43 : decode cX12_movesOne 43 = .ok (.aload_n 0, 1) := by decide +kernel
theorem dX12_movesOne_44 : decode cX12_movesOne 44 = .ok (.iload_n 2, 1) := by decide +kernel
theorem dX12_movesOne_45 : decode cX12_movesOne 45 = .ok (.iconst 2, 1) := by decide +kernel
theorem dX12_movesOne_46 : decode cX12_movesOne 46 = .ok (.aload_n 0, 1) := by decide +kernel
theorem dX12_movesOne_47 : decode cX12_movesOne 47 = .ok (.iload_n 1, 1) := by decide +kernel
theorem dX12_movesOne_48 : decode cX12_movesOne 48 = .ok (.iload_n 2, 1) := by decide +kernel
theorem dX12_movesOne_49 : decode cX12_movesOne 49 = .ok (.invokevirtual 123, 3) := by decide +kernel
theorem dX12_movesOne_52 : decode cX12_movesOne 52 = .ok (.ifCond .eq 7, 3) := by decide +kernel
theorem dX12_movesOne_55 : decode cX12_movesOne 55 = .ok (.iconst 1, 1) := by decide +kernel
theorem dX12_movesOne_56 : decode cX12_movesOne 56 = .ok (.goto 4, 3) := by decide +kernel
theorem dX12_movesOne_59 : decode cX12_movesOne 59 = .ok (.iconst 0, 1) := by decide +kernel
theorem dX12_movesOne_60 : decode cX12_movesOne 60 = .ok (.invokevirtual 66, 3) := by decide +kernel
theorem dX12_movesOne_63 : decode cX12_movesOne 63 = .ok (.aload_n 0, 1) := by decide +kernel
theorem dX12_movesOne_64 : decode cX12_movesOne 64 = .ok (.dup, 1) := by decide +kernel
theorem dX12_movesOne_65 : decode cX12_movesOne 65 = .ok (.getfield 126, 3) := by decide +kernel
theorem dX12_movesOne_68 : decode cX12_movesOne 68 = .ok (.iconst 1, 1) := by decide +kernel
theorem dX12_movesOne_69 : decode cX12_movesOne 69 = .ok (.iload_n 2, 1) := by decide +kernel
theorem dX12_movesOne_70 : decode cX12_movesOne 70 = .ok (.ishl, 1) := by decide +kernel
theorem dX12_movesOne_71 : decode cX12_movesOne 71 = .ok (.ior, 1) := by decide +kernel
theorem dX12_movesOne_72 : decode cX12_movesOne 72 = .ok (.putfield 126, 3) := by decide +kernel
theorem dX12_movesOne_75 : decode cX12_movesOne 75 = .ok (.return_, 1) := by decide +kernel
theorem dX12_goes_0 : decode cX12_goes 0 = .ok (.aload_n 0, 1) := by decide +kernel
theorem dX12_goes_1 : decode cX12_goes 1 = .ok (.iconst 0, 1) := by decide +kernel
theorem dX12_goes_2 : decode cX12_goes 2 = .ok (.putfield 126, 3) := by decide +kernel
theorem dX12_goes_5 : decode cX12_goes 5 = .ok (.aload_n 0, 1) := by decide +kernel
theorem dX12_goes_6 : decode cX12_goes 6 = .ok (.getfield 9, 3) := by decide +kernel
theorem dX12_goes_9 : decode cX12_goes 9 = .ok (.iconst 3, 1) := by decide +kernel
theorem dX12_goes_10 : decode cX12_goes 10 = .ok (.iaload, 1) := by decide +kernel
theorem dX12_goes_11 : decode cX12_goes 11 = .ok (.ifCond .ne 7, 3) := by decide +kernel
theorem dX12_goes_14 : decode cX12_goes 14 = .ok (.iconst (-1), 1) := by decide +kernel
theorem dX12_goes_15 : decode cX12_goes 15 = .ok (.goto 16, 3) := by decide +kernel
theorem dX12_goes_18 : decode cX12_goes 18 = .ok (.aload_n 0, 1) := by decide +kernel
theorem dX12_goes_19 : decode cX12_goes 19 = .ok (.getfield 9, 3) := by decide +kernel
theorem dX12_goes_22 : decode cX12_goes 22 = .ok (.iconst 0, 1) := by decide +kernel
theorem dX12_goes_23 : decode cX12_goes 23 = .ok (.iaload, 1) := by decide +kernel
theorem dX12_goes_24 : decode cX12_goes 24 = .ok (.aload_n 0, 1) := by decide +kernel
theorem dX12_goes_25 : decode cX12_goes 25 = .ok (.getfield 9, 3) := by decide +kernel
theorem dX12_goes_28 : decode cX12_goes 28 = .ok (.iconst 3, 1) := by decide +kernel
theorem dX12_goes_29 : decode cX12_goes 29 = .ok (.iaload, 1) := by decide +kernel
theorem dX12_goes_30 : decode cX12_goes 30 = .ok (.irem, 1) := by decide +kernel
theorem dX12_goes_31 : decode cX12_goes 31 = .ok (.istore_n 1, 1) := by decide +kernel
theorem dX12_goes_32 : decode cX12_goes 32 = .ok (.iload_n 1, 1) := by decide +kernel
theorem dX12_goes_33 : decode cX12_goes 33 = .ok (.ifCond .lt 34, 3) := by decide +kernel
theorem dX12_goes_36 : decode cX12_goes 36 = .ok (.aload_n 0, 1) := by decide +kernel
theorem dX12_goes_37 : decode cX12_goes 37 = .ok (.iload_n 1, 1) := by decide +kernel
theorem dX12_goes_38 : decode cX12_goes 38 = .ok (.iconst 1, 1) := by decide +kernel
theorem dX12_goes_39 : decode cX12_goes 39 = .ok (.invokevirtual 45, 3) := by decide +kernel
theorem dX12_goes_42 : decode cX12_goes 42 = .ok (.ifCond .ne 25, 3) := by decide +kernel
theorem dX12_goes_45 : decode cX12_goes 45 = .ok (.iconst 0, 1) := by decide +kernel
theorem dX12_goes_46 : decode cX12_goes 46 = .ok (.istore_n 2, 1) := by decide +kernel
theorem dX12_goes_47 : decode cX12_goes 47 = .ok (.iload_n 2, 1) := by decide +kernel
theorem dX12_goes_48 : decode cX12_goes 48 = .ok (.aload_n 0, 1) := by decide +kernel
theorem dX12_goes_49 : decode cX12_goes 49 = .ok (.iload_n 1, 1) := by decide +kernel
theorem dX12_goes_50 : decode cX12_goes 50 = .ok (.invokevirtual 109, 3) := by decide +kernel
theorem dX12_goes_53 : decode cX12_goes 53 = .ok (.if_icmp .ge 14, 3) := by decide +kernel
theorem dX12_goes_56 : decode cX12_goes 56 = .ok (.aload_n 0, 1) := by decide +kernel
theorem dX12_goes_57 : decode cX12_goes 57 = .ok (.iload_n 1, 1) := by decide +kernel
theorem dX12_goes_58 : decode cX12_goes 58 = .ok (.invokevirtual 130, 3) := by decide +kernel
theorem dX12_goes_61 : decode cX12_goes 61 = .ok (.iinc 2 1, 3) := by decide +kernel
theorem dX12_goes_64 : decode cX12_goes 64 = .ok (.goto (-17), 3) := by decide +kernel
theorem dX12_goes_67 : decode cX12_goes 67 = .ok (.aload_n 0, 1) := by decide +kernel
theorem dX12_goes_68 : decode cX12_goes 68 = .ok (.getfield 9, 3) := by decide +kernel
theorem dX12_goes_71 : decode cX12_goes 71 = .ok (.iconst 0, 1) := by decide +kernel
theorem dX12_goes_72 : decode cX12_goes 72 = .ok (.dup2, 1) := by decide +kernel
theorem dX12_goes_73 : decode cX12_goes 73 = .ok (.iaload, 1) := by decide +kernel
theorem dX12_goes_74 : decode cX12_goes 74 = .ok (.iconst 1, 1) := by decide +kernel
theorem dX12_goes_75 : decode cX12_goes 75 = .ok (.iadd, 1) := by decide +kernel
theorem dX12_goes_76 : decode cX12_goes 76 = .ok (.iastore, 1) := by decide +kernel
theorem dX12_goes_77 : decode cX12_goes 77 = .ok (.return_, 1) := by decide +kernel
theorem dX12_goesFor_0 : decode cX12_goesFor 0 = .ok (.iconst 0, 1) := by decide +kernel
theorem dX12_goesFor_1 : decode cX12_goesFor 1 = .ok (.istore_n 2, 1) := by decide +kernel
theorem dX12_goesFor_2 : decode cX12_goesFor 2 = .ok (.iload_n 2, 1) := by decide +kernel
theorem dX12_goesFor_3 : decode cX12_goesFor 3 = .ok (.iload_n 1, 1) := by decide +kernel
theorem dX12_goesFor_4 : decode cX12_goesFor 4 = .ok (.if_icmp .ge 13, 3) := by decide +kernel
theorem dX12_goesFor_7 : decode cX12_goesFor 7 = .ok (.aload_n 0, 1) := by decide +kernel
theorem dX12_goesFor_8 : decode cX12_goesFor 8 = .ok (.invokevirtual 134, 3) := by decide +kernel
theorem dX12_goesFor_11 : decode cX12_goesFor 11 = .ok (.iinc 2 1, 3) := by decide +kernel
theorem dX12_goesFor_14 : decode cX12_goesFor 14 = .ok (.goto (-12), 3) := by decide +kernel
theorem dX12_goesFor_17 : decode cX12_goesFor 17 = .ok (.return_, 1) := by decide +kernel
theorem dX12_minutes_0 : decode cX12_minutes 0 = .ok (.iload_n 1, 1) := by decide +kernel
theorem dX12_minutes_1 : decode cX12_minutes 1 = .ok (.i2l, 1) := by decide +kernel
theorem dX12_minutes_2 : decode cX12_minutes 2 = .ok (.iconst 1, 1) := by decide +kernel
theorem dX12_minutes_3 : decode cX12_minutes 3 = .ok (.bipush 100, 2) := by decide +kernel
theorem dX12_minutes_5 : decode cX12_minutes 5 = .ok (.invokestatic 41, 3) := by decide +kernel
theorem dX12_minutes_8 : decode cX12_minutes 8 = .ok (.ifCond .ne 10, 3) := by decide +kernel
theorem dX12_minutes_11 : decode cX12_minutes 11 = .ok (.aload_n 0, 1) := by decide +kernel
theorem dX12_minutes_12 : decode cX12_minutes 12 = .ok (.ldc 35, 2) := by decide +kernel
theorem dX12_minutes_14 : decode cX12_minutes 14 = .ok (.invokevirtual 37, 3) := by decide +kernel
theorem dX12_minutes_17 : decode cX12_minutes 17 = .ok (.ireturn, 1) := by decide +kernel
theorem dX12_minutes_18 : decode cX12_minutes 18 = .ok (.aload_n 0, 1) := by decide +kernel
theorem dX12_minutes_19 : decode cX12_minutes 19 = .ok (.getfield 9, 3) := by decide +kernel
theorem dX12_minutes_22 : decode cX12_minutes 22 = .ok (.iconst 0, 1) := by decide +kernel
theorem dX12_minutes_23 : decode cX12_minutes 23 = .ok (.iaload, 1) := by decide +kernel
theorem dX12_minutes_24 : decode cX12_minutes 24 = .ok (.iload_n 1, 1) := by decide +kernel
theorem dX12_minutes_25 : decode cX12_minutes 25 = .ok (.iadd, 1) := by decide +kernel
theorem dX12_minutes_26 : decode cX12_minutes 26 = .ok (.ldc 137, 2) := by decide +kernel
theorem dX12_minutes_28 : decode cX12_minutes 28 = .ok (.if_icmp .le 10, 3) := by decide +kernel
theorem dX12_minutes_31 : decode cX12_minutes 31 = .ok (.aload_n 0, 1) := by decide +kernel
theorem dX12_minutes_32 : decode cX12_minutes 32 = .ok (.ldc 138, 2) := by decide +kernel
theorem dX12_minutes_34 : decode cX12_minutes 34 = .ok (.invokevirtual 37, 3) := by decide +kernel
theorem dX12_minutes_37 : decode cX12_minutes 37 = .ok (.ireturn, 1) := by decide +kernel
theorem dX12_minutes_38 : decode cX12_minutes 38 = .ok (.aload_n 0, 1) := by decide +kernel
theorem dX12_minutes_39 : decode cX12_minutes 39 = .ok (.iload_n 1, 1) := by decide +kernel
theorem dX12_minutes_40 : decode cX12_minutes 40 = .ok (.invokevirtual 139, 3) := by decide +kernel
theorem dX12_minutes_43 : decode cX12_minutes 43 = .ok (.aload_n 0, 1) := by decide +kernel
theorem dX12_minutes_44 : decode cX12_minutes 44 = .ok (.invokevirtual 94, 3) := by decide +kernel
theorem dX12_minutes_47 : decode cX12_minutes 47 = .ok (.ireturn, 1) := by decide +kernel
theorem dX12_thinks_0 : decode cX12_thinks 0 = .ok (.aload_n 0, 1) := by decide +kernel
theorem dX12_thinks_1 : decode cX12_thinks 1 = .ok (.getfield 9, 3) := by decide +kernel
theorem dX12_thinks_4 : decode cX12_thinks 4 = .ok (.aload_n 0, 1) := by decide +kernel
theorem dX12_thinks_5 : decode cX12_thinks 5 = .ok (.getfield 16, 3) := by decide +kernel
theorem dX12_thinks_8 : decode cX12_thinks 8 = .ok (.invokestatic 142, 3) := by decide +kernel
theorem dX12_thinks_11 : decode cX12_thinks 11 = .ok (.return_, 1) := by decide +kernel
theorem dX12_putsBack_0 : decode cX12_putsBack 0 = .ok (.aload_n 0, 1) := by decide +kernel
theorem dX12_putsBack_1 : decode cX12_putsBack 1 = .ok (.getfield 16, 3) := by decide +kernel
theorem dX12_putsBack_4 : decode cX12_putsBack 4 = .ok (.aload_n 0, 1) := by decide +kernel
theorem dX12_putsBack_5 : decode cX12_putsBack 5 = .ok (.getfield 9, 3) := by decide +kernel
theorem dX12_putsBack_8 : decode cX12_putsBack 8 = .ok (.invokestatic 142, 3) := by decide +kernel
theorem dX12_putsBack_11 : decode cX12_putsBack 11 = .ok (.return_, 1) := by decide +kernel
theorem dX12_on_0 : decode cX12_on 0 = .ok (.aload_n 0, 1) := by decide +kernel
theorem dX12_on_1 : decode cX12_on 1 = .ok (.iload_n 1, 1) := by decide +kernel
theorem dX12_on_2 : decode cX12_on 2 = .ok (.invokevirtual 74, 3) := by decide +kernel
theorem dX12_on_5 : decode cX12_on 5 = .ok (.ifCond .eq 25, 3) := by decide +kernel
theorem dX12_on_8 : decode cX12_on 8 = .ok (.iload_n 2, 1) := by decide +kernel
theorem dX12_on_9 : decode cX12_on 9 = .ok (.i2l, 1) := by decide +kernel
theorem dX12_on_10 : decode cX12_on 10 = .ok (.iconst 0, 1) := by decide +kernel
theorem dX12_on_11 : decode cX12_on 11 = .ok (.sipush 200, 3) := by decide +kernel
theorem dX12_on_14 : decode cX12_on 14 = .ok (.invokestatic 41, 3) := by decide +kernel
theorem dX12_on_17 : decode cX12_on 17 = .ok (.ifCond .eq 13, 3) := by decide +kernel
theorem dX12_on_20 : decode cX12_on 20 = .ok (.iload_n 3, 1) := by decide +kernel
theorem dX12_on_21 : decode cX12_on 21 = .ok (.i2l, 1) := by decide +kernel
theorem dX12_on_22 : decode cX12_on 22 = .ok (.iconst 0, 1) := by decide +kernel
theorem dX12_on_23 : decode cX12_on 23 = .ok (.iconst 2, 1) := by decide +kernel
theorem dX12_on_24 : decode cX12_on 24 = .ok (.invokestatic 41, 3) := by decide +kernel
theorem dX12_on_27 : decode cX12_on 27 = .ok (.ifCond .ne 10, 3) := by decide +kernel
theorem dX12_on_30 : decode cX12_on 30 = .ok (.aload_n 0, 1) := by decide +kernel
theorem dX12_on_31 : decode cX12_on 31 = .ok (.ldc 35, 2) := by decide +kernel
theorem dX12_on_33 : decode cX12_on 33 = .ok (.invokevirtual 37, 3) := by decide +kernel
theorem dX12_on_36 : decode cX12_on 36 = .ok (.ireturn, 1) := by decide +kernel
theorem dX12_on_37 : decode cX12_on 37 = .ok (.aload_n 0, 1) := by decide +kernel
theorem dX12_on_38 : decode cX12_on 38 = .ok (.invokevirtual 146, 3) := by decide +kernel
theorem dX12_on_41 : decode cX12_on 41 = .ok (.aload_n 0, 1) := by decide +kernel
theorem dX12_on_42 : decode cX12_on 42 = .ok (.iload_n 2, 1) := by decide +kernel
theorem dX12_on_43 : decode cX12_on 43 = .ok (.invokevirtual 139, 3) := by decide +kernel
theorem dX12_on_46 : decode cX12_on 46 = .ok (.aload_n 0, 1) := by decide +kernel
theorem dX12_on_47 : decode cX12_on 47 = .ok (.iload_n 1, 1) := by decide +kernel
theorem dX12_on_48 : decode cX12_on 48 = .ok (.iload_n 3, 1) := by decide +kernel
theorem dX12_on_49 : decode cX12_on 49 = .ok (.invokevirtual 49, 3) := by decide +kernel
theorem dX12_on_52 : decode cX12_on 52 = .ok (.istore 4, 2) := by decide +kernel
theorem dX12_on_54 : decode cX12_on 54 = .ok (.aload_n 0, 1) := by decide +kernel
theorem dX12_on_55 : decode cX12_on 55 = .ok (.invokevirtual 149, 3) := by decide +kernel
theorem dX12_on_58 : decode cX12_on 58 = .ok (.iload 4, 2) := by decide +kernel
theorem dX12_on_60 : decode cX12_on 60 = .ok (.ireturn, 1) := by decide +kernel
theorem dX12_way_0 : decode cX12_way 0 = .ok (.aload_n 0, 1) := by decide +kernel
theorem dX12_way_1 : decode cX12_way 1 = .ok (.iload_n 1, 1) := by decide +kernel
theorem dX12_way_2 : decode cX12_way 2 = .ok (.invokevirtual 100, 3) := by decide +kernel
theorem dX12_way_5 : decode cX12_way 5 = .ok (.ifCond .eq 15, 3) := by decide +kernel
theorem dX12_way_8 : decode cX12_way 8 = .ok (.iload_n 2, 1) := by decide +kernel
theorem dX12_way_9 : decode cX12_way 9 = .ok (.i2l, 1) := by decide +kernel
theorem dX12_way_10 : decode cX12_way 10 = .ok (.iconst 0, 1) := by decide +kernel
theorem dX12_way_11 : decode cX12_way 11 = .ok (.sipush 200, 3) := by decide +kernel
theorem dX12_way_14 : decode cX12_way 14 = .ok (.invokestatic 41, 3) := by decide +kernel
theorem dX12_way_17 : decode cX12_way 17 = .ok (.ifCond .ne 10, 3) := by decide +kernel
theorem dX12_way_20 : decode cX12_way 20 = .ok (.aload_n 0, 1) := by decide +kernel
theorem dX12_way_21 : decode cX12_way 21 = .ok (.ldc 35, 2) := by decide +kernel
theorem dX12_way_23 : decode cX12_way 23 = .ok (.invokevirtual 37, 3) := by decide +kernel
theorem dX12_way_26 : decode cX12_way 26 = .ok (.ireturn, 1) := by decide +kernel
theorem dX12_way_27 : decode cX12_way 27 = .ok (.aload_n 0, 1) := by decide +kernel
theorem dX12_way_28 : decode cX12_way 28 = .ok (.invokevirtual 146, 3) := by decide +kernel
theorem dX12_way_31 : decode cX12_way 31 = .ok (.aload_n 0, 1) := by decide +kernel
theorem dX12_way_32 : decode cX12_way 32 = .ok (.iload_n 1, 1) := by decide +kernel
theorem dX12_way_33 : decode cX12_way 33 = .ok (.iload_n 2, 1) := by decide +kernel
theorem dX12_way_34 : decode cX12_way 34 = .ok (.invokevirtual 152, 3) := by decide +kernel
theorem dX12_way_37 : decode cX12_way 37 = .ok (.ireturn, 1) := by decide +kernel
theorem dX12_done_0 : decode cX12_done 0 = .ok (.aload_n 0, 1) := by decide +kernel
theorem dX12_done_1 : decode cX12_done 1 = .ok (.invokevirtual 146, 3) := by decide +kernel
theorem dX12_done_4 : decode cX12_done 4 = .ok (.iconst 0, 1) := by decide +kernel
theorem dX12_done_5 : decode cX12_done 5 = .ok (.istore_n 1, 1) := by decide +kernel
theorem dX12_done_6 : decode cX12_done 6 = .ok (.iconst 0, 1) := by decide +kernel
theorem dX12_done_7 : decode cX12_done 7 = .ok (.istore_n 2, 1) := by decide +kernel
theorem dX12_done_8 : decode cX12_done 8 = .ok (.iload_n 1, 1) := by decide +kernel
theorem dX12_done_9 : decode cX12_done 9 = .ok (.sipush 200, 3) := by decide +kernel
theorem dX12_done_12 : decode cX12_done 12 = .ok (.if_icmp .gt 38, 3) := by decide +kernel
theorem dX12_done_15 : decode cX12_done 15 = .ok (.iload_n 2, 1) := by decide +kernel
theorem dX12_done_16 : decode cX12_done 16 = .ok (.iload_n 1, 1) := by decide +kernel
theorem dX12_done_17 : decode cX12_done 17 = .ok (.isub, 1) := by decide +kernel
theorem dX12_done_18 : decode cX12_done 18 = .ok (.aload_n 0, 1) := by decide +kernel
theorem dX12_done_19 : decode cX12_done 19 = .ok (.getfield 9, 3) := by decide +kernel
theorem dX12_done_22 : decode cX12_done 22 = .ok (.iconst 3, 1) := by decide +kernel
theorem dX12_done_23 : decode cX12_done 23 = .ok (.iaload, 1) := by decide +kernel
theorem dX12_done_24 : decode cX12_done 24 = .ok (.if_icmp .ge 26, 3) := by decide +kernel
theorem dX12_done_27 : decode cX12_done 27 = .ok (.aload_n 0, 1) := by decide +kernel
theorem dX12_done_28 : decode cX12_done 28 = .ok (.invokevirtual 134, 3) := by decide +kernel
theorem dX12_done_31 : decode cX12_done 31 = .ok (.iinc 2 1, 3) := by decide +kernel
theorem dX12_done_34 : decode cX12_done 34 = .ok (.aload_n 0, 1) := by decide +kernel
theorem dX12_done_35 : decode cX12_done 35 = .ok (.getfield 126, 3) := by decide +kernel
theorem dX12_done_38 : decode cX12_done 38 = .ok (.ifCond .ne 7, 3) := by decide +kernel
theorem dX12_done_41 : decode cX12_done 41 = .ok (.iload_n 1, 1) := by decide +kernel
theorem dX12_done_42 : decode cX12_done 42 = .ok (.goto 4, 3) := by decide +kernel
theorem dX12_done_45 : decode cX12_done 45 = .ok (.iload_n 2, 1) := by decide +kernel
theorem dX12_done_46 : decode cX12_done 46 = .ok (.istore_n 1, 1) := by decide +kernel
theorem dX12_done_47 : decode cX12_done 47 = .ok (.goto (-39), 3) := by decide +kernel
theorem dX12_done_50 : decode cX12_done 50 = .ok (.aload_n 0, 1) := by decide +kernel
theorem dX12_done_51 : decode cX12_done 51 = .ok (.invokevirtual 149, 3) := by decide +kernel
theorem dX12_done_54 : decode cX12_done 54 = .ok (.iload_n 1, 1) := by decide +kernel
theorem dX12_done_55 : decode cX12_done 55 = .ok (.sipush 200, 3) := by decide +kernel
theorem dX12_done_58 : decode cX12_done 58 = .ok (.if_icmp .le 12, 3) := by decide +kernel
theorem dX12_done_61 : decode cX12_done 61 = .ok (.aload_n 0, 1) := by decide +kernel
theorem dX12_done_62 : decode cX12_done 62 = .ok (.ldc 36, 2) := by decide +kernel
theorem dX12_done_64 : decode cX12_done 64 = .ok (.invokevirtual 37, 3) := by decide +kernel
theorem dX12_done_67 : decode cX12_done 67 = .ok (.goto 4, 3) := by decide +kernel
theorem dX12_done_70 : decode cX12_done 70 = .ok (.iload_n 1, 1) := by decide +kernel
theorem dX12_done_71 : decode cX12_done 71 = .ok (.ireturn, 1) := by decide +kernel
theorem dX12_moved_0 : decode cX12_moved 0 = .ok (.aload_n 0, 1) := by decide +kernel
theorem dX12_moved_1 : decode cX12_moved 1 = .ok (.iload_n 1, 1) := by decide +kernel
theorem dX12_moved_2 : decode cX12_moved 2 = .ok (.invokevirtual 74, 3) := by decide +kernel
theorem dX12_moved_5 : decode cX12_moved 5 = .ok (.ifCond .ne 10, 3) := by decide +kernel
theorem dX12_moved_8 : decode cX12_moved 8 = .ok (.aload_n 0, 1) := by decide +kernel
theorem dX12_moved_9 : decode cX12_moved 9 = .ok (.ldc 35, 2) := by decide +kernel
theorem dX12_moved_11 : decode cX12_moved 11 = .ok (.invokevirtual 37, 3) := by decide +kernel
theorem dX12_moved_14 : decode cX12_moved 14 = .ok (.ireturn, 1) := by decide +kernel
theorem dX12_moved_15 : decode cX12_moved 15 = .ok (.aload_n 0, 1) := by decide +kernel
theorem dX12_moved_16 : decode cX12_moved 16 = .ok (.invokevirtual 146, 3) := by decide +kernel
theorem dX12_moved_19 : decode cX12_moved 19 = .ok (.iconst 1, 1) := by decide +kernel
theorem dX12_moved_20 : decode cX12_moved 20 = .ok (.istore_n 2, 1) := by decide +kernel
theorem dX12_moved_21 : decode cX12_moved 21 = .ok (.aload_n 0, 1) := by decide +kernel
theorem dX12_moved_22 : decode cX12_moved 22 = .ok (.invokevirtual 134, 3) := by decide +kernel
theorem dX12_moved_25 : decode cX12_moved 25 = .ok (.iload_n 2, 1) := by decide +kernel
theorem dX12_moved_26 : decode cX12_moved 26 = .ok (.sipush 200, 3) := by decide +kernel
theorem dX12_moved_29 : decode cX12_moved 29 = .ok (.if_icmp .gt 24, 3) := by decide +kernel
theorem dX12_moved_32 : decode cX12_moved 32 = .ok (.aload_n 0, 1) := by decide +kernel
theorem dX12_moved_33 : decode cX12_moved 33 = .ok (.getfield 126, 3) := by decide +kernel
theorem dX12_moved_36 : decode cX12_moved 36 = .ok (.iload_n 1, 1) := by decide +kernel
theorem dX12_moved_37 : decode cX12_moved 37 = .ok (.ishr, 1) := by decide +kernel
theorem dX12_moved_38 : decode cX12_moved 38 = .ok (.iconst 1, 1) := by decide +kernel
theorem dX12_moved_39 : decode cX12_moved 39 = .ok (.iand, 1) := by decide +kernel
theorem dX12_moved_40 : decode cX12_moved 40 = .ok (.ifCond .ne 13, 3) := by decide +kernel
theorem dX12_moved_43 : decode cX12_moved 43 = .ok (.aload_n 0, 1) := by decide +kernel
theorem dX12_moved_44 : decode cX12_moved 44 = .ok (.invokevirtual 134, 3) := by decide +kernel
theorem dX12_moved_47 : decode cX12_moved 47 = .ok (.iinc 2 1, 3) := by decide +kernel
theorem dX12_moved_50 : decode cX12_moved 50 = .ok (.goto (-25), 3) := by decide +kernel
theorem dX12_moved_53 : decode cX12_moved 53 = .ok (.aload_n 0, 1) := by decide +kernel
theorem dX12_moved_54 : decode cX12_moved 54 = .ok (.invokevirtual 149, 3) := by decide +kernel
theorem dX12_moved_57 : decode cX12_moved 57 = .ok (.iload_n 2, 1) := by decide +kernel
theorem dX12_moved_58 : decode cX12_moved 58 = .ok (.sipush 200, 3) := by decide +kernel
theorem dX12_moved_61 : decode cX12_moved 61 = .ok (.if_icmp .le 12, 3) := by decide +kernel
theorem dX12_moved_64 : decode cX12_moved 64 = .ok (.aload_n 0, 1) := by decide +kernel
theorem dX12_moved_65 : decode cX12_moved 65 = .ok (.ldc 36, 2) := by decide +kernel
theorem dX12_moved_67 : decode cX12_moved 67 = .ok (.invokevirtual 37, 3) := by decide +kernel
theorem dX12_moved_70 : decode cX12_moved 70 = .ok (.goto 4, 3) := by decide +kernel
theorem dX12_moved_73 : decode cX12_moved 73 = .ok (.iload_n 2, 1) := by decide +kernel
theorem dX12_moved_74 : decode cX12_moved 74 = .ok (.ireturn, 1) := by decide +kernel
theorem dX12_wayOn_0 : decode cX12_wayOn 0 = .ok (.aload_n 0, 1) := by decide +kernel
theorem dX12_wayOn_1 : decode cX12_wayOn 1 = .ok (.iload_n 2, 1) := by decide +kernel
theorem dX12_wayOn_2 : decode cX12_wayOn 2 = .ok (.invokevirtual 139, 3) := by decide +kernel
theorem dX12_wayOn_5 : decode cX12_wayOn 5 = .ok (.aload_n 0, 1) := by decide +kernel
theorem dX12_wayOn_6 : decode cX12_wayOn 6 = .ok (.iload_n 1, 1) := by decide +kernel
theorem dX12_wayOn_7 : decode cX12_wayOn 7 = .ok (.invokevirtual 103, 3) := by decide +kernel
theorem dX12_wayOn_10 : decode cX12_wayOn 10 = .ok (.invokestatic 112, 3) := by decide +kernel
theorem dX12_wayOn_13 : decode cX12_wayOn 13 = .ok (.istore_n 3, 1) := by decide +kernel
theorem dX12_wayOn_14 : decode cX12_wayOn 14 = .ok (.aload_n 0, 1) := by decide +kernel
theorem dX12_wayOn_15 : decode cX12_wayOn 15 = .ok (.invokevirtual 149, 3) := by decide +kernel
theorem dX12_wayOn_18 : decode cX12_wayOn 18 = .ok (.iload_n 3, 1) := by decide +kernel
theorem dX12_wayOn_19 : decode cX12_wayOn 19 = .ok (.ireturn, 1) := by decide +kernel
theorem dX12_bestAt_0 : decode cX12_bestAt 0 = .ok (.aload_n 0, 1) := by decide +kernel
theorem dX12_bestAt_1 : decode cX12_bestAt 1 = .ok (.invokevirtual 146, 3) := by decide +kernel
theorem dX12_bestAt_4 : decode cX12_bestAt 4 = .ok (.iconst 0, 1) := by decide +kernel
theorem dX12_bestAt_5 : decode cX12_bestAt 5 = .ok (.istore 5, 2) := by decide +kernel
theorem dX12_bestAt_7 : decode cX12_bestAt 7 = .ok (.iconst (-1), 1) := by decide +kernel
theorem dX12_bestAt_8 : decode cX12_bestAt 8 = .ok (.istore 6, 2) := by decide +kernel
theorem dX12_bestAt_10 : decode cX12_bestAt 10 = .ok (.iconst 0, 1) := by decide +kernel
theorem dX12_bestAt_11 : decode cX12_bestAt 11 = .ok (.istore 7, 2) := by decide +kernel
theorem dX12_bestAt_13 : decode cX12_bestAt 13 = .ok (.iload 7, 2) := by decide +kernel
theorem dX12_bestAt_15 : decode cX12_bestAt 15 = .ok (.iload_n 2, 1) := by decide +kernel
theorem dX12_bestAt_16 : decode cX12_bestAt 16 = .ok (.if_icmp .ge 58, 3) := by decide +kernel
theorem dX12_bestAt_19 : decode cX12_bestAt 19 = .ok (.aload_n 0, 1) := by decide +kernel
theorem dX12_bestAt_20 : decode cX12_bestAt 20 = .ok (.getfield 9, 3) := by decide +kernel
theorem dX12_bestAt_23 : decode cX12_bestAt 23 = .ok (.iload_n 1, 1) := by decide +kernel
theorem dX12_bestAt_24 : decode cX12_bestAt 24 = .ok (.iload 7, 2) := by decide +kernel
theorem dX12_bestAt_26 : decode cX12_bestAt 26 = .ok (.iastore, 1) := by decide +kernel
theorem dX12_bestAt_27 : decode cX12_bestAt 27 = .ok (.aload_n 0, 1) := by decide +kernel
theorem dX12_bestAt_28 : decode cX12_bestAt 28 = .ok (.iload_n 3, 1) := by decide +kernel
theorem dX12_bestAt_29 : decode cX12_bestAt 29 = .ok (.iload 4, 2) := by decide +kernel
theorem dX12_bestAt_31 : decode cX12_bestAt 31 = .ok (.invokevirtual 152, 3) := by decide +kernel
theorem dX12_bestAt_34 : decode cX12_bestAt 34 = .ok (.istore 8, 2) := by decide +kernel
theorem dX12_bestAt_36 : decode cX12_bestAt 36 = .ok (.iload 8, 2) := by decide +kernel
theorem dX12_bestAt_38 : decode cX12_bestAt 38 = .ok (.iload 6, 2) := by decide +kernel
theorem dX12_bestAt_40 : decode cX12_bestAt 40 = .ok (.if_icmp .le 8, 3) := by decide +kernel
theorem dX12_bestAt_43 : decode cX12_bestAt 43 = .ok (.iload 7, 2) := by decide +kernel
theorem dX12_bestAt_45 : decode cX12_bestAt 45 = .ok (.goto 5, 3) := by decide +kernel
theorem dX12_bestAt_48 : decode cX12_bestAt 48 = .ok (.iload 5, 2) := by decide +kernel
theorem dX12_bestAt_50 : decode cX12_bestAt 50 = .ok (.istore 5, 2) := by decide +kernel
theorem dX12_bestAt_52 : decode cX12_bestAt 52 = .ok (.iload 8, 2) := by decide +kernel
theorem dX12_bestAt_54 : decode cX12_bestAt 54 = .ok (.iload 6, 2) := by decide +kernel
theorem dX12_bestAt_56 : decode cX12_bestAt 56 = .ok (.if_icmp .le 8, 3) := by decide +kernel
theorem dX12_bestAt_59 : decode cX12_bestAt 59 = .ok (.iload 8, 2) := by decide +kernel
theorem dX12_bestAt_61 : decode cX12_bestAt 61 = .ok (.goto 5, 3) := by decide +kernel
theorem dX12_bestAt_64 : decode cX12_bestAt 64 = .ok (.iload 6, 2) := by decide +kernel
theorem dX12_bestAt_66 : decode cX12_bestAt 66 = .ok (.istore 6, 2) := by decide +kernel
theorem dX12_bestAt_68 : decode cX12_bestAt 68 = .ok (.iinc 7 1, 3) := by decide +kernel
theorem dX12_bestAt_71 : decode cX12_bestAt 71 = .ok (.goto (-58), 3) := by decide +kernel
theorem dX12_bestAt_74 : decode cX12_bestAt 74 = .ok (.iload 5, 2) := by decide +kernel
theorem dX12_bestAt_76 : decode cX12_bestAt 76 = .ok (.ireturn, 1) := by decide +kernel
theorem dX12_rule_0 : decode cX12_rule 0 = .ok (.aload_n 0, 1) := by decide +kernel
theorem dX12_rule_1 : decode cX12_rule 1 = .ok (.iload_n 1, 1) := by decide +kernel
theorem dX12_rule_2 : decode cX12_rule 2 = .ok (.invokevirtual 100, 3) := by decide +kernel
theorem dX12_rule_5 : decode cX12_rule 5 = .ok (.ifCond .eq 26, 3) := by decide +kernel
theorem dX12_rule_8 : decode cX12_rule 8 = .ok (.iload_n 2, 1) := by decide +kernel
theorem dX12_rule_9 : decode cX12_rule 9 = .ok (.i2l, 1) := by decide +kernel
theorem dX12_rule_10 : decode cX12_rule 10 = .ok (.iconst 1, 1) := by decide +kernel
theorem dX12_rule_11 : decode cX12_rule 11 = .ok (.bipush 100, 2) := by decide +kernel
theorem dX12_rule_13 : decode cX12_rule 13 = .ok (.invokestatic 41, 3) := by decide +kernel
theorem dX12_rule_16 : decode cX12_rule 16 = .ok (.ifCond .eq 15, 3) := by decide +kernel
theorem dX12_rule_19 : decode cX12_rule 19 = .ok (.aload_n 0, 1) := by decide +kernel
theorem dX12_rule_20 : decode cX12_rule 20 = .ok (.iconst 1, 1) := by decide +kernel
theorem dX12_rule_21 : decode cX12_rule 21 = .ok (.bipush 21, 2) := by decide +kernel
theorem dX12_rule_23 : decode cX12_rule 23 = .ok (.iload_n 1, 1) := by decide +kernel
theorem dX12_rule_24 : decode cX12_rule 24 = .ok (.iload_n 2, 1) := by decide +kernel
theorem dX12_rule_25 : decode cX12_rule 25 = .ok (.invokevirtual 155, 3) := by decide +kernel
theorem dX12_rule_28 : decode cX12_rule 28 = .ok (.goto 9, 3) := by decide +kernel
theorem dX12_rule_31 : decode cX12_rule 31 = .ok (.aload_n 0, 1) := by decide +kernel
theorem dX12_rule_32 : decode cX12_rule 32 = .ok (.ldc 35, 2) := by decide +kernel
theorem dX12_rule_34 : decode cX12_rule 34 = .ok (.invokevirtual 37, 3) := by decide +kernel
theorem dX12_rule_37 : decode cX12_rule 37 = .ok (.ireturn, 1) := by decide +kernel
theorem dX12_send_0 : decode cX12_send 0 = .ok (.aload_n 0, 1) := by decide +kernel
theorem dX12_send_1 : decode cX12_send 1 = .ok (.iload_n 1, 1) := by decide +kernel
theorem dX12_send_2 : decode cX12_send 2 = .ok (.invokevirtual 100, 3) := by decide +kernel
theorem dX12_send_5 : decode cX12_send 5 = .ok (.ifCond .eq 14, 3) := by decide +kernel
theorem dX12_send_8 : decode cX12_send 8 = .ok (.iload_n 2, 1) := by decide +kernel
theorem dX12_send_9 : decode cX12_send 9 = .ok (.i2l, 1) := by decide +kernel
theorem dX12_send_10 : decode cX12_send 10 = .ok (.iconst 1, 1) := by decide +kernel
theorem dX12_send_11 : decode cX12_send 11 = .ok (.bipush 100, 2) := by decide +kernel
theorem dX12_send_13 : decode cX12_send 13 = .ok (.invokestatic 41, 3) := by decide +kernel
theorem dX12_send_16 : decode cX12_send 16 = .ok (.ifCond .ne 10, 3) := by decide +kernel
theorem dX12_send_19 : decode cX12_send 19 = .ok (.aload_n 0, 1) := by decide +kernel
theorem dX12_send_20 : decode cX12_send 20 = .ok (.ldc 35, 2) := by decide +kernel
theorem dX12_send_22 : decode cX12_send 22 = .ok (.invokevirtual 37, 3) := by decide +kernel
theorem dX12_send_25 : decode cX12_send 25 = .ok (.ireturn, 1) := by decide +kernel
theorem dX12_send_26 : decode cX12_send 26 = .ok (.aload_n 0, 1) := by decide +kernel
theorem dX12_send_27 : decode cX12_send 27 = .ok (.invokevirtual 146, 3) := by decide +kernel
theorem dX12_send_30 : decode cX12_send 30 = .ok (.iconst (-1), 1) := by decide +kernel
theorem dX12_send_31 : decode cX12_send 31 = .ok (.istore_n 3, 1) := by decide +kernel
theorem dX12_send_32 : decode cX12_send 32 = .ok (.iconst (-1), 1) := by decide +kernel
theorem dX12_send_33 : decode cX12_send 33 = .ok (.istore 4, 2) := by decide +kernel
theorem dX12_send_35 : decode cX12_send 35 = .ok (.iconst 0, 1) := by decide +kernel
theorem dX12_send_36 : decode cX12_send 36 = .ok (.istore 5, 2) := by decide +kernel
theorem dX12_send_38 : decode cX12_send 38 = .ok (.iload 5, 2) := by decide +kernel
theorem dX12_send_40 : decode cX12_send 40 = .ok (.aload_n 0, 1) := by decide +kernel
theorem dX12_send_41 : decode cX12_send 41 = .ok (.getfield 9, 3) := by decide +kernel
theorem dX12_send_44 : decode cX12_send 44 = .ok (.iconst 3, 1) := by decide +kernel
theorem dX12_send_45 : decode cX12_send 45 = .ok (.iaload, 1) := by decide +kernel
theorem dX12_send_46 : decode cX12_send 46 = .ok (.if_icmp .ge 79, 3) := by decide +kernel
theorem dX12_send_49 : decode cX12_send 49 = .ok (.iload 5, 2) := by decide +kernel
theorem dX12_send_51 : decode cX12_send 51 = .ok (.iload_n 1, 1) := by decide +kernel
theorem dX12_send_52 : decode cX12_send 52 = .ok (.if_icmp .eq 67, 3) := by decide +kernel
theorem dX12_send_55 : decode cX12_send 55 = .ok (.aload_n 0, 1) := by decide +kernel
theorem dX12_send_56 : decode cX12_send 56 = .ok (.iload 5, 2) := by decide +kernel
theorem dX12_send_58 : decode cX12_send 58 = .ok (.iconst 1, 1) := by decide +kernel
theorem dX12_send_59 : decode cX12_send 59 = .ok (.invokevirtual 45, 3) := by decide +kernel
theorem dX12_send_62 : decode cX12_send 62 = .ok (.ifCond .ne 57, 3) := by decide +kernel
theorem dX12_send_65 : decode cX12_send 65 = .ok (.aload_n 0, 1) := by decide +kernel
theorem dX12_send_66 : decode cX12_send 66 = .ok (.getfield 9, 3) := by decide +kernel
theorem dX12_send_69 : decode cX12_send 69 = .ok (.bipush 34, 2) := by decide +kernel
theorem dX12_send_71 : decode cX12_send 71 = .ok (.bipush 12, 2) := by decide +kernel
theorem dX12_send_73 : decode cX12_send 73 = .ok (.iload 5, 2) := by decide +kernel
theorem dX12_send_75 : decode cX12_send 75 = .ok (.imul, 1) := by decide +kernel
theorem dX12_send_76 : decode cX12_send 76 = .ok (.iadd, 1) := by decide +kernel
theorem dX12_send_77 : decode cX12_send 77 = .ok (.iconst 1, 1) := by decide +kernel
theorem dX12_send_78 : decode cX12_send 78 = .ok (.iadd, 1) := by decide +kernel
theorem dX12_send_79 : decode cX12_send 79 = .ok (.iconst 1, 1) := by decide +kernel
theorem dX12_send_80 : decode cX12_send 80 = .ok (.iastore, 1) := by decide +kernel
theorem dX12_send_81 : decode cX12_send 81 = .ok (.aload_n 0, 1) := by decide +kernel
theorem dX12_send_82 : decode cX12_send 82 = .ok (.iload_n 1, 1) := by decide +kernel
theorem dX12_send_83 : decode cX12_send 83 = .ok (.iload_n 2, 1) := by decide +kernel
theorem dX12_send_84 : decode cX12_send 84 = .ok (.invokevirtual 152, 3) := by decide +kernel
theorem dX12_send_87 : decode cX12_send 87 = .ok (.istore 6, 2) := by decide +kernel
theorem dX12_send_89 : decode cX12_send 89 = .ok (.iload 6, 2) := by decide +kernel
theorem dX12_send_91 : decode cX12_send 91 = .ok (.iload 4, 2) := by decide +kernel
theorem dX12_send_93 : decode cX12_send 93 = .ok (.if_icmp .le 8, 3) := by decide +kernel
theorem dX12_send_96 : decode cX12_send 96 = .ok (.iload 5, 2) := by decide +kernel
theorem dX12_send_98 : decode cX12_send 98 = .ok (.goto 4, 3) := by decide +kernel
theorem dX12_send_101 : decode cX12_send 101 = .ok (.iload_n 3, 1) := by decide +kernel
theorem dX12_send_102 : decode cX12_send 102 = .ok (.istore_n 3, 1) := by decide +kernel
theorem dX12_send_103 : decode cX12_send 103 = .ok (.iload 6, 2) := by decide +kernel
theorem dX12_send_105 : decode cX12_send 105 = .ok (.iload 4, 2) := by decide +kernel
theorem dX12_send_107 : decode cX12_send 107 = .ok (.if_icmp .le 8, 3) := by decide +kernel
theorem dX12_send_110 : decode cX12_send 110 = .ok (.iload 6, 2) := by decide +kernel
theorem dX12_send_112 : decode cX12_send 112 = .ok (.goto 5, 3) := by decide +kernel
theorem dX12_send_115 : decode cX12_send 115 = .ok (.iload 4, 2) := by decide +kernel
theorem dX12_send_117 : decode cX12_send 117 = .ok (.istore 4, 2) := by decide +kernel
theorem dX12_send_119 : decode cX12_send 119 = .ok (.iinc 5 1, 3) := by decide +kernel
theorem dX12_send_122 : decode cX12_send 122 = .ok (.goto (-84), 3) := by decide +kernel
theorem dX12_send_125 : decode cX12_send 125 = .ok (.aload_n 0, 1) := by decide +kernel
theorem dX12_send_126 : decode cX12_send 126 = .ok (.iload_n 3, 1) := by decide +kernel
theorem dX12_send_127 : decode cX12_send 127 = .ok (.invokevirtual 159, 3) := by decide +kernel
theorem dX12_send_130 : decode cX12_send 130 = .ok (.ireturn, 1) := by decide +kernel
theorem dX12_kind_0 : decode cX12_kind 0 = .ok (.aload_n 0, 1) := by decide +kernel
theorem dX12_kind_1 : decode cX12_kind 1 = .ok (.iload_n 1, 1) := by decide +kernel
theorem dX12_kind_2 : decode cX12_kind 2 = .ok (.invokevirtual 100, 3) := by decide +kernel
theorem dX12_kind_5 : decode cX12_kind 5 = .ok (.ifCond .eq 32, 3) := by decide +kernel
theorem dX12_kind_8 : decode cX12_kind 8 = .ok (.iload_n 2, 1) := by decide +kernel
theorem dX12_kind_9 : decode cX12_kind 9 = .ok (.i2l, 1) := by decide +kernel
theorem dX12_kind_10 : decode cX12_kind 10 = .ok (.iconst 1, 1) := by decide +kernel
theorem dX12_kind_11 : decode cX12_kind 11 = .ok (.bipush 100, 2) := by decide +kernel
theorem dX12_kind_13 : decode cX12_kind 13 = .ok (.invokestatic 41, 3) := by decide +kernel
theorem dX12_kind_16 : decode cX12_kind 16 = .ok (.ifCond .eq 21, 3) := by decide +kernel
theorem dX12_kind_19 : decode cX12_kind 19 = .ok (.aload_n 0, 1) := by decide +kernel
theorem dX12_kind_20 : decode cX12_kind 20 = .ok (.bipush 34, 2) := by decide +kernel
theorem dX12_kind_22 : decode cX12_kind 22 = .ok (.bipush 12, 2) := by decide +kernel
theorem dX12_kind_24 : decode cX12_kind 24 = .ok (.iload_n 1, 1) := by decide +kernel
theorem dX12_kind_25 : decode cX12_kind 25 = .ok (.imul, 1) := by decide +kernel
theorem dX12_kind_26 : decode cX12_kind 26 = .ok (.iadd, 1) := by decide +kernel
theorem dX12_kind_27 : decode cX12_kind 27 = .ok (.bipush 6, 2) := by decide +kernel
theorem dX12_kind_29 : decode cX12_kind 29 = .ok (.iload_n 1, 1) := by decide +kernel
theorem dX12_kind_30 : decode cX12_kind 30 = .ok (.iload_n 2, 1) := by decide +kernel
theorem dX12_kind_31 : decode cX12_kind 31 = .ok (.invokevirtual 155, 3) := by decide +kernel
theorem dX12_kind_34 : decode cX12_kind 34 = .ok (.goto 9, 3) := by decide +kernel
theorem dX12_kind_37 : decode cX12_kind 37 = .ok (.aload_n 0, 1) := by decide +kernel
theorem dX12_kind_38 : decode cX12_kind 38 = .ok (.ldc 35, 2) := by decide +kernel
theorem dX12_kind_40 : decode cX12_kind 40 = .ok (.invokevirtual 37, 3) := by decide +kernel
theorem dX12_kind_43 : decode cX12_kind 43 = .ok (.ireturn, 1) := by decide +kernel
theorem dX12_pair_0 : decode cX12_pair 0 = .ok (.iconst (-1), 1) := by decide +kernel
theorem dX12_pair_1 : decode cX12_pair 1 = .ok (.istore_n 1, 1) := by decide +kernel
theorem dX12_pair_2 : decode cX12_pair 2 = .ok (.iconst (-1), 1) := by decide +kernel
theorem dX12_pair_3 : decode cX12_pair 3 = .ok (.istore_n 2, 1) := by decide +kernel
theorem dX12_pair_4 : decode cX12_pair 4 = .ok (.iconst 0, 1) := by decide +kernel
theorem dX12_pair_5 : decode cX12_pair 5 = .ok (.istore_n 3, 1) := by decide +kernel
theorem dX12_pair_6 : decode cX12_pair 6 = .ok (.iload_n 3, 1) := by decide +kernel
theorem dX12_pair_7 : decode cX12_pair 7 = .ok (.aload_n 0, 1) := by decide +kernel
theorem dX12_pair_8 : decode cX12_pair 8 = .ok (.getfield 9, 3) := by decide +kernel
theorem dX12_pair_11 : decode cX12_pair 11 = .ok (.iconst 3, 1) := by decide +kernel
theorem dX12_pair_12 : decode cX12_pair 12 = .ok (.iaload, 1) := by decide +kernel
theorem dX12_pair_13 : decode cX12_pair 13 = .ok (.if_icmp .ge 71, 3) := by decide +kernel
theorem dX12_pair_16 : decode cX12_pair 16 = .ok (.iload_n 3, 1) := by decide +kernel
theorem dX12_pair_17 : decode cX12_pair 17 = .ok (.iconst 1, 1) := by decide +kernel
theorem dX12_pair_18 : decode cX12_pair 18 = .ok (.iadd, 1) := by decide +kernel
theorem dX12_pair_19 : decode cX12_pair 19 = .ok (.istore 4, 2) := by decide +kernel
theorem dX12_pair_21 : decode cX12_pair 21 = .ok (.iload 4, 2) := by decide +kernel
theorem dX12_pair_23 : decode cX12_pair 23 = .ok (.aload_n 0, 1) := by decide +kernel
theorem dX12_pair_24 : decode cX12_pair 24 = .ok (.getfield 9, 3) := by decide +kernel
theorem dX12_pair_27 : decode cX12_pair 27 = .ok (.iconst 3, 1) := by decide +kernel
theorem dX12_pair_28 : decode cX12_pair 28 = .ok (.iaload, 1) := by decide +kernel
theorem dX12_pair_29 : decode cX12_pair 29 = .ok (.if_icmp .ge 49, 3) := by decide +kernel
theorem dX12_pair_32 : decode cX12_pair 32 = .ok (.aload_n 0, 1) := by decide +kernel
theorem dX12_pair_33 : decode cX12_pair 33 = .ok (.iload_n 3, 1) := by decide +kernel
theorem dX12_pair_34 : decode cX12_pair 34 = .ok (.iload 4, 2) := by decide +kernel
theorem dX12_pair_36 : decode cX12_pair 36 = .ok (.invokevirtual 116, 3) := by decide +kernel
theorem dX12_pair_39 : decode cX12_pair 39 = .ok (.istore 5, 2) := by decide +kernel
theorem dX12_pair_41 : decode cX12_pair 41 = .ok (.iload 5, 2) := by decide +kernel
theorem dX12_pair_43 : decode cX12_pair 43 = .ok (.iload_n 2, 1) := by decide +kernel
theorem dX12_pair_44 : decode cX12_pair 44 = .ok (.if_icmp .le 13, 3) := by decide +kernel
theorem dX12_pair_47 : decode cX12_pair 47 = .ok (.bipush 10, 2) := by decide +kernel
theorem dX12_pair_49 : decode cX12_pair 49 = .ok (.iload_n 3, 1) := by decide +kernel
theorem dX12_pair_50 : decode cX12_pair 50 = .ok (.imul, 1) := by decide +kernel
theorem dX12_pair_51 : decode cX12_pair 51 = .ok (.iload 4, 2) := by decide +kernel
theorem dX12_pair_53 : decode cX12_pair 53 = .ok (.iadd, 1) := by decide +kernel
theorem dX12_pair_54 : decode cX12_pair 54 = .ok (.goto 4, 3) := by decide +kernel
theorem dX12_pair_57 : decode cX12_pair 57 = .ok (.iload_n 1, 1) := by decide +kernel
theorem dX12_pair_58 : decode cX12_pair 58 = .ok (.istore_n 1, 1) := by decide +kernel
theorem dX12_pair_59 : decode cX12_pair 59 = .ok (.iload 5, 2) := by decide +kernel
theorem dX12_pair_61 : decode cX12_pair 61 = .ok (.iload_n 2, 1) := by decide +kernel
theorem dX12_pair_62 : decode cX12_pair 62 = .ok (.if_icmp .le 8, 3) := by decide +kernel
theorem dX12_pair_65 : decode cX12_pair 65 = .ok (.iload 5, 2) := by decide +kernel
theorem dX12_pair_67 : decode cX12_pair 67 = .ok (.goto 4, 3) := by decide +kernel
theorem dX12_pair_70 : decode cX12_pair 70 = .ok (.iload_n 2, 1) := by decide +kernel
theorem dX12_pair_71 : decode cX12_pair 71 = .ok (.istore_n 2, 1) := by decide +kernel
theorem dX12_pair_72 : decode cX12_pair 72 = .ok (.iinc 4 1, 3) := by decide +kernel
theorem dX12_pair_75 : decode cX12_pair 75 = .ok (.goto (-54), 3) := by decide +kernel
theorem dX12_pair_78 : decode cX12_pair 78 = .ok (.iinc 3 1, 3) := by decide +kernel
theorem dX12_pair_81 : decode cX12_pair 81 = .ok (.goto (-75), 3) := by decide +kernel
theorem dX12_pair_84 : decode cX12_pair 84 = .ok (.aload_n 0, 1) := by decide +kernel
theorem dX12_pair_85 : decode cX12_pair 85 = .ok (.iload_n 1, 1) := by decide +kernel
theorem dX12_pair_86 : decode cX12_pair 86 = .ok (.invokevirtual 159, 3) := by decide +kernel
theorem dX12_pair_89 : decode cX12_pair 89 = .ok (.ireturn, 1) := by decide +kernel
theorem dX12_fix_0 : decode cX12_fix 0 = .ok (.iload_n 1, 1) := by decide +kernel
theorem dX12_fix_1 : decode cX12_fix 1 = .ok (.i2l, 1) := by decide +kernel
theorem dX12_fix_2 : decode cX12_fix 2 = .ok (.iconst 1, 1) := by decide +kernel
theorem dX12_fix_3 : decode cX12_fix 3 = .ok (.bipush 60, 2) := by decide +kernel
theorem dX12_fix_5 : decode cX12_fix 5 = .ok (.invokestatic 41, 3) := by decide +kernel
theorem dX12_fix_8 : decode cX12_fix 8 = .ok (.ifCond .ne 10, 3) := by decide +kernel
theorem dX12_fix_11 : decode cX12_fix 11 = .ok (.aload_n 0, 1) := by decide +kernel
theorem dX12_fix_12 : decode cX12_fix 12 = .ok (.ldc 35, 2) := by decide +kernel
theorem dX12_fix_14 : decode cX12_fix 14 = .ok (.invokevirtual 37, 3) := by decide +kernel
theorem dX12_fix_17 : decode cX12_fix 17 = .ok (.ireturn, 1) := by decide +kernel
theorem dX12_fix_18 : decode cX12_fix 18 = .ok (.aload_n 0, 1) := by decide +kernel
theorem dX12_fix_19 : decode cX12_fix 19 = .ok (.invokevirtual 146, 3) := by decide +kernel
theorem dX12_fix_22 : decode cX12_fix 22 = .ok (.iconst (-1), 1) := by decide +kernel
theorem dX12_fix_23 : decode cX12_fix 23 = .ok (.istore_n 2, 1) := by decide +kernel
theorem dX12_fix_24 : decode cX12_fix 24 = .ok (.iconst 0, 1) := by decide +kernel
theorem dX12_fix_25 : decode cX12_fix 25 = .ok (.istore_n 3, 1) := by decide +kernel
theorem dX12_fix_26 : decode cX12_fix 26 = .ok (.iconst 0, 1) := by decide +kernel
theorem dX12_fix_27 : decode cX12_fix 27 = .ok (.istore 4, 2) := by decide +kernel
theorem dX12_fix_29 : decode cX12_fix 29 = .ok (.iload 4, 2) := by decide +kernel
theorem dX12_fix_31 : decode cX12_fix 31 = .ok (.aload_n 0, 1) := by decide +kernel
theorem dX12_fix_32 : decode cX12_fix 32 = .ok (.getfield 9, 3) := by decide +kernel
theorem dX12_fix_35 : decode cX12_fix 35 = .ok (.iconst 2, 1) := by decide +kernel
theorem dX12_fix_36 : decode cX12_fix 36 = .ok (.iaload, 1) := by decide +kernel
theorem dX12_fix_37 : decode cX12_fix 37 = .ok (.if_icmp .ge 83, 3) := by decide +kernel
theorem dX12_fix_40 : decode cX12_fix 40 = .ok (.aload_n 0, 1) := by decide +kernel
theorem dX12_fix_41 : decode cX12_fix 41 = .ok (.iload 4, 2) := by decide +kernel
theorem dX12_fix_43 : decode cX12_fix 43 = .ok (.iconst 2, 1) := by decide +kernel
theorem dX12_fix_44 : decode cX12_fix 44 = .ok (.invokevirtual 49, 3) := by decide +kernel
theorem dX12_fix_47 : decode cX12_fix 47 = .ok (.ifCond .ne 67, 3) := by decide +kernel
theorem dX12_fix_50 : decode cX12_fix 50 = .ok (.aload_n 0, 1) := by decide +kernel
theorem dX12_fix_51 : decode cX12_fix 51 = .ok (.iload 4, 2) := by decide +kernel
theorem dX12_fix_53 : decode cX12_fix 53 = .ok (.iconst 2, 1) := by decide +kernel
theorem dX12_fix_54 : decode cX12_fix 54 = .ok (.iconst 1, 1) := by decide +kernel
theorem dX12_fix_55 : decode cX12_fix 55 = .ok (.invokevirtual 66, 3) := by decide +kernel
theorem dX12_fix_58 : decode cX12_fix 58 = .ok (.aload_n 0, 1) := by decide +kernel
theorem dX12_fix_59 : decode cX12_fix 59 = .ok (.iload_n 1, 1) := by decide +kernel
theorem dX12_fix_60 : decode cX12_fix 60 = .ok (.invokevirtual 139, 3) := by decide +kernel
theorem dX12_fix_63 : decode cX12_fix 63 = .ok (.aload_n 0, 1) := by decide +kernel
theorem dX12_fix_64 : decode cX12_fix 64 = .ok (.invokevirtual 94, 3) := by decide +kernel
theorem dX12_fix_67 : decode cX12_fix 67 = .ok (.istore 5, 2) := by decide +kernel
theorem dX12_fix_69 : decode cX12_fix 69 = .ok (.aload_n 0, 1) := by decide +kernel
theorem dX12_fix_70 : decode cX12_fix 70 = .ok (.invokevirtual 149, 3) := by decide +kernel
theorem dX12_fix_73 : decode cX12_fix 73 = .ok (.iload_n 2, 1) := by decide +kernel
theorem dX12_fix_74 : decode cX12_fix 74 = .ok (.ifCond .lt 9, 3) := by decide +kernel
theorem dX12_fix_77 : decode cX12_fix 77 = .ok (.iload 5, 2) := by decide +kernel
theorem dX12_fix_79 : decode cX12_fix 79 = .ok (.iload_n 3, 1) := by decide +kernel
theorem dX12_fix_80 : decode cX12_fix 80 = .ok (.if_icmp .ge 7, 3) := by decide +kernel
theorem dX12_fix_83 : decode cX12_fix 83 = .ok (.iconst 1, 1) := by decide +kernel
theorem dX12_fix_84 : decode cX12_fix 84 = .ok (.goto 4, 3) := by decide +kernel
theorem dX12_fix_87 : decode cX12_fix 87 = .ok (.iconst 0, 1) := by decide +kernel
theorem dX12_fix_88 : decode cX12_fix 88 = .ok (.istore 6, 2) := by decide +kernel
theorem dX12_fix_90 : decode cX12_fix 90 = .ok (.iload 6, 2) := by decide +kernel
theorem dX12_fix_92 : decode cX12_fix 92 = .ok (.ifCond .eq 8, 3) := by decide +kernel
theorem dX12_fix_95 : decode cX12_fix 95 = .ok (.iload 4, 2) := by decide +kernel
theorem dX12_fix_97 : decode cX12_fix 97 = .ok (.goto 4, 3) := by decide +kernel
theorem dX12_fix_100 : decode cX12_fix 100 = .ok (.iload_n 2, 1) := by decide +kernel
theorem dX12_fix_101 : decode cX12_fix 101 = .ok (.istore_n 2, 1) := by decide +kernel
theorem dX12_fix_102 : decode cX12_fix 102 = .ok (.iload 6, 2) := by decide +kernel
theorem dX12_fix_104 : decode cX12_fix 104 = .ok (.ifCond .eq 8, 3) := by decide +kernel
theorem dX12_fix_107 : decode cX12_fix 107 = .ok (.iload 5, 2) := by decide +kernel
theorem dX12_fix_109 : decode cX12_fix 109 = .ok (.goto 4, 3) := by decide +kernel
theorem dX12_fix_112 : decode cX12_fix 112 = .ok (.iload_n 3, 1) := by decide +kernel
theorem dX12_fix_113 : decode cX12_fix 113 = .ok (.istore_n 3, 1) := by decide +kernel
theorem dX12_fix_114 : decode cX12_fix 114 = .ok (.iinc 4 1, 3) := by decide +kernel
theorem dX12_fix_117 : decode cX12_fix 117 = .ok (.goto (-88), 3) := by decide +kernel
theorem dX12_fix_120 : decode cX12_fix 120 = .ok (.aload_n 0, 1) := by decide +kernel
theorem dX12_fix_121 : decode cX12_fix 121 = .ok (.iload_n 2, 1) := by decide +kernel
theorem dX12_fix_122 : decode cX12_fix 122 = .ok (.invokevirtual 159, 3) := by decide +kernel
theorem dX12_fix_125 : decode cX12_fix 125 = .ok (.ireturn, 1) := by decide +kernel
theorem dX12_winner_0 : decode cX12_winner 0 = .ok (.iload_n 1, 1) := by decide +kernel
theorem dX12_winner_1 : decode cX12_winner 1 = .ok (.i2l, 1) := by decide +kernel
theorem dX12_winner_2 : decode cX12_winner 2 = .ok (.iconst 0, 1) := by decide +kernel
theorem dX12_winner_3 : decode cX12_winner 3 = .ok (.sipush 200, 3) := by decide +kernel
theorem dX12_winner_6 : decode cX12_winner 6 = .ok (.invokestatic 41, 3) := by decide +kernel
theorem dX12_winner_9 : decode cX12_winner 9 = .ok (.ifCond .ne 10, 3) := by decide +kernel
theorem dX12_winner_12 : decode cX12_winner 12 = .ok (.aload_n 0, 1) := by decide +kernel
theorem dX12_winner_13 : decode cX12_winner 13 = .ok (.ldc 35, 2) := by decide +kernel
theorem dX12_winner_15 : decode cX12_winner 15 = .ok (.invokevirtual 37, 3) := by decide +kernel
theorem dX12_winner_18 : decode cX12_winner 18 = .ok (.ireturn, 1) := by decide +kernel
theorem dX12_winner_19 : decode cX12_winner 19 = .ok (.aload_n 0, 1) := by decide +kernel
theorem dX12_winner_20 : decode cX12_winner 20 = .ok (.invokevirtual 146, 3) := by decide +kernel
theorem dX12_winner_23 : decode cX12_winner 23 = .ok (.aload_n 0, 1) := by decide +kernel
theorem dX12_winner_24 : decode cX12_winner 24 = .ok (.iload_n 1, 1) := by decide +kernel
theorem dX12_winner_25 : decode cX12_winner 25 = .ok (.invokevirtual 139, 3) := by decide +kernel
theorem dX12_winner_28 : decode cX12_winner 28 = .ok (.iconst (-1), 1) := by decide +kernel
theorem dX12_winner_29 : decode cX12_winner 29 = .ok (.istore_n 2, 1) := by decide +kernel
theorem dX12_winner_30 : decode cX12_winner 30 = .ok (.iconst 0, 1) := by decide +kernel
theorem dX12_winner_31 : decode cX12_winner 31 = .ok (.istore_n 3, 1) := by decide +kernel
theorem dX12_winner_32 : decode cX12_winner 32 = .ok (.iload_n 3, 1) := by decide +kernel
theorem dX12_winner_33 : decode cX12_winner 33 = .ok (.aload_n 0, 1) := by decide +kernel
theorem dX12_winner_34 : decode cX12_winner 34 = .ok (.getfield 9, 3) := by decide +kernel
theorem dX12_winner_37 : decode cX12_winner 37 = .ok (.iconst 3, 1) := by decide +kernel
theorem dX12_winner_38 : decode cX12_winner 38 = .ok (.iaload, 1) := by decide +kernel
theorem dX12_winner_39 : decode cX12_winner 39 = .ok (.if_icmp .ge 38, 3) := by decide +kernel
theorem dX12_winner_42 : decode cX12_winner 42 = .ok (.iload_n 2, 1) := by decide +kernel
theorem dX12_winner_43 : decode cX12_winner 43 = .ok (.ifCond .lt 22, 3) := by decide +kernel
theorem dX12_winner_46 : decode cX12_winner 46 = .ok (.aload_n 0, 1) := by decide +kernel
theorem dX12_winner_47 : decode cX12_winner 47 = .ok (.iload_n 3, 1) := by decide +kernel
theorem dX12_winner_48 : decode cX12_winner 48 = .ok (.invokevirtual 103, 3) := by decide +kernel
theorem dX12_winner_51 : decode cX12_winner 51 = .ok (.invokestatic 112, 3) := by decide +kernel
theorem dX12_winner_54 : decode cX12_winner 54 = .ok (.aload_n 0, 1) := by decide +kernel
theorem dX12_winner_55 : decode cX12_winner 55 = .ok (.iload_n 2, 1) := by decide +kernel
theorem dX12_winner_56 : decode cX12_winner 56 = .ok (.invokevirtual 103, 3) := by decide +kernel
theorem dX12_winner_59 : decode cX12_winner 59 = .ok (.invokestatic 112, 3) := by decide +kernel
theorem dX12_winner_62 : decode cX12_winner 62 = .ok (.if_icmp .le 7, 3) := by decide +kernel
theorem dX12_winner_65 : decode cX12_winner 65 = .ok (.iload_n 3, 1) := by decide +kernel
theorem dX12_winner_66 : decode cX12_winner 66 = .ok (.goto 4, 3) := by decide +kernel
theorem dX12_winner_69 : decode cX12_winner 69 = .ok (.iload_n 2, 1) := by decide +kernel
theorem dX12_winner_70 : decode cX12_winner 70 = .ok (.istore_n 2, 1) := by decide +kernel
theorem dX12_winner_71 : decode cX12_winner 71 = .ok (.iinc 3 1, 3) := by decide +kernel
theorem dX12_winner_74 : decode cX12_winner 74 = .ok (.goto (-42), 3) := by decide +kernel
theorem dX12_winner_77 : decode cX12_winner 77 = .ok (.aload_n 0, 1) := by decide +kernel
theorem dX12_winner_78 : decode cX12_winner 78 = .ok (.invokevirtual 149, 3) := by decide +kernel
theorem dX12_winner_81 : decode cX12_winner 81 = .ok (.aload_n 0, 1) := by decide +kernel
theorem dX12_winner_82 : decode cX12_winner 82 = .ok (.iload_n 2, 1) := by decide +kernel
theorem dX12_winner_83 : decode cX12_winner 83 = .ok (.invokevirtual 159, 3) := by decide +kernel
theorem dX12_winner_86 : decode cX12_winner 86 = .ok (.ireturn, 1) := by decide +kernel
theorem dX12_largest_0 : decode cX12_largest 0 = .ok (.iload_n 1, 1) := by decide +kernel
theorem dX12_largest_1 : decode cX12_largest 1 = .ok (.i2l, 1) := by decide +kernel
theorem dX12_largest_2 : decode cX12_largest 2 = .ok (.iconst 0, 1) := by decide +kernel
theorem dX12_largest_3 : decode cX12_largest 3 = .ok (.sipush 200, 3) := by decide +kernel
theorem dX12_largest_6 : decode cX12_largest 6 = .ok (.invokestatic 41, 3) := by decide +kernel
theorem dX12_largest_9 : decode cX12_largest 9 = .ok (.ifCond .ne 10, 3) := by decide +kernel
theorem dX12_largest_12 : decode cX12_largest 12 = .ok (.aload_n 0, 1) := by decide +kernel
theorem dX12_largest_13 : decode cX12_largest 13 = .ok (.ldc 35, 2) := by decide +kernel
theorem dX12_largest_15 : decode cX12_largest 15 = .ok (.invokevirtual 37, 3) := by decide +kernel
theorem dX12_largest_18 : decode cX12_largest 18 = .ok (.ireturn, 1) := by decide +kernel
theorem dX12_largest_19 : decode cX12_largest 19 = .ok (.aload_n 0, 1) := by decide +kernel
theorem dX12_largest_20 : decode cX12_largest 20 = .ok (.invokevirtual 146, 3) := by decide +kernel
theorem dX12_largest_23 : decode cX12_largest 23 = .ok (.aload_n 0, 1) := by decide +kernel
theorem dX12_largest_24 : decode cX12_largest 24 = .ok (.iload_n 1, 1) := by decide +kernel
theorem dX12_largest_25 : decode cX12_largest 25 = .ok (.invokevirtual 139, 3) := by decide +kernel
theorem dX12_largest_28 : decode cX12_largest 28 = .ok (.iconst 0, 1) := by decide +kernel
theorem dX12_largest_29 : decode cX12_largest 29 = .ok (.istore_n 2, 1) := by decide +kernel
theorem dX12_largest_30 : decode cX12_largest 30 = .ok (.iconst 1, 1) := by decide +kernel
theorem dX12_largest_31 : decode cX12_largest 31 = .ok (.istore_n 3, 1) := by decide +kernel
theorem dX12_largest_32 : decode cX12_largest 32 = .ok (.iload_n 3, 1) := by decide +kernel
theorem dX12_largest_33 : decode cX12_largest 33 = .ok (.bipush 6, 2) := by decide +kernel
theorem dX12_largest_35 : decode cX12_largest 35 = .ok (.if_icmp .ge 34, 3) := by decide +kernel
theorem dX12_largest_38 : decode cX12_largest 38 = .ok (.aload_n 0, 1) := by decide +kernel
theorem dX12_largest_39 : decode cX12_largest 39 = .ok (.iload_n 3, 1) := by decide +kernel
theorem dX12_largest_40 : decode cX12_largest 40 = .ok (.invokevirtual 84, 3) := by decide +kernel
theorem dX12_largest_43 : decode cX12_largest 43 = .ok (.invokestatic 112, 3) := by decide +kernel
theorem dX12_largest_46 : decode cX12_largest 46 = .ok (.aload_n 0, 1) := by decide +kernel
theorem dX12_largest_47 : decode cX12_largest 47 = .ok (.iload_n 2, 1) := by decide +kernel
theorem dX12_largest_48 : decode cX12_largest 48 = .ok (.invokevirtual 84, 3) := by decide +kernel
theorem dX12_largest_51 : decode cX12_largest 51 = .ok (.invokestatic 112, 3) := by decide +kernel
theorem dX12_largest_54 : decode cX12_largest 54 = .ok (.if_icmp .le 7, 3) := by decide +kernel
theorem dX12_largest_57 : decode cX12_largest 57 = .ok (.iload_n 3, 1) := by decide +kernel
theorem dX12_largest_58 : decode cX12_largest 58 = .ok (.goto 4, 3) := by decide +kernel
theorem dX12_largest_61 : decode cX12_largest 61 = .ok (.iload_n 2, 1) := by decide +kernel
theorem dX12_largest_62 : decode cX12_largest 62 = .ok (.istore_n 2, 1) := by decide +kernel
theorem dX12_largest_63 : decode cX12_largest 63 = .ok (.iinc 3 1, 3) := by decide +kernel
theorem dX12_largest_66 : decode cX12_largest 66 = .ok (.goto (-34), 3) := by decide +kernel
theorem dX12_largest_69 : decode cX12_largest 69 = .ok (.aload_n 0, 1) := by decide +kernel
theorem dX12_largest_70 : decode cX12_largest 70 = .ok (.invokevirtual 149, 3) := by decide +kernel
theorem dX12_largest_73 : decode cX12_largest 73 = .ok (.iload_n 2, 1) := by decide +kernel
theorem dX12_largest_74 : decode cX12_largest 74 = .ok (.ireturn, 1) := by decide +kernel
theorem dX12_feed_0 : decode cX12_feed 0 = .ok (.iload_n 2, 1) := by decide +kernel
theorem dX12_feed_1 : decode cX12_feed 1 = .ok (.i2l, 1) := by decide +kernel
theorem dX12_feed_2 : decode cX12_feed 2 = .ok (.iconst 1, 1) := by decide +kernel
theorem dX12_feed_3 : decode cX12_feed 3 = .ok (.iconst 4, 1) := by decide +kernel
theorem dX12_feed_4 : decode cX12_feed 4 = .ok (.invokestatic 41, 3) := by decide +kernel
theorem dX12_feed_7 : decode cX12_feed 7 = .ok (.ifCond .ne 10, 3) := by decide +kernel
theorem dX12_feed_10 : decode cX12_feed 10 = .ok (.aload_n 0, 1) := by decide +kernel
theorem dX12_feed_11 : decode cX12_feed 11 = .ok (.ldc 35, 2) := by decide +kernel
theorem dX12_feed_13 : decode cX12_feed 13 = .ok (.invokevirtual 37, 3) := by decide +kernel
theorem dX12_feed_16 : decode cX12_feed 16 = .ok (.ireturn, 1) := by decide +kernel
theorem dX12_feed_17 : decode cX12_feed 17 = .ok (.aload_n 0, 1) := by decide +kernel
theorem dX12_feed_18 : decode cX12_feed 18 = .ok (.getfield 162, 3) := by decide +kernel
theorem dX12_feed_21 : decode cX12_feed 21 = .ok (.iload_n 2, 1) := by decide +kernel
theorem dX12_feed_22 : decode cX12_feed 22 = .ok (.iadd, 1) := by decide +kernel
theorem dX12_feed_23 : decode cX12_feed 23 = .ok (.bipush 120, 2) := by decide +kernel
theorem dX12_feed_25 : decode cX12_feed 25 = .ok (.if_icmp .le 10, 3) := by decide +kernel
theorem dX12_feed_28 : decode cX12_feed 28 = .ok (.aload_n 0, 1) := by decide +kernel
theorem dX12_feed_29 : decode cX12_feed 29 = .ok (.ldc 70, 2) := by decide +kernel
theorem dX12_feed_31 : decode cX12_feed 31 = .ok (.invokevirtual 37, 3) := by decide +kernel
theorem dX12_feed_34 : decode cX12_feed 34 = .ok (.ireturn, 1) := by decide +kernel
theorem dX12_feed_35 : decode cX12_feed 35 = .ok (.iload_n 2, 1) := by decide +kernel
theorem dX12_feed_36 : decode cX12_feed 36 = .ok (.iconst 1, 1) := by decide +kernel
theorem dX12_feed_37 : decode cX12_feed 37 = .ok (.isub, 1) := by decide +kernel
theorem dX12_feed_38 : decode cX12_feed 38 = .ok (.istore_n 3, 1) := by decide +kernel
theorem dX12_feed_39 : decode cX12_feed 39 = .ok (.iload_n 3, 1) := by decide +kernel
theorem dX12_feed_40 : decode cX12_feed 40 = .ok (.ifCond .lt 38, 3) := by decide +kernel
theorem dX12_feed_43 : decode cX12_feed 43 = .ok (.aload_n 0, 1) := by decide +kernel
theorem dX12_feed_44 : decode cX12_feed 44 = .ok (.getfield 22, 3) := by decide +kernel
theorem dX12_feed_47 : decode cX12_feed 47 = .ok (.aload_n 0, 1) := by decide +kernel
theorem dX12_feed_48 : decode cX12_feed 48 = .ok (.getfield 162, 3) := by decide +kernel
theorem dX12_feed_51 : decode cX12_feed 51 = .ok (.iload_n 1, 1) := by decide +kernel
theorem dX12_feed_52 : decode cX12_feed 52 = .ok (.bipush 8, 2) := by decide +kernel
theorem dX12_feed_54 : decode cX12_feed 54 = .ok (.iload_n 3, 1) := by decide +kernel
theorem dX12_feed_55 : decode cX12_feed 55 = .ok (.imul, 1) := by decide +kernel
theorem dX12_feed_56 : decode cX12_feed 56 = .ok (.ishr, 1) := by decide +kernel
theorem dX12_feed_57 : decode cX12_feed 57 = .ok (.sipush 255, 3) := by decide +kernel
theorem dX12_feed_60 : decode cX12_feed 60 = .ok (.iand, 1) := by decide +kernel
theorem dX12_feed_61 : decode cX12_feed 61 = .ok (.iastore, 1) := by decide +kernel
theorem dX12_feed_62 : decode cX12_feed 62 = .ok (.aload_n 0, 1) := by decide +kernel
theorem dX12_feed_63 : decode cX12_feed 63 = .ok (.dup, 1) := by decide +kernel
theorem dX12_feed_64 : decode cX12_feed 64 = .ok (.getfield 162, 3) := by decide +kernel
theorem dX12_feed_67 : decode cX12_feed 67 = .ok (.iconst 1, 1) := by decide +kernel
theorem dX12_feed_68 : decode cX12_feed 68 = .ok (.iadd, 1) := by decide +kernel
theorem dX12_feed_69 : decode cX12_feed 69 = .ok (.putfield 162, 3) := by decide +kernel
theorem dX12_feed_72 : decode cX12_feed 72 = .ok (.iinc 3 (-1), 3) := by decide +kernel
theorem dX12_feed_75 : decode cX12_feed 75 = .ok (.goto (-36), 3) := by decide +kernel
theorem dX12_feed_78 : decode cX12_feed 78 = .ok (.aload_n 0, 1) := by decide +kernel
theorem dX12_feed_79 : decode cX12_feed 79 = .ok (.getfield 162, 3) := by decide +kernel
theorem dX12_feed_82 : decode cX12_feed 82 = .ok (.ireturn, 1) := by decide +kernel
theorem dX12_wipe_0 : decode cX12_wipe 0 = .ok (.aload_n 0, 1) := by decide +kernel
theorem dX12_wipe_1 : decode cX12_wipe 1 = .ok (.getfield 162, 3) := by decide +kernel
theorem dX12_wipe_4 : decode cX12_wipe 4 = .ok (.istore_n 1, 1) := by decide +kernel
theorem dX12_wipe_5 : decode cX12_wipe 5 = .ok (.aload_n 0, 1) := by decide +kernel
theorem dX12_wipe_6 : decode cX12_wipe 6 = .ok (.iconst 0, 1) := by decide +kernel
theorem dX12_wipe_7 : decode cX12_wipe 7 = .ok (.putfield 162, 3) := by decide +kernel
theorem dX12_wipe_10 : decode cX12_wipe 10 = .ok (.iload_n 1, 1) := by decide +kernel
theorem dX12_wipe_11 : decode cX12_wipe 11 = .ok (.ireturn, 1) := by decide +kernel
theorem dX12_isByte_0 : decode cX12_isByte 0 = .ok (.iload_n 1, 1) := by decide +kernel
theorem dX12_isByte_1 : decode cX12_isByte 1 = .ok (.aload_n 0, 1) := by decide +kernel
theorem dX12_isByte_2 : decode cX12_isByte 2 = .ok (.getfield 162, 3) := by decide +kernel
theorem dX12_isByte_5 : decode cX12_isByte 5 = .ok (.if_icmp .ge 22, 3) := by decide +kernel
theorem dX12_isByte_8 : decode cX12_isByte 8 = .ok (.aload_n 0, 1) := by decide +kernel
theorem dX12_isByte_9 : decode cX12_isByte 9 = .ok (.getfield 22, 3) := by decide +kernel
theorem dX12_isByte_12 : decode cX12_isByte 12 = .ok (.iload_n 1, 1) := by decide +kernel
theorem dX12_isByte_13 : decode cX12_isByte 13 = .ok (.iaload, 1) := by decide +kernel
theorem dX12_isByte_14 : decode cX12_isByte 14 = .ok (.i2l, 1) := by decide +kernel
theorem dX12_isByte_15 : decode cX12_isByte 15 = .ok (.iload_n 2, 1) := by decide +kernel
theorem dX12_isByte_16 : decode cX12_isByte 16 = .ok (.iload_n 3, 1) := by decide +kernel
theorem dX12_isByte_17 : decode cX12_isByte 17 = .ok (.invokestatic 41, 3) := by decide +kernel
theorem dX12_isByte_20 : decode cX12_isByte 20 = .ok (.ifCond .eq 7, 3) := by decide +kernel
theorem dX12_isByte_23 : decode cX12_isByte 23 = .ok (.iconst 1, 1) := by decide +kernel
theorem dX12_isByte_24 : decode cX12_isByte 24 = .ok (.goto 4, 3) := by decide +kernel
theorem dX12_isByte_27 : decode cX12_isByte 27 = .ok (.iconst 0, 1) := by decide +kernel
theorem dX12_isByte_28 : decode cX12_isByte 28 = .ok (.ireturn, 1) := by decide +kernel
theorem dX12_isName_0 : decode cX12_isName 0 = .ok (.iload_n 2, 1) := by decide +kernel
theorem dX12_isName_1 : decode cX12_isName 1 = .ok (.bipush 7, 2) := by decide +kernel
theorem dX12_isName_3 : decode cX12_isName 3 = .ok (.if_icmp .gt 26, 3) := by decide +kernel
theorem dX12_isName_6 : decode cX12_isName 6 = .ok (.iload_n 2, 1) := by decide +kernel
theorem dX12_isName_7 : decode cX12_isName 7 = .ok (.bipush 7, 2) := by decide +kernel
theorem dX12_isName_9 : decode cX12_isName 9 = .ok (.if_icmp .eq 16, 3) := by decide +kernel
theorem dX12_isName_12 : decode cX12_isName 12 = .ok (.getstatic 165, 3) := by decide +kernel
theorem dX12_isName_15 : decode cX12_isName 15 = .ok (.bipush 7, 2) := by decide +kernel
theorem dX12_isName_17 : decode cX12_isName 17 = .ok (.iload_n 1, 1) := by decide +kernel
theorem dX12_isName_18 : decode cX12_isName 18 = .ok (.imul, 1) := by decide +kernel
theorem dX12_isName_19 : decode cX12_isName 19 = .ok (.iload_n 2, 1) := by decide +kernel
theorem dX12_isName_20 : decode cX12_isName 20 = .ok (.iadd, 1) := by decide +kernel
theorem dX12_isName_21 : decode cX12_isName 21 = .ok (.iaload, 1) := by decide +kernel
theorem dX12_isName_22 : decode cX12_isName 22 = .ok (.ifCond .ne 7, 3) := by decide +kernel
theorem dX12_isName_25 : decode cX12_isName 25 = .ok (.iconst 1, 1) := by decide +kernel
theorem dX12_isName_26 : decode cX12_isName 26 = .ok (.goto 4, 3) := by decide +kernel
theorem dX12_isName_29 : decode cX12_isName 29 = .ok (.iconst 0, 1) := by decide +kernel
theorem dX12_isName_30 : decode cX12_isName 30 = .ok (.istore_n 3, 1) := by decide +kernel
theorem dX12_isName_31 : decode cX12_isName 31 = .ok (.iconst 0, 1) := by decide +kernel
theorem dX12_isName_32 : decode cX12_isName 32 = .ok (.istore 4, 2) := by decide +kernel
theorem dX12_isName_34 : decode cX12_isName 34 = .ok (.iload 4, 2) := by decide +kernel
theorem dX12_isName_36 : decode cX12_isName 36 = .ok (.iload_n 2, 1) := by decide +kernel
theorem dX12_isName_37 : decode cX12_isName 37 = .ok (.if_icmp .ge 45, 3) := by decide +kernel
theorem dX12_isName_40 : decode cX12_isName 40 = .ok (.iload_n 3, 1) := by decide +kernel
theorem dX12_isName_41 : decode cX12_isName 41 = .ok (.ifCond .eq 41, 3) := by decide +kernel
theorem dX12_isName_44 : decode cX12_isName 44 = .ok (.getstatic 165, 3) := by decide +kernel
theorem dX12_isName_47 : decode cX12_isName 47 = .ok (.bipush 7, 2) := by decide +kernel
theorem dX12_isName_49 : decode cX12_isName 49 = .ok (.iload_n 1, 1) := by decide +kernel
theorem dX12_isName_50 : decode cX12_isName 50 = .ok (.imul, 1) := by decide +kernel
theorem dX12_isName_51 : decode cX12_isName 51 = .ok (.iload 4, 2) := by decide +kernel
theorem dX12_isName_53 : decode cX12_isName 53 = .ok (.iadd, 1) := by decide +kernel
theorem dX12_isName_54 : decode cX12_isName 54 = .ok (.iaload, 1) := by decide +kernel
theorem dX12_isName_55 : decode cX12_isName 55 = .ok (.aload_n 0, 1) := by decide +kernel
theorem dX12_isName_56 : decode cX12_isName 56 = .ok (.getfield 22, 3) := by decide +kernel
theorem dX12_isName_59 : decode cX12_isName 59 = .ok (.aload_n 0, 1) := by decide +kernel
theorem dX12_isName_60 : decode cX12_isName 60 = .ok (.getfield 168, 3) := by decide +kernel
theorem dX12_isName_63 : decode cX12_isName 63 = .ok (.iload 4, 2) := by decide +kernel
theorem dX12_isName_65 : decode cX12_isName 65 = .ok (.iadd, 1) := by decide +kernel
theorem dX12_isName_66 : decode cX12_isName 66 = .ok (.iaload, 1) := by decide +kernel
theorem dX12_isName_67 : decode cX12_isName 67 = .ok (.if_icmp .ne 7, 3) := by decide +kernel
theorem dX12_isName_70 : decode cX12_isName 70 = .ok (.iconst 1, 1) := by decide +kernel
theorem dX12_isName_71 : decode cX12_isName 71 = .ok (.goto 4, 3) := by decide +kernel
theorem dX12_isName_74 : decode cX12_isName 74 = .ok (.iconst 0, 1) := by decide +kernel
theorem dX12_isName_75 : decode cX12_isName 75 = .ok (.istore_n 3, 1) := by decide +kernel
theorem dX12_isName_76 : decode cX12_isName 76 = .ok (.iinc 4 1, 3) := by decide +kernel
theorem dX12_isName_79 : decode cX12_isName 79 = .ok (.goto (-45), 3) := by decide +kernel
theorem dX12_isName_82 : decode cX12_isName 82 = .ok (.iload_n 3, 1) := by decide +kernel
theorem dX12_isName_83 : decode cX12_isName 83 = .ok (.ireturn, 1) := by decide +kernel
theorem dX12_wordHere_0 : decode cX12_wordHere 0 = .ok (.iconst 0, 1) := by decide +kernel
theorem dX12_wordHere_1 : decode cX12_wordHere 1 = .ok (.istore_n 1, 1) := by decide +kernel
theorem dX12_wordHere_2 : decode cX12_wordHere 2 = .ok (.iload_n 1, 1) := by decide +kernel
theorem dX12_wordHere_3 : decode cX12_wordHere 3 = .ok (.bipush 11, 2) := by decide +kernel
theorem dX12_wordHere_5 : decode cX12_wordHere 5 = .ok (.if_icmp .ge 26, 3) := by decide +kernel
theorem dX12_wordHere_8 : decode cX12_wordHere 8 = .ok (.aload_n 0, 1) := by decide +kernel
theorem dX12_wordHere_9 : decode cX12_wordHere 9 = .ok (.iload_n 1, 1) := by decide +kernel
theorem dX12_wordHere_10 : decode cX12_wordHere 10 = .ok (.aload_n 0, 1) := by decide +kernel
theorem dX12_wordHere_11 : decode cX12_wordHere 11 = .ok (.getfield 171, 3) := by decide +kernel
theorem dX12_wordHere_14 : decode cX12_wordHere 14 = .ok (.aload_n 0, 1) := by decide +kernel
theorem dX12_wordHere_15 : decode cX12_wordHere 15 = .ok (.getfield 168, 3) := by decide +kernel
theorem dX12_wordHere_18 : decode cX12_wordHere 18 = .ok (.isub, 1) := by decide +kernel
theorem dX12_wordHere_19 : decode cX12_wordHere 19 = .ok (.invokevirtual 174, 3) := by decide +kernel
theorem dX12_wordHere_22 : decode cX12_wordHere 22 = .ok (.ifCond .ne 9, 3) := by decide +kernel
theorem dX12_wordHere_25 : decode cX12_wordHere 25 = .ok (.iinc 1 1, 3) := by decide +kernel
theorem dX12_wordHere_28 : decode cX12_wordHere 28 = .ok (.goto (-26), 3) := by decide +kernel
theorem dX12_wordHere_31 : decode cX12_wordHere 31 = .ok (.iload_n 1, 1) := by decide +kernel
theorem dX12_wordHere_32 : decode cX12_wordHere 32 = .ok (.bipush 11, 2) := by decide +kernel
theorem dX12_wordHere_34 : decode cX12_wordHere 34 = .ok (.if_icmp .ge 7, 3) := by decide +kernel
theorem dX12_wordHere_37 : decode cX12_wordHere 37 = .ok (.iload_n 1, 1) := by decide +kernel
theorem dX12_wordHere_38 : decode cX12_wordHere 38 = .ok (.goto 5, 3) := by decide +kernel
theorem dX12_wordHere_41 : decode cX12_wordHere 41 = .ok (.bipush 23, 2) := by decide +kernel
theorem dX12_wordHere_43 : decode cX12_wordHere 43 = .ok (.ireturn, 1) := by decide +kernel
theorem dX12_reads_0 : decode cX12_reads 0 = .ok (.aload_n 0, 1) := by decide +kernel
theorem dX12_reads_1 : decode cX12_reads 1 = .ok (.aload_n 0, 1) := by decide +kernel
theorem dX12_reads_2 : decode cX12_reads 2 = .ok (.getfield 171, 3) := by decide +kernel
theorem dX12_reads_5 : decode cX12_reads 5 = .ok (.bipush 32, 2) := by decide +kernel
theorem dX12_reads_7 : decode cX12_reads 7 = .ok (.bipush 32, 2) := by decide +kernel
theorem dX12_reads_9 : decode cX12_reads 9 = .ok (.invokevirtual 177, 3) := by decide +kernel
theorem dX12_reads_12 : decode cX12_reads 12 = .ok (.ifCond .eq 16, 3) := by decide +kernel
theorem dX12_reads_15 : decode cX12_reads 15 = .ok (.aload_n 0, 1) := by decide +kernel
theorem dX12_reads_16 : decode cX12_reads 16 = .ok (.dup, 1) := by decide +kernel
theorem dX12_reads_17 : decode cX12_reads 17 = .ok (.getfield 171, 3) := by decide +kernel
theorem dX12_reads_20 : decode cX12_reads 20 = .ok (.iconst 1, 1) := by decide +kernel
theorem dX12_reads_21 : decode cX12_reads 21 = .ok (.iadd, 1) := by decide +kernel
theorem dX12_reads_22 : decode cX12_reads 22 = .ok (.putfield 171, 3) := by decide +kernel
theorem dX12_reads_25 : decode cX12_reads 25 = .ok (.goto (-25), 3) := by decide +kernel
theorem dX12_reads_28 : decode cX12_reads 28 = .ok (.aload_n 0, 1) := by decide +kernel
theorem dX12_reads_29 : decode cX12_reads 29 = .ok (.aload_n 0, 1) := by decide +kernel
theorem dX12_reads_30 : decode cX12_reads 30 = .ok (.getfield 171, 3) := by decide +kernel
theorem dX12_reads_33 : decode cX12_reads 33 = .ok (.putfield 168, 3) := by decide +kernel
theorem dX12_reads_36 : decode cX12_reads 36 = .ok (.aload_n 0, 1) := by decide +kernel
theorem dX12_reads_37 : decode cX12_reads 37 = .ok (.iconst 0, 1) := by decide +kernel
theorem dX12_reads_38 : decode cX12_reads 38 = .ok (.putfield 180, 3) := by decide +kernel
theorem dX12_reads_41 : decode cX12_reads 41 = .ok (.aload_n 0, 1) := by decide +kernel
theorem dX12_reads_42 : decode cX12_reads 42 = .ok (.getfield 171, 3) := by decide +kernel
theorem dX12_reads_45 : decode cX12_reads 45 = .ok (.aload_n 0, 1) := by decide +kernel
theorem dX12_reads_46 : decode cX12_reads 46 = .ok (.getfield 162, 3) := by decide +kernel
theorem dX12_reads_49 : decode cX12_reads 49 = .ok (.if_icmp .ne 12, 3) := by decide +kernel
theorem dX12_reads_52 : decode cX12_reads 52 = .ok (.aload_n 0, 1) := by decide +kernel
theorem dX12_reads_53 : decode cX12_reads 53 = .ok (.bipush 22, 2) := by decide +kernel
theorem dX12_reads_55 : decode cX12_reads 55 = .ok (.putfield 183, 3) := by decide +kernel
theorem dX12_reads_58 : decode cX12_reads 58 = .ok (.goto 186, 3) := by decide +kernel
theorem dX12_reads_61 : decode cX12_reads 61 = .ok (.aload_n 0, 1) := by decide +kernel
theorem dX12_reads_62 : decode cX12_reads 62 = .ok (.aload_n 0, 1) := by decide +kernel
theorem dX12_reads_63 : decode cX12_reads 63 = .ok (.getfield 171, 3) := by decide +kernel
theorem dX12_reads_66 : decode cX12_reads 66 = .ok (.bipush 97, 2) := by decide +kernel
theorem dX12_reads_68 : decode cX12_reads 68 = .ok (.bipush 122, 2) := by decide +kernel
theorem dX12_reads_70 : decode cX12_reads 70 = .ok (.invokevirtual 177, 3) := by decide +kernel
theorem dX12_reads_73 : decode cX12_reads 73 = .ok (.ifCond .eq 42, 3) := by decide +kernel
theorem dX12_reads_76 : decode cX12_reads 76 = .ok (.aload_n 0, 1) := by decide +kernel
theorem dX12_reads_77 : decode cX12_reads 77 = .ok (.aload_n 0, 1) := by decide +kernel
theorem dX12_reads_78 : decode cX12_reads 78 = .ok (.getfield 171, 3) := by decide +kernel
theorem dX12_reads_81 : decode cX12_reads 81 = .ok (.bipush 97, 2) := by decide +kernel
theorem dX12_reads_83 : decode cX12_reads 83 = .ok (.bipush 122, 2) := by decide +kernel
theorem dX12_reads_85 : decode cX12_reads 85 = .ok (.invokevirtual 177, 3) := by decide +kernel
theorem dX12_reads_88 : decode cX12_reads 88 = .ok (.ifCond .eq 16, 3) := by decide +kernel
theorem dX12_reads_91 : decode cX12_reads 91 = .ok (.aload_n 0, 1) := by decide +kernel
theorem dX12_reads_92 : decode cX12_reads 92 = .ok (.dup, 1) := by decide +kernel
theorem dX12_reads_93 : decode cX12_reads 93 = .ok (.getfield 171, 3) := by decide +kernel
theorem dX12_reads_96 : decode cX12_reads 96 = .ok (.iconst 1, 1) := by decide +kernel
theorem dX12_reads_97 : decode cX12_reads 97 = .ok (.iadd, 1) := by decide +kernel
theorem dX12_reads_98 : decode cX12_reads 98 = .ok (.putfield 171, 3) := by decide +kernel
theorem dX12_reads_101 : decode cX12_reads 101 = .ok (.goto (-25), 3) := by decide +kernel
theorem dX12_reads_104 : decode cX12_reads 104 = .ok (.aload_n 0, 1) := by decide +kernel
theorem dX12_reads_105 : decode cX12_reads 105 = .ok (.aload_n 0, 1) := by decide +kernel
theorem dX12_reads_106 : decode cX12_reads 106 = .ok (.invokevirtual 186, 3) := by decide +kernel
theorem dX12_reads_109 : decode cX12_reads 109 = .ok (.putfield 183, 3) := by decide +kernel
theorem dX12_reads_112 : decode cX12_reads 112 = .ok (.goto 132, 3) := by decide +kernel
theorem dX12_reads_115 : decode cX12_reads 115 = .ok (.aload_n 0, 1) := by decide +kernel
theorem dX12_reads_116 : decode cX12_reads 116 = .ok (.aload_n 0, 1) := by decide +kernel
theorem dX12_reads_117 : decode cX12_reads 117 = .ok (.getfield 171, 3) := by decide +kernel
theorem dX12_reads_120 : decode cX12_reads 120 = .ok (.bipush 48, 2) := by decide +kernel
theorem dX12_reads_122 : decode cX12_reads 122 = .ok (.bipush 57, 2) := by decide +kernel
theorem dX12_reads_124 : decode cX12_reads 124 = .ok (.invokevirtual 177, 3) := by decide +kernel
theorem dX12_reads_127 : decode cX12_reads 127 = .ok (.ifCond .eq 81, 3) := by decide +kernel
theorem dX12_reads_130 : decode cX12_reads 130 = .ok (.aload_n 0, 1) := by decide +kernel
theorem dX12_reads_131 : decode cX12_reads 131 = .ok (.aload_n 0, 1) := by decide +kernel
theorem dX12_reads_132 : decode cX12_reads 132 = .ok (.getfield 171, 3) := by decide +kernel
theorem dX12_reads_135 : decode cX12_reads 135 = .ok (.bipush 48, 2) := by decide +kernel
theorem dX12_reads_137 : decode cX12_reads 137 = .ok (.bipush 57, 2) := by decide +kernel
theorem dX12_reads_139 : decode cX12_reads 139 = .ok (.invokevirtual 177, 3) := by decide +kernel
theorem dX12_reads_142 : decode cX12_reads 142 = .ok (.ifCond .eq 57, 3) := by decide +kernel
theorem dX12_reads_145 : decode cX12_reads 145 = .ok (.aload_n 0, 1) := by decide +kernel
theorem dX12_reads_146 : decode cX12_reads 146 = .ok (.aload_n 0, 1) := by decide +kernel
theorem dX12_reads_147 : decode cX12_reads 147 = .ok (.getfield 180, 3) := by decide +kernel
theorem dX12_reads_150 : decode cX12_reads 150 = .ok (.sipush 999, 3) := by decide +kernel
theorem dX12_reads_153 : decode cX12_reads 153 = .ok (.if_icmp .le 10, 3) := by decide +kernel
theorem dX12_reads_156 : decode cX12_reads 156 = .ok (.aload_n 0, 1) := by decide +kernel
theorem dX12_reads_157 : decode cX12_reads 157 = .ok (.getfield 180, 3) := by decide +kernel
theorem dX12_reads_160 : decode cX12_reads 160 = .ok (.goto 23, 3) := by decide +kernel
theorem dX12_reads_163 : decode cX12_reads 163 = .ok (.bipush 10, 2) := by decide +kernel
theorem dX12_reads_165 : decode cX12_reads 165 = .ok (.aload_n 0, 1) := by decide +kernel
theorem dX12_reads_166 : decode cX12_reads 166 = .ok (.getfield 180, 3) := by decide +kernel
theorem dX12_reads_169 : decode cX12_reads 169 = .ok (.imul, 1) := by decide +kernel
theorem dX12_reads_170 : decode cX12_reads 170 = .ok (.aload_n 0, 1) := by decide +kernel
theorem dX12_reads_171 : decode cX12_reads 171 = .ok (.getfield 22, 3) := by decide +kernel
theorem dX12_reads_174 : decode cX12_reads 174 = .ok (.aload_n 0, 1) := by decide +kernel
theorem dX12_reads_175 : decode cX12_reads 175 = .ok (.getfield 171, 3) := by decide +kernel
theorem dX12_reads_178 : decode cX12_reads 178 = .ok (.iaload, 1) := by decide +kernel
theorem dX12_reads_179 : decode cX12_reads 179 = .ok (.iadd, 1) := by decide +kernel
theorem dX12_reads_180 : decode cX12_reads 180 = .ok (.bipush 48, 2) := by decide +kernel
theorem dX12_reads_182 : decode cX12_reads 182 = .ok (.isub, 1) := by decide +kernel
theorem dX12_reads_183 : decode cX12_reads 183 = .ok (.putfield 180, 3) := by decide +kernel
theorem dX12_reads_186 : decode cX12_reads 186 = .ok (.aload_n 0, 1) := by decide +kernel
theorem dX12_reads_187 : decode cX12_reads 187 = .ok (.dup, 1) := by decide +kernel
theorem dX12_reads_188 : decode cX12_reads 188 = .ok (.getfield 171, 3) := by decide +kernel
theorem dX12_reads_191 : decode cX12_reads 191 = .ok (.iconst 1, 1) := by decide +kernel
theorem dX12_reads_192 : decode cX12_reads 192 = .ok (.iadd, 1) := by decide +kernel
theorem dX12_reads_193 : decode cX12_reads 193 = .ok (.putfield 171, 3) := by decide +kernel
theorem dX12_reads_196 : decode cX12_reads 196 = .ok (.goto (-66), 3) := by decide +kernel
theorem dX12_reads_199 : decode cX12_reads 199 = .ok (.aload_n 0, 1) := by decide +kernel
theorem dX12_reads_200 : decode cX12_reads 200 = .ok (.bipush 20, 2) := by decide +kernel
theorem dX12_reads_202 : decode cX12_reads 202 = .ok (.putfield 183, 3) := by decide +kernel
theorem dX12_reads_205 : decode cX12_reads 205 = .ok (.goto 39, 3) := by decide +kernel
theorem dX12_reads_208 : decode cX12_reads 208 = .ok (.aload_n 0, 1) := by decide +kernel
theorem dX12_reads_209 : decode cX12_reads 209 = .ok (.aload_n 0, 1) := by decide +kernel
theorem dX12_reads_210 : decode cX12_reads 210 = .ok (.aload_n 0, 1) := by decide +kernel
theorem dX12_reads_211 : decode cX12_reads 211 = .ok (.getfield 171, 3) := by decide +kernel
theorem dX12_reads_214 : decode cX12_reads 214 = .ok (.bipush 59, 2) := by decide +kernel
theorem dX12_reads_216 : decode cX12_reads 216 = .ok (.bipush 59, 2) := by decide +kernel
theorem dX12_reads_218 : decode cX12_reads 218 = .ok (.invokevirtual 177, 3) := by decide +kernel
theorem dX12_reads_221 : decode cX12_reads 221 = .ok (.ifCond .eq 8, 3) := by decide +kernel
theorem dX12_reads_224 : decode cX12_reads 224 = .ok (.bipush 21, 2) := by decide +kernel
theorem dX12_reads_226 : decode cX12_reads 226 = .ok (.goto 5, 3) := by decide +kernel
theorem dX12_reads_229 : decode cX12_reads 229 = .ok (.bipush 23, 2) := by decide +kernel
theorem dX12_reads_231 : decode cX12_reads 231 = .ok (.putfield 183, 3) := by decide +kernel
theorem dX12_reads_234 : decode cX12_reads 234 = .ok (.aload_n 0, 1) := by decide +kernel
theorem dX12_reads_235 : decode cX12_reads 235 = .ok (.dup, 1) := by decide +kernel
theorem dX12_reads_236 : decode cX12_reads 236 = .ok (.getfield 171, 3) := by decide +kernel
theorem dX12_reads_239 : decode cX12_reads 239 = .ok (.iconst 1, 1) := by decide +kernel
theorem dX12_reads_240 : decode cX12_reads 240 = .ok (.iadd, 1) := by decide +kernel
theorem dX12_reads_241 : decode cX12_reads 241 = .ok (.putfield 171, 3) := by decide +kernel
theorem dX12_reads_244 : decode cX12_reads 244 = .ok (.return_, 1) := by decide +kernel
theorem dX12_passes_0 : decode cX12_passes 0 = .ok (.aload_n 0, 1) := by decide +kernel
theorem dX12_passes_1 : decode cX12_passes 1 = .ok (.getfield 189, 3) := by decide +kernel
theorem dX12_passes_4 : decode cX12_passes 4 = .ok (.ifCond .ne 11, 3) := by decide +kernel
theorem dX12_passes_7 : decode cX12_passes 7 = .ok (.aload_n 0, 1) := by decide +kernel
theorem dX12_passes_8 : decode cX12_passes 8 = .ok (.getfield 183, 3) := by decide +kernel
theorem dX12_passes_11 : decode cX12_passes 11 = .ok (.iload_n 1, 1) := by decide +kernel
theorem dX12_passes_12 : decode cX12_passes 12 = .ok (.if_icmp .eq 5, 3) := by decide +kernel
theorem dX12_passes_15 : decode cX12_passes 15 = .ok (.iconst 0, 1) := by decide +kernel
theorem dX12_passes_16 : decode cX12_passes 16 = .ok (.ireturn, 1) := by decide +kernel
theorem dX12_passes_17 : decode cX12_passes 17 = .ok (.aload_n 0, 1) := by decide +kernel
theorem dX12_passes_18 : decode cX12_passes 18 = .ok (.invokevirtual 193, 3) := by decide +kernel
theorem dX12_passes_21 : decode cX12_passes 21 = .ok (.iconst 1, 1) := by decide +kernel
theorem dX12_passes_22 : decode cX12_passes 22 = .ok (.ireturn, 1) := by decide +kernel
theorem dX12_number_0 : decode cX12_number 0 = .ok (.aload_n 0, 1) := by decide +kernel
theorem dX12_number_1 : decode cX12_number 1 = .ok (.getfield 180, 3) := by decide +kernel
theorem dX12_number_4 : decode cX12_number 4 = .ok (.istore_n 3, 1) := by decide +kernel
theorem dX12_number_5 : decode cX12_number 5 = .ok (.aload_n 0, 1) := by decide +kernel
theorem dX12_number_6 : decode cX12_number 6 = .ok (.aload_n 0, 1) := by decide +kernel
theorem dX12_number_7 : decode cX12_number 7 = .ok (.getfield 189, 3) := by decide +kernel
theorem dX12_number_10 : decode cX12_number 10 = .ok (.ifCond .ne 22, 3) := by decide +kernel
theorem dX12_number_13 : decode cX12_number 13 = .ok (.aload_n 0, 1) := by decide +kernel
theorem dX12_number_14 : decode cX12_number 14 = .ok (.getfield 183, 3) := by decide +kernel
theorem dX12_number_17 : decode cX12_number 17 = .ok (.bipush 20, 2) := by decide +kernel
theorem dX12_number_19 : decode cX12_number 19 = .ok (.if_icmp .ne 13, 3) := by decide +kernel
theorem dX12_number_22 : decode cX12_number 22 = .ok (.iload_n 3, 1) := by decide +kernel
theorem dX12_number_23 : decode cX12_number 23 = .ok (.i2l, 1) := by decide +kernel
theorem dX12_number_24 : decode cX12_number 24 = .ok (.iload_n 1, 1) := by decide +kernel
theorem dX12_number_25 : decode cX12_number 25 = .ok (.iload_n 2, 1) := by decide +kernel
theorem dX12_number_26 : decode cX12_number 26 = .ok (.invokestatic 41, 3) := by decide +kernel
theorem dX12_number_29 : decode cX12_number 29 = .ok (.ifCond .ne 7, 3) := by decide +kernel
theorem dX12_number_32 : decode cX12_number 32 = .ok (.iconst 1, 1) := by decide +kernel
theorem dX12_number_33 : decode cX12_number 33 = .ok (.goto 4, 3) := by decide +kernel
theorem dX12_number_36 : decode cX12_number 36 = .ok (.iconst 0, 1) := by decide +kernel
theorem dX12_number_37 : decode cX12_number 37 = .ok (.putfield 189, 3) := by decide +kernel
theorem dX12_number_40 : decode cX12_number 40 = .ok (.aload_n 0, 1) := by decide +kernel
theorem dX12_number_41 : decode cX12_number 41 = .ok (.getfield 189, 3) := by decide +kernel
theorem dX12_number_44 : decode cX12_number 44 = .ok (.ifCond .ne 7, 3) := by decide +kernel
theorem dX12_number_47 : decode cX12_number 47 = .ok (.aload_n 0, 1) := by decide +kernel
theorem dX12_number_48 : decode cX12_number 48 = .ok (.invokevirtual 193, 3) := by decide +kernel
theorem dX12_number_51 : decode cX12_number 51 = .ok (.iload_n 3, 1) := by decide +kernel
theorem dX12_number_52 : decode cX12_number 52 = .ok (.ireturn, 1) := by decide +kernel
theorem dX12_slipItem_0 : decode cX12_slipItem 0 = .ok (.aload_n 0, 1) := by decide +kernel
theorem dX12_slipItem_1 : decode cX12_slipItem 1 = .ok (.aload_n 0, 1) := by decide +kernel
theorem dX12_slipItem_2 : decode cX12_slipItem 2 = .ok (.getfield 9, 3) := by decide +kernel
theorem dX12_slipItem_5 : decode cX12_slipItem 5 = .ok (.iconst 2, 1) := by decide +kernel
theorem dX12_slipItem_6 : decode cX12_slipItem 6 = .ok (.iaload, 1) := by decide +kernel
theorem dX12_slipItem_7 : decode cX12_slipItem 7 = .ok (.bipush 10, 2) := by decide +kernel
theorem dX12_slipItem_9 : decode cX12_slipItem 9 = .ok (.if_icmp .ne 7, 3) := by decide +kernel
theorem dX12_slipItem_12 : decode cX12_slipItem 12 = .ok (.iconst 1, 1) := by decide +kernel
theorem dX12_slipItem_13 : decode cX12_slipItem 13 = .ok (.goto 4, 3) := by decide +kernel
theorem dX12_slipItem_16 : decode cX12_slipItem 16 = .ok (.iconst 0, 1) := by decide +kernel
theorem dX12_slipItem_17 : decode cX12_slipItem 17 = .ok (.putfield 189, 3) := by decide +kernel
theorem dX12_slipItem_20 : decode cX12_slipItem 20 = .ok (.aload_n 0, 1) := by decide +kernel
theorem dX12_slipItem_21 : decode cX12_slipItem 21 = .ok (.getfield 189, 3) := by decide +kernel
theorem dX12_slipItem_24 : decode cX12_slipItem 24 = .ok (.ifCond .eq 4, 3) := by decide +kernel
theorem dX12_slipItem_27 : decode cX12_slipItem 27 = .ok (.return_, 1) := by decide +kernel
theorem dX12_slipItem_28 : decode cX12_slipItem 28 = .ok (.aload_n 0, 1) := by decide +kernel
theorem dX12_slipItem_29 : decode cX12_slipItem 29 = .ok (.invokevirtual 193, 3) := by decide +kernel
theorem dX12_slipItem_32 : decode cX12_slipItem 32 = .ok (.aload_n 0, 1) := by decide +kernel
theorem dX12_slipItem_33 : decode cX12_slipItem 33 = .ok (.bipush 7, 2) := by decide +kernel
theorem dX12_slipItem_35 : decode cX12_slipItem 35 = .ok (.invokevirtual 196, 3) := by decide +kernel
theorem dX12_slipItem_38 : decode cX12_slipItem 38 = .ok (.ifCond .eq 7, 3) := by decide +kernel
theorem dX12_slipItem_41 : decode cX12_slipItem 41 = .ok (.iconst (-1), 1) := by decide +kernel
theorem dX12_slipItem_42 : decode cX12_slipItem 42 = .ok (.goto 9, 3) := by decide +kernel
theorem dX12_slipItem_45 : decode cX12_slipItem 45 = .ok (.aload_n 0, 1) := by decide +kernel
theorem dX12_slipItem_46 : decode cX12_slipItem 46 = .ok (.iconst 0, 1) := by decide +kernel
theorem dX12_slipItem_47 : decode cX12_slipItem 47 = .ok (.iconst 5, 1) := by decide +kernel
theorem dX12_slipItem_48 : decode cX12_slipItem 48 = .ok (.invokevirtual 199, 3) := by decide +kernel
theorem dX12_slipItem_51 : decode cX12_slipItem 51 = .ok (.istore_n 1, 1) := by decide +kernel
theorem dX12_slipItem_52 : decode cX12_slipItem 52 = .ok (.aload_n 0, 1) := by decide +kernel
theorem dX12_slipItem_53 : decode cX12_slipItem 53 = .ok (.bipush 8, 2) := by decide +kernel
theorem dX12_slipItem_55 : decode cX12_slipItem 55 = .ok (.invokevirtual 196, 3) := by decide +kernel
theorem dX12_slipItem_58 : decode cX12_slipItem 58 = .ok (.ifCond .eq 7, 3) := by decide +kernel
theorem dX12_slipItem_61 : decode cX12_slipItem 61 = .ok (.iconst 1, 1) := by decide +kernel
theorem dX12_slipItem_62 : decode cX12_slipItem 62 = .ok (.goto 4, 3) := by decide +kernel
theorem dX12_slipItem_65 : decode cX12_slipItem 65 = .ok (.iconst 0, 1) := by decide +kernel
theorem dX12_slipItem_66 : decode cX12_slipItem 66 = .ok (.istore_n 2, 1) := by decide +kernel
theorem dX12_slipItem_67 : decode cX12_slipItem 67 = .ok (.aload_n 0, 1) := by decide +kernel
theorem dX12_slipItem_68 : decode cX12_slipItem 68 = .ok (.getfield 189, 3) := by decide +kernel
theorem dX12_slipItem_71 : decode cX12_slipItem 71 = .ok (.ifCond .ne 10, 3) := by decide +kernel
theorem dX12_slipItem_74 : decode cX12_slipItem 74 = .ok (.aload_n 0, 1) := by decide +kernel
theorem dX12_slipItem_75 : decode cX12_slipItem 75 = .ok (.iload_n 1, 1) := by decide +kernel
theorem dX12_slipItem_76 : decode cX12_slipItem 76 = .ok (.iload_n 2, 1) := by decide +kernel
theorem dX12_slipItem_77 : decode cX12_slipItem 77 = .ok (.invokevirtual 71, 3) := by decide +kernel
theorem dX12_slipItem_80 : decode cX12_slipItem 80 = .ok (.istore_n 3, 1) := by decide +kernel
theorem dX12_slipItem_81 : decode cX12_slipItem 81 = .ok (.return_, 1) := by decide +kernel
theorem dX12_personItem_0 : decode cX12_personItem 0 = .ok (.aload_n 0, 1) := by decide +kernel
theorem dX12_personItem_1 : decode cX12_personItem 1 = .ok (.getfield 183, 3) := by decide +kernel
theorem dX12_personItem_4 : decode cX12_personItem 4 = .ok (.istore_n 1, 1) := by decide +kernel
theorem dX12_personItem_5 : decode cX12_personItem 5 = .ok (.aload_n 0, 1) := by decide +kernel
theorem dX12_personItem_6 : decode cX12_personItem 6 = .ok (.aload_n 0, 1) := by decide +kernel
theorem dX12_personItem_7 : decode cX12_personItem 7 = .ok (.getfield 9, 3) := by decide +kernel
theorem dX12_personItem_10 : decode cX12_personItem 10 = .ok (.iconst 3, 1) := by decide +kernel
theorem dX12_personItem_11 : decode cX12_personItem 11 = .ok (.iaload, 1) := by decide +kernel
theorem dX12_personItem_12 : decode cX12_personItem 12 = .ok (.bipush 6, 2) := by decide +kernel
theorem dX12_personItem_14 : decode cX12_personItem 14 = .ok (.if_icmp .ne 7, 3) := by decide +kernel
theorem dX12_personItem_17 : decode cX12_personItem 17 = .ok (.iconst 1, 1) := by decide +kernel
theorem dX12_personItem_18 : decode cX12_personItem 18 = .ok (.goto 4, 3) := by decide +kernel
theorem dX12_personItem_21 : decode cX12_personItem 21 = .ok (.iconst 0, 1) := by decide +kernel
theorem dX12_personItem_22 : decode cX12_personItem 22 = .ok (.putfield 189, 3) := by decide +kernel
theorem dX12_personItem_25 : decode cX12_personItem 25 = .ok (.aload_n 0, 1) := by decide +kernel
theorem dX12_personItem_26 : decode cX12_personItem 26 = .ok (.getfield 189, 3) := by decide +kernel
theorem dX12_personItem_29 : decode cX12_personItem 29 = .ok (.ifCond .eq 4, 3) := by decide +kernel
theorem dX12_personItem_32 : decode cX12_personItem 32 = .ok (.return_, 1) := by decide +kernel
theorem dX12_personItem_33 : decode cX12_personItem 33 = .ok (.aload_n 0, 1) := by decide +kernel
theorem dX12_personItem_34 : decode cX12_personItem 34 = .ok (.invokevirtual 193, 3) := by decide +kernel
theorem dX12_personItem_37 : decode cX12_personItem 37 = .ok (.aload_n 0, 1) := by decide +kernel
theorem dX12_personItem_38 : decode cX12_personItem 38 = .ok (.iload_n 1, 1) := by decide +kernel
theorem dX12_personItem_39 : decode cX12_personItem 39 = .ok (.invokevirtual 97, 3) := by decide +kernel
theorem dX12_personItem_42 : decode cX12_personItem 42 = .ok (.istore_n 2, 1) := by decide +kernel
theorem dX12_personItem_43 : decode cX12_personItem 43 = .ok (.aload_n 0, 1) := by decide +kernel
theorem dX12_personItem_44 : decode cX12_personItem 44 = .ok (.bipush 9, 2) := by decide +kernel
theorem dX12_personItem_46 : decode cX12_personItem 46 = .ok (.invokevirtual 196, 3) := by decide +kernel
theorem dX12_personItem_49 : decode cX12_personItem 49 = .ok (.istore_n 3, 1) := by decide +kernel
theorem dX12_personItem_50 : decode cX12_personItem 50 = .ok (.iconst 0, 1) := by decide +kernel
theorem dX12_personItem_51 : decode cX12_personItem 51 = .ok (.istore 4, 2) := by decide +kernel
theorem dX12_personItem_53 : decode cX12_personItem 53 = .ok (.iload 4, 2) := by decide +kernel
theorem dX12_personItem_55 : decode cX12_personItem 55 = .ok (.iconst 5, 1) := by decide +kernel
theorem dX12_personItem_56 : decode cX12_personItem 56 = .ok (.if_icmp .ge 57, 3) := by decide +kernel
theorem dX12_personItem_59 : decode cX12_personItem 59 = .ok (.iload_n 3, 1) := by decide +kernel
theorem dX12_personItem_60 : decode cX12_personItem 60 = .ok (.ifCond .eq 53, 3) := by decide +kernel
theorem dX12_personItem_63 : decode cX12_personItem 63 = .ok (.aload_n 0, 1) := by decide +kernel
theorem dX12_personItem_64 : decode cX12_personItem 64 = .ok (.getfield 189, 3) := by decide +kernel
theorem dX12_personItem_67 : decode cX12_personItem 67 = .ok (.ifCond .ne 46, 3) := by decide +kernel
theorem dX12_personItem_70 : decode cX12_personItem 70 = .ok (.iload 4, 2) := by decide +kernel
theorem dX12_personItem_72 : decode cX12_personItem 72 = .ok (.ifCond .eq 12, 3) := by decide +kernel
theorem dX12_personItem_75 : decode cX12_personItem 75 = .ok (.aload_n 0, 1) := by decide +kernel
theorem dX12_personItem_76 : decode cX12_personItem 76 = .ok (.getfield 183, 3) := by decide +kernel
theorem dX12_personItem_79 : decode cX12_personItem 79 = .ok (.bipush 20, 2) := by decide +kernel
theorem dX12_personItem_81 : decode cX12_personItem 81 = .ok (.if_icmp .ne 32, 3) := by decide +kernel
theorem dX12_personItem_84 : decode cX12_personItem 84 = .ok (.aload_n 0, 1) := by decide +kernel
theorem dX12_personItem_85 : decode cX12_personItem 85 = .ok (.getfield 9, 3) := by decide +kernel
theorem dX12_personItem_88 : decode cX12_personItem 88 = .ok (.bipush 34, 2) := by decide +kernel
theorem dX12_personItem_90 : decode cX12_personItem 90 = .ok (.bipush 12, 2) := by decide +kernel
theorem dX12_personItem_92 : decode cX12_personItem 92 = .ok (.iload_n 2, 1) := by decide +kernel
theorem dX12_personItem_93 : decode cX12_personItem 93 = .ok (.imul, 1) := by decide +kernel
theorem dX12_personItem_94 : decode cX12_personItem 94 = .ok (.iadd, 1) := by decide +kernel
theorem dX12_personItem_95 : decode cX12_personItem 95 = .ok (.iconst 2, 1) := by decide +kernel
theorem dX12_personItem_96 : decode cX12_personItem 96 = .ok (.iadd, 1) := by decide +kernel
theorem dX12_personItem_97 : decode cX12_personItem 97 = .ok (.iload 4, 2) := by decide +kernel
theorem dX12_personItem_99 : decode cX12_personItem 99 = .ok (.iadd, 1) := by decide +kernel
theorem dX12_personItem_100 : decode cX12_personItem 100 = .ok (.aload_n 0, 1) := by decide +kernel
theorem dX12_personItem_101 : decode cX12_personItem 101 = .ok (.iconst 0, 1) := by decide +kernel
theorem dX12_personItem_102 : decode cX12_personItem 102 = .ok (.iconst 5, 1) := by decide +kernel
theorem dX12_personItem_103 : decode cX12_personItem 103 = .ok (.invokevirtual 199, 3) := by decide +kernel
theorem dX12_personItem_106 : decode cX12_personItem 106 = .ok (.iastore, 1) := by decide +kernel
theorem dX12_personItem_107 : decode cX12_personItem 107 = .ok (.iinc 4 1, 3) := by decide +kernel
theorem dX12_personItem_110 : decode cX12_personItem 110 = .ok (.goto (-57), 3) := by decide +kernel
theorem dX12_personItem_113 : decode cX12_personItem 113 = .ok (.return_, 1) := by decide +kernel
theorem dX12_item_0 : decode cX12_item 0 = .ok (.aload_n 0, 1) := by decide +kernel
theorem dX12_item_1 : decode cX12_item 1 = .ok (.getfield 183, 3) := by decide +kernel
theorem dX12_item_4 : decode cX12_item 4 = .ok (.iconst 5, 1) := by decide +kernel
theorem dX12_item_5 : decode cX12_item 5 = .ok (.if_icmp .gt 10, 3) := by decide +kernel
theorem dX12_item_8 : decode cX12_item 8 = .ok (.aload_n 0, 1) := by decide +kernel
theorem dX12_item_9 : decode cX12_item 9 = .ok (.invokevirtual 202, 3) := by decide +kernel
theorem dX12_item_12 : decode cX12_item 12 = .ok (.goto 49, 3) := by decide +kernel
theorem dX12_item_15 : decode cX12_item 15 = .ok (.aload_n 0, 1) := by decide +kernel
theorem dX12_item_16 : decode cX12_item 16 = .ok (.getfield 183, 3) := by decide +kernel
theorem dX12_item_19 : decode cX12_item 19 = .ok (.bipush 6, 2) := by decide +kernel
theorem dX12_item_21 : decode cX12_item 21 = .ok (.if_icmp .ne 10, 3) := by decide +kernel
theorem dX12_item_24 : decode cX12_item 24 = .ok (.aload_n 0, 1) := by decide +kernel
theorem dX12_item_25 : decode cX12_item 25 = .ok (.invokevirtual 205, 3) := by decide +kernel
theorem dX12_item_28 : decode cX12_item 28 = .ok (.goto 33, 3) := by decide +kernel
theorem dX12_item_31 : decode cX12_item 31 = .ok (.aload_n 0, 1) := by decide +kernel
theorem dX12_item_32 : decode cX12_item 32 = .ok (.bipush 10, 2) := by decide +kernel
theorem dX12_item_34 : decode cX12_item 34 = .ok (.invokevirtual 196, 3) := by decide +kernel
theorem dX12_item_37 : decode cX12_item 37 = .ok (.ifCond .eq 19, 3) := by decide +kernel
theorem dX12_item_40 : decode cX12_item 40 = .ok (.aload_n 0, 1) := by decide +kernel
theorem dX12_item_41 : decode cX12_item 41 = .ok (.getfield 9, 3) := by decide +kernel
theorem dX12_item_44 : decode cX12_item 44 = .ok (.iconst 1, 1) := by decide +kernel
theorem dX12_item_45 : decode cX12_item 45 = .ok (.aload_n 0, 1) := by decide +kernel
theorem dX12_item_46 : decode cX12_item 46 = .ok (.iconst 0, 1) := by decide +kernel
theorem dX12_item_47 : decode cX12_item 47 = .ok (.bipush 99, 2) := by decide +kernel
theorem dX12_item_49 : decode cX12_item 49 = .ok (.invokevirtual 199, 3) := by decide +kernel
theorem dX12_item_52 : decode cX12_item 52 = .ok (.iastore, 1) := by decide +kernel
theorem dX12_item_53 : decode cX12_item 53 = .ok (.goto 8, 3) := by decide +kernel
theorem dX12_item_56 : decode cX12_item 56 = .ok (.aload_n 0, 1) := by decide +kernel
theorem dX12_item_57 : decode cX12_item 57 = .ok (.iconst 1, 1) := by decide +kernel
theorem dX12_item_58 : decode cX12_item 58 = .ok (.putfield 189, 3) := by decide +kernel
theorem dX12_item_61 : decode cX12_item 61 = .ok (.return_, 1) := by decide +kernel
theorem dX12_wall_0 : decode cX12_wall 0 = .ok (.aload_n 0, 1) := by decide +kernel
theorem dX12_wall_1 : decode cX12_wall 1 = .ok (.invokevirtual 146, 3) := by decide +kernel
theorem dX12_wall_4 : decode cX12_wall 4 = .ok (.aload_n 0, 1) := by decide +kernel
theorem dX12_wall_5 : decode cX12_wall 5 = .ok (.iconst 0, 1) := by decide +kernel
theorem dX12_wall_6 : decode cX12_wall 6 = .ok (.putfield 171, 3) := by decide +kernel
theorem dX12_wall_9 : decode cX12_wall 9 = .ok (.aload_n 0, 1) := by decide +kernel
theorem dX12_wall_10 : decode cX12_wall 10 = .ok (.iconst 0, 1) := by decide +kernel
theorem dX12_wall_11 : decode cX12_wall 11 = .ok (.putfield 189, 3) := by decide +kernel
theorem dX12_wall_14 : decode cX12_wall 14 = .ok (.aload_n 0, 1) := by decide +kernel
theorem dX12_wall_15 : decode cX12_wall 15 = .ok (.invokevirtual 193, 3) := by decide +kernel
theorem dX12_wall_18 : decode cX12_wall 18 = .ok (.aload_n 0, 1) := by decide +kernel
theorem dX12_wall_19 : decode cX12_wall 19 = .ok (.invokevirtual 208, 3) := by decide +kernel
theorem dX12_wall_22 : decode cX12_wall 22 = .ok (.iconst 1, 1) := by decide +kernel
theorem dX12_wall_23 : decode cX12_wall 23 = .ok (.istore_n 1, 1) := by decide +kernel
theorem dX12_wall_24 : decode cX12_wall 24 = .ok (.aload_n 0, 1) := by decide +kernel
theorem dX12_wall_25 : decode cX12_wall 25 = .ok (.bipush 21, 2) := by decide +kernel
theorem dX12_wall_27 : decode cX12_wall 27 = .ok (.invokevirtual 196, 3) := by decide +kernel
theorem dX12_wall_30 : decode cX12_wall 30 = .ok (.ifCond .eq 13, 3) := by decide +kernel
theorem dX12_wall_33 : decode cX12_wall 33 = .ok (.aload_n 0, 1) := by decide +kernel
theorem dX12_wall_34 : decode cX12_wall 34 = .ok (.invokevirtual 208, 3) := by decide +kernel
theorem dX12_wall_37 : decode cX12_wall 37 = .ok (.iinc 1 1, 3) := by decide +kernel
theorem dX12_wall_40 : decode cX12_wall 40 = .ok (.goto (-16), 3) := by decide +kernel
theorem dX12_wall_43 : decode cX12_wall 43 = .ok (.aload_n 0, 1) := by decide +kernel
theorem dX12_wall_44 : decode cX12_wall 44 = .ok (.aload_n 0, 1) := by decide +kernel
theorem dX12_wall_45 : decode cX12_wall 45 = .ok (.getfield 189, 3) := by decide +kernel
theorem dX12_wall_48 : decode cX12_wall 48 = .ok (.ifCond .ne 12, 3) := by decide +kernel
theorem dX12_wall_51 : decode cX12_wall 51 = .ok (.aload_n 0, 1) := by decide +kernel
theorem dX12_wall_52 : decode cX12_wall 52 = .ok (.getfield 183, 3) := by decide +kernel
theorem dX12_wall_55 : decode cX12_wall 55 = .ok (.bipush 22, 2) := by decide +kernel
theorem dX12_wall_57 : decode cX12_wall 57 = .ok (.if_icmp .eq 7, 3) := by decide +kernel
theorem dX12_wall_60 : decode cX12_wall 60 = .ok (.iconst 1, 1) := by decide +kernel
theorem dX12_wall_61 : decode cX12_wall 61 = .ok (.goto 4, 3) := by decide +kernel
theorem dX12_wall_64 : decode cX12_wall 64 = .ok (.iconst 0, 1) := by decide +kernel
theorem dX12_wall_65 : decode cX12_wall 65 = .ok (.putfield 189, 3) := by decide +kernel
theorem dX12_wall_68 : decode cX12_wall 68 = .ok (.aload_n 0, 1) := by decide +kernel
theorem dX12_wall_69 : decode cX12_wall 69 = .ok (.iconst 0, 1) := by decide +kernel
theorem dX12_wall_70 : decode cX12_wall 70 = .ok (.putfield 162, 3) := by decide +kernel
theorem dX12_wall_73 : decode cX12_wall 73 = .ok (.aload_n 0, 1) := by decide +kernel
theorem dX12_wall_74 : decode cX12_wall 74 = .ok (.getfield 189, 3) := by decide +kernel
theorem dX12_wall_77 : decode cX12_wall 77 = .ok (.ifCond .ne 5, 3) := by decide +kernel
theorem dX12_wall_80 : decode cX12_wall 80 = .ok (.iload_n 1, 1) := by decide +kernel
theorem dX12_wall_81 : decode cX12_wall 81 = .ok (.ireturn, 1) := by decide +kernel
theorem dX12_wall_82 : decode cX12_wall 82 = .ok (.aload_n 0, 1) := by decide +kernel
theorem dX12_wall_83 : decode cX12_wall 83 = .ok (.invokevirtual 149, 3) := by decide +kernel
theorem dX12_wall_86 : decode cX12_wall 86 = .ok (.iconst (-1), 1) := by decide +kernel
theorem dX12_wall_87 : decode cX12_wall 87 = .ok (.aload_n 0, 1) := by decide +kernel
theorem dX12_wall_88 : decode cX12_wall 88 = .ok (.getfield 168, 3) := by decide +kernel
theorem dX12_wall_91 : decode cX12_wall 91 = .ok (.isub, 1) := by decide +kernel
theorem dX12_wall_92 : decode cX12_wall 92 = .ok (.ireturn, 1) := by decide +kernel
theorem dX12_isSheet_0 : decode cX12_isSheet 0 = .ok (.iload_n 0, 1) := by decide +kernel
theorem dX12_isSheet_1 : decode cX12_isSheet 1 = .ok (.i2l, 1) := by decide +kernel
theorem dX12_isSheet_2 : decode cX12_isSheet 2 = .ok (.iconst 0, 1) := by decide +kernel
theorem dX12_isSheet_3 : decode cX12_isSheet 3 = .ok (.iconst 3, 1) := by decide +kernel
theorem dX12_isSheet_4 : decode cX12_isSheet 4 = .ok (.invokestatic 41, 3) := by decide +kernel
theorem dX12_isSheet_7 : decode cX12_isSheet 7 = .ok (.ireturn, 1) := by decide +kernel
theorem dX12_sheet_0 : decode cX12_sheet 0 = .ok (.iload_n 1, 1) := by decide +kernel
theorem dX12_sheet_1 : decode cX12_sheet 1 = .ok (.invokestatic 211, 3) := by decide +kernel
theorem dX12_sheet_4 : decode cX12_sheet 4 = .ok (.ifCond .eq 25, 3) := by decide +kernel
theorem dX12_sheet_7 : decode cX12_sheet 7 = .ok (.iload_n 2, 1) := by decide +kernel
theorem dX12_sheet_8 : decode cX12_sheet 8 = .ok (.ifCond .eq 28, 3) := by decide +kernel
theorem dX12_sheet_11 : decode cX12_sheet 11 = .ok (.iload_n 2, 1) := by decide +kernel
theorem dX12_sheet_12 : decode cX12_sheet 12 = .ok (.bipush 8, 2) := by decide +kernel
theorem dX12_sheet_14 : decode cX12_sheet 14 = .ok (.if_icmp .eq 22, 3) := by decide +kernel
theorem dX12_sheet_17 : decode cX12_sheet 17 = .ok (.iload_n 2, 1) := by decide +kernel
theorem dX12_sheet_18 : decode cX12_sheet 18 = .ok (.bipush 16, 2) := by decide +kernel
theorem dX12_sheet_20 : decode cX12_sheet 20 = .ok (.if_icmp .eq 16, 3) := by decide +kernel
theorem dX12_sheet_23 : decode cX12_sheet 23 = .ok (.iload_n 2, 1) := by decide +kernel
theorem dX12_sheet_24 : decode cX12_sheet 24 = .ok (.bipush 64, 2) := by decide +kernel
theorem dX12_sheet_26 : decode cX12_sheet 26 = .ok (.if_icmp .eq 10, 3) := by decide +kernel
theorem dX12_sheet_29 : decode cX12_sheet 29 = .ok (.aload_n 0, 1) := by decide +kernel
theorem dX12_sheet_30 : decode cX12_sheet 30 = .ok (.ldc 35, 2) := by decide +kernel
theorem dX12_sheet_32 : decode cX12_sheet 32 = .ok (.invokevirtual 37, 3) := by decide +kernel
theorem dX12_sheet_35 : decode cX12_sheet 35 = .ok (.ireturn, 1) := by decide +kernel
theorem dX12_sheet_36 : decode cX12_sheet 36 = .ok (.iload_n 3, 1) := by decide +kernel
theorem dX12_sheet_37 : decode cX12_sheet 37 = .ok (.ifCond .ge 10, 3) := by decide +kernel
theorem dX12_sheet_40 : decode cX12_sheet 40 = .ok (.aload_n 0, 1) := by decide +kernel
theorem dX12_sheet_41 : decode cX12_sheet 41 = .ok (.ldc 214, 2) := by decide +kernel
theorem dX12_sheet_43 : decode cX12_sheet 43 = .ok (.invokevirtual 37, 3) := by decide +kernel
theorem dX12_sheet_46 : decode cX12_sheet 46 = .ok (.ireturn, 1) := by decide +kernel
theorem dX12_sheet_47 : decode cX12_sheet 47 = .ok (.iload_n 3, 1) := by decide +kernel
theorem dX12_sheet_48 : decode cX12_sheet 48 = .ok (.bipush 40, 2) := by decide +kernel
theorem dX12_sheet_50 : decode cX12_sheet 50 = .ok (.if_icmp .le 10, 3) := by decide +kernel
theorem dX12_sheet_53 : decode cX12_sheet 53 = .ok (.aload_n 0, 1) := by decide +kernel
theorem dX12_sheet_54 : decode cX12_sheet 54 = .ok (.ldc 35, 2) := by decide +kernel
theorem dX12_sheet_56 : decode cX12_sheet 56 = .ok (.invokevirtual 37, 3) := by decide +kernel
theorem dX12_sheet_59 : decode cX12_sheet 59 = .ok (.ireturn, 1) := by decide +kernel
theorem dX12_sheet_60 : decode cX12_sheet 60 = .ok (.aload_n 0, 1) := by decide +kernel
theorem dX12_sheet_61 : decode cX12_sheet 61 = .ok (.getfield 25, 3) := by decide +kernel
theorem dX12_sheet_64 : decode cX12_sheet 64 = .ok (.iload_n 1, 1) := by decide +kernel
theorem dX12_sheet_65 : decode cX12_sheet 65 = .ok (.iload_n 2, 1) := by decide +kernel
theorem dX12_sheet_66 : decode cX12_sheet 66 = .ok (.iastore, 1) := by decide +kernel
theorem dX12_sheet_67 : decode cX12_sheet 67 = .ok (.aload_n 0, 1) := by decide +kernel
theorem dX12_sheet_68 : decode cX12_sheet 68 = .ok (.getfield 28, 3) := by decide +kernel
theorem dX12_sheet_71 : decode cX12_sheet 71 = .ok (.iload_n 1, 1) := by decide +kernel
theorem dX12_sheet_72 : decode cX12_sheet 72 = .ok (.iload_n 2, 1) := by decide +kernel
theorem dX12_sheet_73 : decode cX12_sheet 73 = .ok (.ifCond .ne 7, 3) := by decide +kernel
theorem dX12_sheet_76 : decode cX12_sheet 76 = .ok (.iconst 0, 1) := by decide +kernel
theorem dX12_sheet_77 : decode cX12_sheet 77 = .ok (.goto 4, 3) := by decide +kernel
theorem dX12_sheet_80 : decode cX12_sheet 80 = .ok (.iload_n 3, 1) := by decide +kernel
theorem dX12_sheet_81 : decode cX12_sheet 81 = .ok (.iastore, 1) := by decide +kernel
theorem dX12_sheet_82 : decode cX12_sheet 82 = .ok (.iconst 0, 1) := by decide +kernel
theorem dX12_sheet_83 : decode cX12_sheet 83 = .ok (.istore 4, 2) := by decide +kernel
theorem dX12_sheet_85 : decode cX12_sheet 85 = .ok (.iload 4, 2) := by decide +kernel
theorem dX12_sheet_87 : decode cX12_sheet 87 = .ok (.bipush 40, 2) := by decide +kernel
theorem dX12_sheet_89 : decode cX12_sheet 89 = .ok (.if_icmp .ge 22, 3) := by decide +kernel
theorem dX12_sheet_92 : decode cX12_sheet 92 = .ok (.aload_n 0, 1) := by decide +kernel
theorem dX12_sheet_93 : decode cX12_sheet 93 = .ok (.getfield 31, 3) := by decide +kernel
theorem dX12_sheet_96 : decode cX12_sheet 96 = .ok (.bipush 40, 2) := by decide +kernel
theorem dX12_sheet_98 : decode cX12_sheet 98 = .ok (.iload_n 1, 1) := by decide +kernel
theorem dX12_sheet_99 : decode cX12_sheet 99 = .ok (.imul, 1) := by decide +kernel
theorem dX12_sheet_100 : decode cX12_sheet 100 = .ok (.iload 4, 2) := by decide +kernel
theorem dX12_sheet_102 : decode cX12_sheet 102 = .ok (.iadd, 1) := by decide +kernel
theorem dX12_sheet_103 : decode cX12_sheet 103 = .ok (.lconst 0, 1) := by decide +kernel
theorem dX12_sheet_104 : decode cX12_sheet 104 = .ok (.lastore, 1) := by decide +kernel
theorem dX12_sheet_105 : decode cX12_sheet 105 = .ok (.iinc 4 1, 3) := by decide +kernel
theorem dX12_sheet_108 : decode cX12_sheet 108 = .ok (.goto (-23), 3) := by decide +kernel
theorem dX12_sheet_111 : decode cX12_sheet 111 = .ok (.aload_n 0, 1) := by decide +kernel
theorem dX12_sheet_112 : decode cX12_sheet 112 = .ok (.getfield 28, 3) := by decide +kernel
theorem dX12_sheet_115 : decode cX12_sheet 115 = .ok (.iload_n 1, 1) := by decide +kernel
theorem dX12_sheet_116 : decode cX12_sheet 116 = .ok (.iaload, 1) := by decide +kernel
theorem dX12_sheet_117 : decode cX12_sheet 117 = .ok (.ireturn, 1) := by decide +kernel
theorem dX12_notThere_0 : decode cX12_notThere 0 = .ok (.iload_n 1, 1) := by decide +kernel
theorem dX12_notThere_1 : decode cX12_notThere 1 = .ok (.invokestatic 211, 3) := by decide +kernel
theorem dX12_notThere_4 : decode cX12_notThere 4 = .ok (.ifCond .ne 8, 3) := by decide +kernel
theorem dX12_notThere_7 : decode cX12_notThere 7 = .ok (.ldc 35, 2) := by decide +kernel
theorem dX12_notThere_9 : decode cX12_notThere 9 = .ok (.goto 18, 3) := by decide +kernel
theorem dX12_notThere_12 : decode cX12_notThere 12 = .ok (.aload_n 0, 1) := by decide +kernel
theorem dX12_notThere_13 : decode cX12_notThere 13 = .ok (.getfield 25, 3) := by decide +kernel
theorem dX12_notThere_16 : decode cX12_notThere 16 = .ok (.iload_n 1, 1) := by decide +kernel
theorem dX12_notThere_17 : decode cX12_notThere 17 = .ok (.iaload, 1) := by decide +kernel
theorem dX12_notThere_18 : decode cX12_notThere 18 = .ok (.ifCond .ne 8, 3) := by decide +kernel
theorem dX12_notThere_21 : decode cX12_notThere 21 = .ok (.ldc 215, 2) := by decide +kernel
theorem dX12_notThere_23 : decode cX12_notThere 23 = .ok (.goto 4, 3) := by decide +kernel
theorem dX12_notThere_26 : decode cX12_notThere 26 = .ok (.iconst 0, 1) := by decide +kernel
theorem dX12_notThere_27 : decode cX12_notThere 27 = .ok (.ireturn, 1) := by decide +kernel
theorem dX12_cutTo_0 : decode cX12_cutTo 0 = .ok (.iload_n 0, 1) := by decide +kernel
theorem dX12_cutTo_1 : decode cX12_cutTo 1 = .ok (.bipush 8, 2) := by decide +kernel
theorem dX12_cutTo_3 : decode cX12_cutTo 3 = .ok (.if_icmp .ne 10, 3) := by decide +kernel
theorem dX12_cutTo_6 : decode cX12_cutTo 6 = .ok (.lload_n 1, 1) := by decide +kernel
theorem dX12_cutTo_7 : decode cX12_cutTo 7 = .ok (.l2i, 1) := by decide +kernel
theorem dX12_cutTo_8 : decode cX12_cutTo 8 = .ok (.i2b, 1) := by decide +kernel
theorem dX12_cutTo_9 : decode cX12_cutTo 9 = .ok (.i2l, 1) := by decide +kernel
theorem dX12_cutTo_10 : decode cX12_cutTo 10 = .ok (.goto 17, 3) := by decide +kernel
theorem dX12_cutTo_13 : decode cX12_cutTo 13 = .ok (.iload_n 0, 1) := by decide +kernel
theorem dX12_cutTo_14 : decode cX12_cutTo 14 = .ok (.bipush 16, 2) := by decide +kernel
theorem dX12_cutTo_16 : decode cX12_cutTo 16 = .ok (.if_icmp .ne 10, 3) := by decide +kernel
theorem dX12_cutTo_19 : decode cX12_cutTo 19 = .ok (.lload_n 1, 1) := by decide +kernel
theorem dX12_cutTo_20 : decode cX12_cutTo 20 = .ok (.l2i, 1) := by decide +kernel
theorem dX12_cutTo_21 : decode cX12_cutTo 21 = .ok (.i2s, 1) := by decide +kernel
theorem dX12_cutTo_22 : decode cX12_cutTo 22 = .ok (.i2l, 1) := by decide +kernel
theorem dX12_cutTo_23 : decode cX12_cutTo 23 = .ok (.goto 4, 3) := by decide +kernel
theorem dX12_cutTo_26 : decode cX12_cutTo 26 = .ok (.lload_n 1, 1) := by decide +kernel
theorem dX12_cutTo_27 : decode cX12_cutTo 27 = .ok (.lreturn, 1) := by decide +kernel
theorem dX12_write_0 : decode cX12_write 0 = .ok (.aload_n 0, 1) := by decide +kernel
theorem dX12_write_1 : decode cX12_write 1 = .ok (.iload_n 1, 1) := by decide +kernel
theorem dX12_write_2 : decode cX12_write 2 = .ok (.invokevirtual 216, 3) := by decide +kernel
theorem dX12_write_5 : decode cX12_write 5 = .ok (.istore 5, 2) := by decide +kernel
theorem dX12_write_7 : decode cX12_write 7 = .ok (.iload 5, 2) := by decide +kernel
theorem dX12_write_9 : decode cX12_write 9 = .ok (.ifCond .ne 24, 3) := by decide +kernel
theorem dX12_write_12 : decode cX12_write 12 = .ok (.iload_n 2, 1) := by decide +kernel
theorem dX12_write_13 : decode cX12_write 13 = .ok (.i2l, 1) := by decide +kernel
theorem dX12_write_14 : decode cX12_write 14 = .ok (.iconst 0, 1) := by decide +kernel
theorem dX12_write_15 : decode cX12_write 15 = .ok (.aload_n 0, 1) := by decide +kernel
theorem dX12_write_16 : decode cX12_write 16 = .ok (.getfield 28, 3) := by decide +kernel
theorem dX12_write_19 : decode cX12_write 19 = .ok (.iload_n 1, 1) := by decide +kernel
theorem dX12_write_20 : decode cX12_write 20 = .ok (.iaload, 1) := by decide +kernel
theorem dX12_write_21 : decode cX12_write 21 = .ok (.iconst 1, 1) := by decide +kernel
theorem dX12_write_22 : decode cX12_write 22 = .ok (.isub, 1) := by decide +kernel
theorem dX12_write_23 : decode cX12_write 23 = .ok (.invokestatic 41, 3) := by decide +kernel
theorem dX12_write_26 : decode cX12_write 26 = .ok (.ifCond .ne 7, 3) := by decide +kernel
theorem dX12_write_29 : decode cX12_write 29 = .ok (.ldc 35, 2) := by decide +kernel
theorem dX12_write_31 : decode cX12_write 31 = .ok (.istore 5, 2) := by decide +kernel
theorem dX12_write_33 : decode cX12_write 33 = .ok (.iload 5, 2) := by decide +kernel
theorem dX12_write_35 : decode cX12_write 35 = .ok (.ifCond .eq 11, 3) := by decide +kernel
theorem dX12_write_38 : decode cX12_write 38 = .ok (.aload_n 0, 1) := by decide +kernel
theorem dX12_write_39 : decode cX12_write 39 = .ok (.iload 5, 2) := by decide +kernel
theorem dX12_write_41 : decode cX12_write 41 = .ok (.invokevirtual 37, 3) := by decide +kernel
theorem dX12_write_44 : decode cX12_write 44 = .ok (.i2l, 1) := by decide +kernel
theorem dX12_write_45 : decode cX12_write 45 = .ok (.lreturn, 1) := by decide +kernel
theorem dX12_write_46 : decode cX12_write 46 = .ok (.aload_n 0, 1) := by decide +kernel
theorem dX12_write_47 : decode cX12_write 47 = .ok (.getfield 31, 3) := by decide +kernel
theorem dX12_write_50 : decode cX12_write 50 = .ok (.bipush 40, 2) := by decide +kernel
theorem dX12_write_52 : decode cX12_write 52 = .ok (.iload_n 1, 1) := by decide +kernel
theorem dX12_write_53 : decode cX12_write 53 = .ok (.imul, 1) := by decide +kernel
theorem dX12_write_54 : decode cX12_write 54 = .ok (.iload_n 2, 1) := by decide +kernel
theorem dX12_write_55 : decode cX12_write 55 = .ok (.iadd, 1) := by decide +kernel
theorem dX12_write_56 : decode cX12_write 56 = .ok (.laload, 1) := by decide +kernel
theorem dX12_write_57 : decode cX12_write 57 = .ok (.lstore 6, 2) := by decide +kernel
theorem dX12_write_59 : decode cX12_write 59 = .ok (.aload_n 0, 1) := by decide +kernel
theorem dX12_write_60 : decode cX12_write 60 = .ok (.getfield 31, 3) := by decide +kernel
theorem dX12_write_63 : decode cX12_write 63 = .ok (.bipush 40, 2) := by decide +kernel
theorem dX12_write_65 : decode cX12_write 65 = .ok (.iload_n 1, 1) := by decide +kernel
theorem dX12_write_66 : decode cX12_write 66 = .ok (.imul, 1) := by decide +kernel
theorem dX12_write_67 : decode cX12_write 67 = .ok (.iload_n 2, 1) := by decide +kernel
theorem dX12_write_68 : decode cX12_write 68 = .ok (.iadd, 1) := by decide +kernel
theorem dX12_write_69 : decode cX12_write 69 = .ok (.aload_n 0, 1) := by decide +kernel
theorem dX12_write_70 : decode cX12_write 70 = .ok (.getfield 25, 3) := by decide +kernel
theorem dX12_write_73 : decode cX12_write 73 = .ok (.iload_n 1, 1) := by decide +kernel
theorem dX12_write_74 : decode cX12_write 74 = .ok (.iaload, 1) := by decide +kernel
theorem dX12_write_75 : decode cX12_write 75 = .ok (.lload_n 3, 1) := by decide +kernel
theorem dX12_write_76 : decode cX12_write 76 = .ok (.invokestatic 219, 3) := by decide +kernel
theorem dX12_write_79 : decode cX12_write 79 = .ok (.lastore, 1) := by decide +kernel
theorem dX12_write_80 : decode cX12_write 80 = .ok (.lload 6, 2) := by decide +kernel
theorem dX12_write_82 : decode cX12_write 82 = .ok (.lreturn, 1) := by decide +kernel
theorem dX12_notCopied_0 : decode cX12_notCopied 0 = .ok (.iload_n 1, 1) := by decide +kernel
theorem dX12_notCopied_1 : decode cX12_notCopied 1 = .ok (.invokestatic 211, 3) := by decide +kernel
theorem dX12_notCopied_4 : decode cX12_notCopied 4 = .ok (.ifCond .eq 10, 3) := by decide +kernel
theorem dX12_notCopied_7 : decode cX12_notCopied 7 = .ok (.iload_n 3, 1) := by decide +kernel
theorem dX12_notCopied_8 : decode cX12_notCopied 8 = .ok (.invokestatic 211, 3) := by decide +kernel
theorem dX12_notCopied_11 : decode cX12_notCopied 11 = .ok (.ifCond .ne 6, 3) := by decide +kernel
theorem dX12_notCopied_14 : decode cX12_notCopied 14 = .ok (.ldc 35, 2) := by decide +kernel
theorem dX12_notCopied_16 : decode cX12_notCopied 16 = .ok (.ireturn, 1) := by decide +kernel
theorem dX12_notCopied_17 : decode cX12_notCopied 17 = .ok (.aload_n 0, 1) := by decide +kernel
theorem dX12_notCopied_18 : decode cX12_notCopied 18 = .ok (.getfield 25, 3) := by decide +kernel
theorem dX12_notCopied_21 : decode cX12_notCopied 21 = .ok (.iload_n 1, 1) := by decide +kernel
theorem dX12_notCopied_22 : decode cX12_notCopied 22 = .ok (.iaload, 1) := by decide +kernel
theorem dX12_notCopied_23 : decode cX12_notCopied 23 = .ok (.ifCond .eq 12, 3) := by decide +kernel
theorem dX12_notCopied_26 : decode cX12_notCopied 26 = .ok (.aload_n 0, 1) := by decide +kernel
theorem dX12_notCopied_27 : decode cX12_notCopied 27 = .ok (.getfield 25, 3) := by decide +kernel
theorem dX12_notCopied_30 : decode cX12_notCopied 30 = .ok (.iload_n 3, 1) := by decide +kernel
theorem dX12_notCopied_31 : decode cX12_notCopied 31 = .ok (.iaload, 1) := by decide +kernel
theorem dX12_notCopied_32 : decode cX12_notCopied 32 = .ok (.ifCond .ne 6, 3) := by decide +kernel
theorem dX12_notCopied_35 : decode cX12_notCopied 35 = .ok (.ldc 215, 2) := by decide +kernel
theorem dX12_notCopied_37 : decode cX12_notCopied 37 = .ok (.ireturn, 1) := by decide +kernel
theorem dX12_notCopied_38 : decode cX12_notCopied 38 = .ok (.aload_n 0, 1) := by decide +kernel
theorem dX12_notCopied_39 : decode cX12_notCopied 39 = .ok (.getfield 25, 3) := by decide +kernel
theorem dX12_notCopied_42 : decode cX12_notCopied 42 = .ok (.iload_n 1, 1) := by decide +kernel
theorem dX12_notCopied_43 : decode cX12_notCopied 43 = .ok (.iaload, 1) := by decide +kernel
theorem dX12_notCopied_44 : decode cX12_notCopied 44 = .ok (.aload_n 0, 1) := by decide +kernel
theorem dX12_notCopied_45 : decode cX12_notCopied 45 = .ok (.getfield 25, 3) := by decide +kernel
theorem dX12_notCopied_48 : decode cX12_notCopied 48 = .ok (.iload_n 3, 1) := by decide +kernel
theorem dX12_notCopied_49 : decode cX12_notCopied 49 = .ok (.iaload, 1) := by decide +kernel
theorem dX12_notCopied_50 : decode cX12_notCopied 50 = .ok (.if_icmp .eq 6, 3) := by decide +kernel
theorem dX12_notCopied_53 : decode cX12_notCopied 53 = .ok (.ldc 115, 2) := by decide +kernel
theorem dX12_notCopied_55 : decode cX12_notCopied 55 = .ok (.ireturn, 1) := by decide +kernel
theorem dX12_notCopied_56 : decode cX12_notCopied 56 = .ok (.iload 5, 2) := by decide +kernel
theorem dX12_notCopied_58 : decode cX12_notCopied 58 = .ok (.ifCond .lt 43, 3) := by decide +kernel
theorem dX12_notCopied_61 : decode cX12_notCopied 61 = .ok (.iload_n 2, 1) := by decide +kernel
theorem dX12_notCopied_62 : decode cX12_notCopied 62 = .ok (.ifCond .lt 39, 3) := by decide +kernel
theorem dX12_notCopied_65 : decode cX12_notCopied 65 = .ok (.iload 4, 2) := by decide +kernel
theorem dX12_notCopied_67 : decode cX12_notCopied 67 = .ok (.ifCond .lt 34, 3) := by decide +kernel
theorem dX12_notCopied_70 : decode cX12_notCopied 70 = .ok (.iload 5, 2) := by decide +kernel
theorem dX12_notCopied_72 : decode cX12_notCopied 72 = .ok (.aload_n 0, 1) := by decide +kernel
theorem dX12_notCopied_73 : decode cX12_notCopied 73 = .ok (.getfield 28, 3) := by decide +kernel
theorem dX12_notCopied_76 : decode cX12_notCopied 76 = .ok (.iload_n 1, 1) := by decide +kernel
theorem dX12_notCopied_77 : decode cX12_notCopied 77 = .ok (.iaload, 1) := by decide +kernel
theorem dX12_notCopied_78 : decode cX12_notCopied 78 = .ok (.iload_n 2, 1) := by decide +kernel
theorem dX12_notCopied_79 : decode cX12_notCopied 79 = .ok (.isub, 1) := by decide +kernel
theorem dX12_notCopied_80 : decode cX12_notCopied 80 = .ok (.if_icmp .gt 21, 3) := by decide +kernel
theorem dX12_notCopied_83 : decode cX12_notCopied 83 = .ok (.iload 5, 2) := by decide +kernel
theorem dX12_notCopied_85 : decode cX12_notCopied 85 = .ok (.aload_n 0, 1) := by decide +kernel
theorem dX12_notCopied_86 : decode cX12_notCopied 86 = .ok (.getfield 28, 3) := by decide +kernel
theorem dX12_notCopied_89 : decode cX12_notCopied 89 = .ok (.iload_n 3, 1) := by decide +kernel
theorem dX12_notCopied_90 : decode cX12_notCopied 90 = .ok (.iaload, 1) := by decide +kernel
theorem dX12_notCopied_91 : decode cX12_notCopied 91 = .ok (.iload 4, 2) := by decide +kernel
theorem dX12_notCopied_93 : decode cX12_notCopied 93 = .ok (.isub, 1) := by decide +kernel
theorem dX12_notCopied_94 : decode cX12_notCopied 94 = .ok (.if_icmp .gt 7, 3) := by decide +kernel
theorem dX12_notCopied_97 : decode cX12_notCopied 97 = .ok (.iconst 1, 1) := by decide +kernel
theorem dX12_notCopied_98 : decode cX12_notCopied 98 = .ok (.goto 4, 3) := by decide +kernel
theorem dX12_notCopied_101 : decode cX12_notCopied 101 = .ok (.iconst 0, 1) := by decide +kernel
theorem dX12_notCopied_102 : decode cX12_notCopied 102 = .ok (.istore 6, 2) := by decide +kernel
theorem dX12_notCopied_104 : decode cX12_notCopied 104 = .ok (.iload 6, 2) := by decide +kernel
theorem dX12_notCopied_106 : decode cX12_notCopied 106 = .ok (.ifCond .eq 7, 3) := by decide +kernel
theorem dX12_notCopied_109 : decode cX12_notCopied 109 = .ok (.iconst 0, 1) := by decide +kernel
theorem dX12_notCopied_110 : decode cX12_notCopied 110 = .ok (.goto 5, 3) := by decide +kernel
theorem dX12_notCopied_113 : decode cX12_notCopied 113 = .ok (.ldc 35, 2) := by decide +kernel
theorem dX12_notCopied_115 : decode cX12_notCopied 115 = .ok (.ireturn, 1) := by decide +kernel
theorem dX12_copy_0 : decode cX12_copy 0 = .ok (.aload_n 0, 1) := by decide +kernel
theorem dX12_copy_1 : decode cX12_copy 1 = .ok (.iload_n 1, 1) := by decide +kernel
theorem dX12_copy_2 : decode cX12_copy 2 = .ok (.iload_n 2, 1) := by decide +kernel
theorem dX12_copy_3 : decode cX12_copy 3 = .ok (.iload_n 3, 1) := by decide +kernel
theorem dX12_copy_4 : decode cX12_copy 4 = .ok (.iload 4, 2) := by decide +kernel
theorem dX12_copy_6 : decode cX12_copy 6 = .ok (.iload 5, 2) := by decide +kernel
theorem dX12_copy_8 : decode cX12_copy 8 = .ok (.invokevirtual 223, 3) := by decide +kernel
theorem dX12_copy_11 : decode cX12_copy 11 = .ok (.istore 6, 2) := by decide +kernel
theorem dX12_copy_13 : decode cX12_copy 13 = .ok (.iload 6, 2) := by decide +kernel
theorem dX12_copy_15 : decode cX12_copy 15 = .ok (.ifCond .eq 10, 3) := by decide +kernel
theorem dX12_copy_18 : decode cX12_copy 18 = .ok (.aload_n 0, 1) := by decide +kernel
theorem dX12_copy_19 : decode cX12_copy 19 = .ok (.iload 6, 2) := by decide +kernel
theorem dX12_copy_21 : decode cX12_copy 21 = .ok (.invokevirtual 37, 3) := by decide +kernel
theorem dX12_copy_24 : decode cX12_copy 24 = .ok (.ireturn, 1) := by decide +kernel
theorem dX12_copy_25 : decode cX12_copy 25 = .ok (.iconst 0, 1) := by decide +kernel
theorem dX12_copy_26 : decode cX12_copy 26 = .ok (.istore 7, 2) := by decide +kernel
theorem dX12_copy_28 : decode cX12_copy 28 = .ok (.iload 7, 2) := by decide +kernel
theorem dX12_copy_30 : decode cX12_copy 30 = .ok (.iload 5, 2) := by decide +kernel
theorem dX12_copy_32 : decode cX12_copy 32 = .ok (.if_icmp .ge 58, 3) := by decide +kernel
theorem dX12_copy_35 : decode cX12_copy 35 = .ok (.iload_n 2, 1) := by decide +kernel
theorem dX12_copy_36 : decode cX12_copy 36 = .ok (.iload 4, 2) := by decide +kernel
theorem dX12_copy_38 : decode cX12_copy 38 = .ok (.if_icmp .ge 13, 3) := by decide +kernel
theorem dX12_copy_41 : decode cX12_copy 41 = .ok (.iload 5, 2) := by decide +kernel
theorem dX12_copy_43 : decode cX12_copy 43 = .ok (.iconst 1, 1) := by decide +kernel
theorem dX12_copy_44 : decode cX12_copy 44 = .ok (.isub, 1) := by decide +kernel
theorem dX12_copy_45 : decode cX12_copy 45 = .ok (.iload 7, 2) := by decide +kernel
theorem dX12_copy_47 : decode cX12_copy 47 = .ok (.isub, 1) := by decide +kernel
theorem dX12_copy_48 : decode cX12_copy 48 = .ok (.goto 5, 3) := by decide +kernel
theorem dX12_copy_51 : decode cX12_copy 51 = .ok (.iload 7, 2) := by decide +kernel
theorem dX12_copy_53 : decode cX12_copy 53 = .ok (.istore 8, 2) := by decide +kernel
theorem dX12_copy_55 : decode cX12_copy 55 = .ok (.aload_n 0, 1) := by decide +kernel
theorem dX12_copy_56 : decode cX12_copy 56 = .ok (.getfield 31, 3) := by decide +kernel
theorem dX12_copy_59 : decode cX12_copy 59 = .ok (.bipush 40, 2) := by decide +kernel
theorem dX12_copy_61 : decode cX12_copy 61 = .ok (.iload_n 3, 1) := by decide +kernel
theorem dX12_copy_62 : decode cX12_copy 62 = .ok (.imul, 1) := by decide +kernel
theorem dX12_copy_63 : decode cX12_copy 63 = .ok (.iload 4, 2) := by decide +kernel
theorem dX12_copy_65 : decode cX12_copy 65 = .ok (.iadd, 1) := by decide +kernel
theorem dX12_copy_66 : decode cX12_copy 66 = .ok (.iload 8, 2) := by decide +kernel
theorem dX12_copy_68 : decode cX12_copy 68 = .ok (.iadd, 1) := by decide +kernel
theorem dX12_copy_69 : decode cX12_copy 69 = .ok (.aload_n 0, 1) := by decide +kernel
theorem dX12_copy_70 : decode cX12_copy 70 = .ok (.getfield 31, 3) := by decide +kernel
theorem dX12_copy_73 : decode cX12_copy 73 = .ok (.bipush 40, 2) := by decide +kernel
theorem dX12_copy_75 : decode cX12_copy 75 = .ok (.iload_n 1, 1) := by decide +kernel
theorem dX12_copy_76 : decode cX12_copy 76 = .ok (.imul, 1) := by decide +kernel
theorem dX12_copy_77 : decode cX12_copy 77 = .ok (.iload_n 2, 1) := by decide +kernel
theorem dX12_copy_78 : decode cX12_copy 78 = .ok (.iadd, 1) := by decide +kernel
theorem dX12_copy_79 : decode cX12_copy 79 = .ok (.iload 8, 2) := by decide +kernel
theorem dX12_copy_81 : decode cX12_copy 81 = .ok (.iadd, 1) := by decide +kernel
theorem dX12_copy_82 : decode cX12_copy 82 = .ok (.laload, 1) := by decide +kernel
theorem dX12_copy_83 : decode cX12_copy 83 = .ok (.lastore, 1) := by decide +kernel
theorem dX12_copy_84 : decode cX12_copy 84 = .ok (.iinc 7 1, 3) := by decide +kernel
theorem dX12_copy_87 : decode cX12_copy 87 = .ok (.goto (-59), 3) := by decide +kernel
theorem dX12_copy_90 : decode cX12_copy 90 = .ok (.iload 5, 2) := by decide +kernel
theorem dX12_copy_92 : decode cX12_copy 92 = .ok (.ireturn, 1) := by decide +kernel
theorem dX12_lays_0 : decode cX12_lays 0 = .ok (.aload_n 0, 1) := by decide +kernel
theorem dX12_lays_1 : decode cX12_lays 1 = .ok (.iload_n 1, 1) := by decide +kernel
theorem dX12_lays_2 : decode cX12_lays 2 = .ok (.invokevirtual 216, 3) := by decide +kernel
theorem dX12_lays_5 : decode cX12_lays 5 = .ok (.istore_n 3, 1) := by decide +kernel
theorem dX12_lays_6 : decode cX12_lays 6 = .ok (.iload_n 3, 1) := by decide +kernel
theorem dX12_lays_7 : decode cX12_lays 7 = .ok (.ifCond .ne 16, 3) := by decide +kernel
theorem dX12_lays_10 : decode cX12_lays 10 = .ok (.aload_n 0, 1) := by decide +kernel
theorem dX12_lays_11 : decode cX12_lays 11 = .ok (.iload_n 2, 1) := by decide +kernel
theorem dX12_lays_12 : decode cX12_lays 12 = .ok (.invokevirtual 100, 3) := by decide +kernel
theorem dX12_lays_15 : decode cX12_lays 15 = .ok (.ifCond .ne 8, 3) := by decide +kernel
theorem dX12_lays_18 : decode cX12_lays 18 = .ok (.ldc 35, 2) := by decide +kernel
theorem dX12_lays_20 : decode cX12_lays 20 = .ok (.goto 4, 3) := by decide +kernel
theorem dX12_lays_23 : decode cX12_lays 23 = .ok (.iload_n 3, 1) := by decide +kernel
theorem dX12_lays_24 : decode cX12_lays 24 = .ok (.istore_n 3, 1) := by decide +kernel
theorem dX12_lays_25 : decode cX12_lays 25 = .ok (.iload_n 3, 1) := by decide +kernel
theorem dX12_lays_26 : decode cX12_lays 26 = .ok (.ifCond .eq 9, 3) := by decide +kernel
theorem dX12_lays_29 : decode cX12_lays 29 = .ok (.aload_n 0, 1) := by decide +kernel
theorem dX12_lays_30 : decode cX12_lays 30 = .ok (.iload_n 3, 1) := by decide +kernel
theorem dX12_lays_31 : decode cX12_lays 31 = .ok (.invokevirtual 37, 3) := by decide +kernel
theorem dX12_lays_34 : decode cX12_lays 34 = .ok (.ireturn, 1) := by decide +kernel
theorem dX12_lays_35 : decode cX12_lays 35 = .ok (.iconst 0, 1) := by decide +kernel
theorem dX12_lays_36 : decode cX12_lays 36 = .ok (.istore 4, 2) := by decide +kernel
theorem dX12_lays_38 : decode cX12_lays 38 = .ok (.iconst 0, 1) := by decide +kernel
theorem dX12_lays_39 : decode cX12_lays 39 = .ok (.istore 5, 2) := by decide +kernel
theorem dX12_lays_41 : decode cX12_lays 41 = .ok (.iload 5, 2) := by decide +kernel
theorem dX12_lays_43 : decode cX12_lays 43 = .ok (.aload_n 0, 1) := by decide +kernel
theorem dX12_lays_44 : decode cX12_lays 44 = .ok (.getfield 28, 3) := by decide +kernel
theorem dX12_lays_47 : decode cX12_lays 47 = .ok (.iload_n 1, 1) := by decide +kernel
theorem dX12_lays_48 : decode cX12_lays 48 = .ok (.iaload, 1) := by decide +kernel
theorem dX12_lays_49 : decode cX12_lays 49 = .ok (.if_icmp .ge 69, 3) := by decide +kernel
theorem dX12_lays_52 : decode cX12_lays 52 = .ok (.iload 5, 2) := by decide +kernel
theorem dX12_lays_54 : decode cX12_lays 54 = .ok (.bipush 10, 2) := by decide +kernel
theorem dX12_lays_56 : decode cX12_lays 56 = .ok (.if_icmp .ge 62, 3) := by decide +kernel
theorem dX12_lays_59 : decode cX12_lays 59 = .ok (.aload_n 0, 1) := by decide +kernel
theorem dX12_lays_60 : decode cX12_lays 60 = .ok (.getfield 31, 3) := by decide +kernel
theorem dX12_lays_63 : decode cX12_lays 63 = .ok (.bipush 40, 2) := by decide +kernel
theorem dX12_lays_65 : decode cX12_lays 65 = .ok (.iload_n 1, 1) := by decide +kernel
theorem dX12_lays_66 : decode cX12_lays 66 = .ok (.imul, 1) := by decide +kernel
theorem dX12_lays_67 : decode cX12_lays 67 = .ok (.iload 5, 2) := by decide +kernel
theorem dX12_lays_69 : decode cX12_lays 69 = .ok (.iadd, 1) := by decide +kernel
theorem dX12_lays_70 : decode cX12_lays 70 = .ok (.laload, 1) := by decide +kernel
theorem dX12_lays_71 : decode cX12_lays 71 = .ok (.iconst 0, 1) := by decide +kernel
theorem dX12_lays_72 : decode cX12_lays 72 = .ok (.iconst 5, 1) := by decide +kernel
theorem dX12_lays_73 : decode cX12_lays 73 = .ok (.invokestatic 41, 3) := by decide +kernel
theorem dX12_lays_76 : decode cX12_lays 76 = .ok (.ifCond .eq 36, 3) := by decide +kernel
theorem dX12_lays_79 : decode cX12_lays 79 = .ok (.aload_n 0, 1) := by decide +kernel
theorem dX12_lays_80 : decode cX12_lays 80 = .ok (.getfield 9, 3) := by decide +kernel
theorem dX12_lays_83 : decode cX12_lays 83 = .ok (.bipush 34, 2) := by decide +kernel
theorem dX12_lays_85 : decode cX12_lays 85 = .ok (.bipush 12, 2) := by decide +kernel
theorem dX12_lays_87 : decode cX12_lays 87 = .ok (.iload_n 2, 1) := by decide +kernel
theorem dX12_lays_88 : decode cX12_lays 88 = .ok (.imul, 1) := by decide +kernel
theorem dX12_lays_89 : decode cX12_lays 89 = .ok (.iadd, 1) := by decide +kernel
theorem dX12_lays_90 : decode cX12_lays 90 = .ok (.iconst 2, 1) := by decide +kernel
theorem dX12_lays_91 : decode cX12_lays 91 = .ok (.iadd, 1) := by decide +kernel
theorem dX12_lays_92 : decode cX12_lays 92 = .ok (.iload 5, 2) := by decide +kernel
theorem dX12_lays_94 : decode cX12_lays 94 = .ok (.iadd, 1) := by decide +kernel
theorem dX12_lays_95 : decode cX12_lays 95 = .ok (.aload_n 0, 1) := by decide +kernel
theorem dX12_lays_96 : decode cX12_lays 96 = .ok (.getfield 31, 3) := by decide +kernel
theorem dX12_lays_99 : decode cX12_lays 99 = .ok (.bipush 40, 2) := by decide +kernel
theorem dX12_lays_101 : decode cX12_lays 101 = .ok (.iload_n 1, 1) := by decide +kernel
theorem dX12_lays_102 : decode cX12_lays 102 = .ok (.imul, 1) := by decide +kernel
theorem dX12_lays_103 : decode cX12_lays 103 = .ok (.iload 5, 2) := by decide +kernel
theorem dX12_lays_105 : decode cX12_lays 105 = .ok (.iadd, 1) := by decide +kernel
theorem dX12_lays_106 : decode cX12_lays 106 = .ok (.laload, 1) := by decide +kernel
theorem dX12_lays_107 : decode cX12_lays 107 = .ok (.l2i, 1) := by decide +kernel
theorem dX12_lays_108 : decode cX12_lays 108 = .ok (.iastore, 1) := by decide +kernel
theorem dX12_lays_109 : decode cX12_lays 109 = .ok (.iinc 4 1, 3) := by decide +kernel
theorem dX12_lays_112 : decode cX12_lays 112 = .ok (.iinc 5 1, 3) := by decide +kernel
theorem dX12_lays_115 : decode cX12_lays 115 = .ok (.goto (-74), 3) := by decide +kernel
theorem dX12_lays_118 : decode cX12_lays 118 = .ok (.iload 4, 2) := by decide +kernel
theorem dX12_lays_120 : decode cX12_lays 120 = .ok (.ireturn, 1) := by decide +kernel
theorem dX12_book_0 : decode cX12_book 0 = .ok (.aload_n 0, 1) := by decide +kernel
theorem dX12_book_1 : decode cX12_book 1 = .ok (.iload_n 1, 1) := by decide +kernel
theorem dX12_book_2 : decode cX12_book 2 = .ok (.invokevirtual 216, 3) := by decide +kernel
theorem dX12_book_5 : decode cX12_book 5 = .ok (.istore_n 3, 1) := by decide +kernel
theorem dX12_book_6 : decode cX12_book 6 = .ok (.iload_n 3, 1) := by decide +kernel
theorem dX12_book_7 : decode cX12_book 7 = .ok (.ifCond .ne 16, 3) := by decide +kernel
theorem dX12_book_10 : decode cX12_book 10 = .ok (.aload_n 0, 1) := by decide +kernel
theorem dX12_book_11 : decode cX12_book 11 = .ok (.iload_n 2, 1) := by decide +kernel
theorem dX12_book_12 : decode cX12_book 12 = .ok (.invokevirtual 74, 3) := by decide +kernel
theorem dX12_book_15 : decode cX12_book 15 = .ok (.ifCond .ne 8, 3) := by decide +kernel
theorem dX12_book_18 : decode cX12_book 18 = .ok (.ldc 35, 2) := by decide +kernel
theorem dX12_book_20 : decode cX12_book 20 = .ok (.goto 4, 3) := by decide +kernel
theorem dX12_book_23 : decode cX12_book 23 = .ok (.iload_n 3, 1) := by decide +kernel
theorem dX12_book_24 : decode cX12_book 24 = .ok (.istore_n 3, 1) := by decide +kernel
theorem dX12_book_25 : decode cX12_book 25 = .ok (.iload_n 3, 1) := by decide +kernel
theorem dX12_book_26 : decode cX12_book 26 = .ok (.ifCond .eq 9, 3) := by decide +kernel
theorem dX12_book_29 : decode cX12_book 29 = .ok (.aload_n 0, 1) := by decide +kernel
theorem dX12_book_30 : decode cX12_book 30 = .ok (.iload_n 3, 1) := by decide +kernel
theorem dX12_book_31 : decode cX12_book 31 = .ok (.invokevirtual 37, 3) := by decide +kernel
theorem dX12_book_34 : decode cX12_book 34 = .ok (.ireturn, 1) := by decide +kernel
theorem dX12_book_35 : decode cX12_book 35 = .ok (.aload_n 0, 1) := by decide +kernel
theorem dX12_book_36 : decode cX12_book 36 = .ok (.invokevirtual 146, 3) := by decide +kernel
theorem dX12_book_39 : decode cX12_book 39 = .ok (.iconst 0, 1) := by decide +kernel
theorem dX12_book_40 : decode cX12_book 40 = .ok (.istore 4, 2) := by decide +kernel
theorem dX12_book_42 : decode cX12_book 42 = .ok (.iload 4, 2) := by decide +kernel
theorem dX12_book_44 : decode cX12_book 44 = .ok (.aload_n 0, 1) := by decide +kernel
theorem dX12_book_45 : decode cX12_book 45 = .ok (.getfield 28, 3) := by decide +kernel
theorem dX12_book_48 : decode cX12_book 48 = .ok (.iload_n 1, 1) := by decide +kernel
theorem dX12_book_49 : decode cX12_book 49 = .ok (.iaload, 1) := by decide +kernel
theorem dX12_book_50 : decode cX12_book 50 = .ok (.if_icmp .ge 41, 3) := by decide +kernel
theorem dX12_book_53 : decode cX12_book 53 = .ok (.aload_n 0, 1) := by decide +kernel
theorem dX12_book_54 : decode cX12_book 54 = .ok (.getfield 31, 3) := by decide +kernel
theorem dX12_book_57 : decode cX12_book 57 = .ok (.bipush 40, 2) := by decide +kernel
theorem dX12_book_59 : decode cX12_book 59 = .ok (.iload_n 1, 1) := by decide +kernel
theorem dX12_book_60 : decode cX12_book 60 = .ok (.imul, 1) := by decide +kernel
theorem dX12_book_61 : decode cX12_book 61 = .ok (.iload 4, 2) := by decide +kernel
theorem dX12_book_63 : decode cX12_book 63 = .ok (.iadd, 1) := by decide +kernel
theorem dX12_book_64 : decode cX12_book 64 = .ok (.aload_n 0, 1) := by decide +kernel
theorem dX12_book_65 : decode cX12_book 65 = .ok (.getfield 25, 3) := by decide +kernel
theorem dX12_book_68 : decode cX12_book 68 = .ok (.iload_n 1, 1) := by decide +kernel
theorem dX12_book_69 : decode cX12_book 69 = .ok (.iaload, 1) := by decide +kernel
theorem dX12_book_70 : decode cX12_book 70 = .ok (.aload_n 0, 1) := by decide +kernel
theorem dX12_book_71 : decode cX12_book 71 = .ok (.iload_n 2, 1) := by decide +kernel
theorem dX12_book_72 : decode cX12_book 72 = .ok (.iconst 0, 1) := by decide +kernel
theorem dX12_book_73 : decode cX12_book 73 = .ok (.invokevirtual 49, 3) := by decide +kernel
theorem dX12_book_76 : decode cX12_book 76 = .ok (.i2l, 1) := by decide +kernel
theorem dX12_book_77 : decode cX12_book 77 = .ok (.invokestatic 219, 3) := by decide +kernel
theorem dX12_book_80 : decode cX12_book 80 = .ok (.lastore, 1) := by decide +kernel
theorem dX12_book_81 : decode cX12_book 81 = .ok (.aload_n 0, 1) := by decide +kernel
theorem dX12_book_82 : decode cX12_book 82 = .ok (.invokevirtual 134, 3) := by decide +kernel
theorem dX12_book_85 : decode cX12_book 85 = .ok (.iinc 4 1, 3) := by decide +kernel
theorem dX12_book_88 : decode cX12_book 88 = .ok (.goto (-46), 3) := by decide +kernel
theorem dX12_book_91 : decode cX12_book 91 = .ok (.aload_n 0, 1) := by decide +kernel
theorem dX12_book_92 : decode cX12_book 92 = .ok (.invokevirtual 149, 3) := by decide +kernel
theorem dX12_book_95 : decode cX12_book 95 = .ok (.aload_n 0, 1) := by decide +kernel
theorem dX12_book_96 : decode cX12_book 96 = .ok (.getfield 28, 3) := by decide +kernel
theorem dX12_book_99 : decode cX12_book 99 = .ok (.iload_n 1, 1) := by decide +kernel
theorem dX12_book_100 : decode cX12_book 100 = .ok (.iaload, 1) := by decide +kernel
theorem dX12_book_101 : decode cX12_book 101 = .ok (.ireturn, 1) := by decide +kernel
theorem dX12_isBook_0 : decode cX12_isBook 0 = .ok (.iconst 1, 1) := by decide +kernel
theorem dX12_isBook_1 : decode cX12_isBook 1 = .ok (.istore_n 3, 1) := by decide +kernel
theorem dX12_isBook_2 : decode cX12_isBook 2 = .ok (.iconst 0, 1) := by decide +kernel
theorem dX12_isBook_3 : decode cX12_isBook 3 = .ok (.istore 4, 2) := by decide +kernel
theorem dX12_isBook_5 : decode cX12_isBook 5 = .ok (.iload 4, 2) := by decide +kernel
theorem dX12_isBook_7 : decode cX12_isBook 7 = .ok (.aload_n 0, 1) := by decide +kernel
theorem dX12_isBook_8 : decode cX12_isBook 8 = .ok (.getfield 28, 3) := by decide +kernel
theorem dX12_isBook_11 : decode cX12_isBook 11 = .ok (.iload_n 1, 1) := by decide +kernel
theorem dX12_isBook_12 : decode cX12_isBook 12 = .ok (.iaload, 1) := by decide +kernel
theorem dX12_isBook_13 : decode cX12_isBook 13 = .ok (.if_icmp .ge 46, 3) := by decide +kernel
theorem dX12_isBook_16 : decode cX12_isBook 16 = .ok (.iload_n 3, 1) := by decide +kernel
theorem dX12_isBook_17 : decode cX12_isBook 17 = .ok (.ifCond .eq 42, 3) := by decide +kernel
theorem dX12_isBook_20 : decode cX12_isBook 20 = .ok (.aload_n 0, 1) := by decide +kernel
theorem dX12_isBook_21 : decode cX12_isBook 21 = .ok (.getfield 31, 3) := by decide +kernel
theorem dX12_isBook_24 : decode cX12_isBook 24 = .ok (.bipush 40, 2) := by decide +kernel
theorem dX12_isBook_26 : decode cX12_isBook 26 = .ok (.iload_n 1, 1) := by decide +kernel
theorem dX12_isBook_27 : decode cX12_isBook 27 = .ok (.imul, 1) := by decide +kernel
theorem dX12_isBook_28 : decode cX12_isBook 28 = .ok (.iload 4, 2) := by decide +kernel
theorem dX12_isBook_30 : decode cX12_isBook 30 = .ok (.iadd, 1) := by decide +kernel
theorem dX12_isBook_31 : decode cX12_isBook 31 = .ok (.laload, 1) := by decide +kernel
theorem dX12_isBook_32 : decode cX12_isBook 32 = .ok (.aload_n 0, 1) := by decide +kernel
theorem dX12_isBook_33 : decode cX12_isBook 33 = .ok (.iload_n 2, 1) := by decide +kernel
theorem dX12_isBook_34 : decode cX12_isBook 34 = .ok (.iconst 0, 1) := by decide +kernel
theorem dX12_isBook_35 : decode cX12_isBook 35 = .ok (.invokevirtual 49, 3) := by decide +kernel
theorem dX12_isBook_38 : decode cX12_isBook 38 = .ok (.i2l, 1) := by decide +kernel
theorem dX12_isBook_39 : decode cX12_isBook 39 = .ok (.lcmp, 1) := by decide +kernel
theorem dX12_isBook_40 : decode cX12_isBook 40 = .ok (.ifCond .ne 7, 3) := by decide +kernel
theorem dX12_isBook_43 : decode cX12_isBook 43 = .ok (.iconst 1, 1) := by decide +kernel
theorem dX12_isBook_44 : decode cX12_isBook 44 = .ok (.goto 4, 3) := by decide +kernel
theorem dX12_isBook_47 : decode cX12_isBook 47 = .ok (.iconst 0, 1) := by decide +kernel
theorem dX12_isBook_48 : decode cX12_isBook 48 = .ok (.istore_n 3, 1) := by decide +kernel
theorem dX12_isBook_49 : decode cX12_isBook 49 = .ok (.aload_n 0, 1) := by decide +kernel
theorem dX12_isBook_50 : decode cX12_isBook 50 = .ok (.invokevirtual 134, 3) := by decide +kernel
theorem dX12_isBook_53 : decode cX12_isBook 53 = .ok (.iinc 4 1, 3) := by decide +kernel
theorem dX12_isBook_56 : decode cX12_isBook 56 = .ok (.goto (-51), 3) := by decide +kernel
theorem dX12_isBook_59 : decode cX12_isBook 59 = .ok (.aload_n 0, 1) := by decide +kernel
theorem dX12_isBook_60 : decode cX12_isBook 60 = .ok (.invokevirtual 149, 3) := by decide +kernel
theorem dX12_isBook_63 : decode cX12_isBook 63 = .ok (.iload_n 3, 1) := by decide +kernel
theorem dX12_isBook_64 : decode cX12_isBook 64 = .ok (.ireturn, 1) := by decide +kernel
theorem dX12_read_0 : decode cX12_read 0 = .ok (.aload_n 0, 1) := by decide +kernel
theorem dX12_read_1 : decode cX12_read 1 = .ok (.iload_n 1, 1) := by decide +kernel
theorem dX12_read_2 : decode cX12_read 2 = .ok (.invokevirtual 216, 3) := by decide +kernel
theorem dX12_read_5 : decode cX12_read 5 = .ok (.istore 4, 2) := by decide +kernel
theorem dX12_read_7 : decode cX12_read 7 = .ok (.iload 4, 2) := by decide +kernel
theorem dX12_read_9 : decode cX12_read 9 = .ok (.ifCond .ne 24, 3) := by decide +kernel
theorem dX12_read_12 : decode cX12_read 12 = .ok (.aload_n 0, 1) := by decide +kernel
theorem dX12_read_13 : decode cX12_read 13 = .ok (.iload_n 2, 1) := by decide +kernel
theorem dX12_read_14 : decode cX12_read 14 = .ok (.invokevirtual 74, 3) := by decide +kernel
theorem dX12_read_17 : decode cX12_read 17 = .ok (.ifCond .eq 11, 3) := by decide +kernel
theorem dX12_read_20 : decode cX12_read 20 = .ok (.aload_n 0, 1) := by decide +kernel
theorem dX12_read_21 : decode cX12_read 21 = .ok (.iload_n 3, 1) := by decide +kernel
theorem dX12_read_22 : decode cX12_read 22 = .ok (.invokevirtual 100, 3) := by decide +kernel
theorem dX12_read_25 : decode cX12_read 25 = .ok (.ifCond .ne 8, 3) := by decide +kernel
theorem dX12_read_28 : decode cX12_read 28 = .ok (.ldc 35, 2) := by decide +kernel
theorem dX12_read_30 : decode cX12_read 30 = .ok (.goto 5, 3) := by decide +kernel
theorem dX12_read_33 : decode cX12_read 33 = .ok (.iload 4, 2) := by decide +kernel
theorem dX12_read_35 : decode cX12_read 35 = .ok (.istore 4, 2) := by decide +kernel
theorem dX12_read_37 : decode cX12_read 37 = .ok (.iload 4, 2) := by decide +kernel
theorem dX12_read_39 : decode cX12_read 39 = .ok (.ifCond .eq 10, 3) := by decide +kernel
theorem dX12_read_42 : decode cX12_read 42 = .ok (.aload_n 0, 1) := by decide +kernel
theorem dX12_read_43 : decode cX12_read 43 = .ok (.iload 4, 2) := by decide +kernel
theorem dX12_read_45 : decode cX12_read 45 = .ok (.invokevirtual 37, 3) := by decide +kernel
theorem dX12_read_48 : decode cX12_read 48 = .ok (.ireturn, 1) := by decide +kernel
theorem dX12_read_49 : decode cX12_read 49 = .ok (.aload_n 0, 1) := by decide +kernel
theorem dX12_read_50 : decode cX12_read 50 = .ok (.invokevirtual 146, 3) := by decide +kernel
theorem dX12_read_53 : decode cX12_read 53 = .ok (.iconst 0, 1) := by decide +kernel
theorem dX12_read_54 : decode cX12_read 54 = .ok (.istore 5, 2) := by decide +kernel
theorem dX12_read_56 : decode cX12_read 56 = .ok (.iconst 0, 1) := by decide +kernel
theorem dX12_read_57 : decode cX12_read 57 = .ok (.istore 6, 2) := by decide +kernel
theorem dX12_read_59 : decode cX12_read 59 = .ok (.iload 6, 2) := by decide +kernel
theorem dX12_read_61 : decode cX12_read 61 = .ok (.bipush 36, 2) := by decide +kernel
theorem dX12_read_63 : decode cX12_read 63 = .ok (.if_icmp .ge 66, 3) := by decide +kernel
theorem dX12_read_66 : decode cX12_read 66 = .ok (.aload_n 0, 1) := by decide +kernel
theorem dX12_read_67 : decode cX12_read 67 = .ok (.getfield 9, 3) := by decide +kernel
theorem dX12_read_70 : decode cX12_read 70 = .ok (.bipush 34, 2) := by decide +kernel
theorem dX12_read_72 : decode cX12_read 72 = .ok (.bipush 12, 2) := by decide +kernel
theorem dX12_read_74 : decode cX12_read 74 = .ok (.iload_n 3, 1) := by decide +kernel
theorem dX12_read_75 : decode cX12_read 75 = .ok (.imul, 1) := by decide +kernel
theorem dX12_read_76 : decode cX12_read 76 = .ok (.iadd, 1) := by decide +kernel
theorem dX12_read_77 : decode cX12_read 77 = .ok (.iload 6, 2) := by decide +kernel
theorem dX12_read_79 : decode cX12_read 79 = .ok (.bipush 6, 2) := by decide +kernel
theorem dX12_read_81 : decode cX12_read 81 = .ok (.idiv, 1) := by decide +kernel
theorem dX12_read_82 : decode cX12_read 82 = .ok (.iastore, 1) := by decide +kernel
theorem dX12_read_83 : decode cX12_read 83 = .ok (.aload_n 0, 1) := by decide +kernel
theorem dX12_read_84 : decode cX12_read 84 = .ok (.getfield 9, 3) := by decide +kernel
theorem dX12_read_87 : decode cX12_read 87 = .ok (.bipush 34, 2) := by decide +kernel
theorem dX12_read_89 : decode cX12_read 89 = .ok (.bipush 12, 2) := by decide +kernel
theorem dX12_read_91 : decode cX12_read 91 = .ok (.iload_n 3, 1) := by decide +kernel
theorem dX12_read_92 : decode cX12_read 92 = .ok (.imul, 1) := by decide +kernel
theorem dX12_read_93 : decode cX12_read 93 = .ok (.iadd, 1) := by decide +kernel
theorem dX12_read_94 : decode cX12_read 94 = .ok (.iconst 2, 1) := by decide +kernel
theorem dX12_read_95 : decode cX12_read 95 = .ok (.iadd, 1) := by decide +kernel
theorem dX12_read_96 : decode cX12_read 96 = .ok (.iload_n 2, 1) := by decide +kernel
theorem dX12_read_97 : decode cX12_read 97 = .ok (.iadd, 1) := by decide +kernel
theorem dX12_read_98 : decode cX12_read 98 = .ok (.iload 6, 2) := by decide +kernel
theorem dX12_read_100 : decode cX12_read 100 = .ok (.bipush 6, 2) := by decide +kernel
theorem dX12_read_102 : decode cX12_read 102 = .ok (.irem, 1) := by decide +kernel
theorem dX12_read_103 : decode cX12_read 103 = .ok (.iastore, 1) := by decide +kernel
theorem dX12_read_104 : decode cX12_read 104 = .ok (.iload 5, 2) := by decide +kernel
theorem dX12_read_106 : decode cX12_read 106 = .ok (.aload_n 0, 1) := by decide +kernel
theorem dX12_read_107 : decode cX12_read 107 = .ok (.iload_n 1, 1) := by decide +kernel
theorem dX12_read_108 : decode cX12_read 108 = .ok (.iload_n 2, 1) := by decide +kernel
theorem dX12_read_109 : decode cX12_read 109 = .ok (.invokevirtual 227, 3) := by decide +kernel
theorem dX12_read_112 : decode cX12_read 112 = .ok (.ifCond .eq 7, 3) := by decide +kernel
theorem dX12_read_115 : decode cX12_read 115 = .ok (.iconst 1, 1) := by decide +kernel
theorem dX12_read_116 : decode cX12_read 116 = .ok (.goto 4, 3) := by decide +kernel
theorem dX12_read_119 : decode cX12_read 119 = .ok (.iconst 0, 1) := by decide +kernel
theorem dX12_read_120 : decode cX12_read 120 = .ok (.iadd, 1) := by decide +kernel
theorem dX12_read_121 : decode cX12_read 121 = .ok (.istore 5, 2) := by decide +kernel
theorem dX12_read_123 : decode cX12_read 123 = .ok (.iinc 6 1, 3) := by decide +kernel
theorem dX12_read_126 : decode cX12_read 126 = .ok (.goto (-67), 3) := by decide +kernel
theorem dX12_read_129 : decode cX12_read 129 = .ok (.iload 5, 2) := by decide +kernel
theorem dX12_read_131 : decode cX12_read 131 = .ok (.ireturn, 1) := by decide +kernel
theorem dX12_image_0 : decode cX12_image 0 = .ok (.aload_n 0, 1) := by decide +kernel
theorem dX12_image_1 : decode cX12_image 1 = .ok (.getfield 9, 3) := by decide +kernel
theorem dX12_image_4 : decode cX12_image 4 = .ok (.aload_n 0, 1) := by decide +kernel
theorem dX12_image_5 : decode cX12_image 5 = .ok (.getfield 13, 3) := by decide +kernel
theorem dX12_image_8 : decode cX12_image 8 = .ok (.invokestatic 142, 3) := by decide +kernel
theorem dX12_image_11 : decode cX12_image 11 = .ok (.aload_n 0, 1) := by decide +kernel
theorem dX12_image_12 : decode cX12_image 12 = .ok (.iconst 1, 1) := by decide +kernel
theorem dX12_image_13 : decode cX12_image 13 = .ok (.putfield 230, 3) := by decide +kernel
theorem dX12_image_16 : decode cX12_image 16 = .ok (.iconst 1, 1) := by decide +kernel
theorem dX12_image_17 : decode cX12_image 17 = .ok (.ireturn, 1) := by decide +kernel
theorem dX12_undo_0 : decode cX12_undo 0 = .ok (.aload_n 0, 1) := by decide +kernel
theorem dX12_undo_1 : decode cX12_undo 1 = .ok (.getfield 230, 3) := by decide +kernel
theorem dX12_undo_4 : decode cX12_undo 4 = .ok (.ifCond .ne 10, 3) := by decide +kernel
theorem dX12_undo_7 : decode cX12_undo 7 = .ok (.aload_n 0, 1) := by decide +kernel
theorem dX12_undo_8 : decode cX12_undo 8 = .ok (.ldc 36, 2) := by decide +kernel
theorem dX12_undo_10 : decode cX12_undo 10 = .ok (.invokevirtual 37, 3) := by decide +kernel
theorem dX12_undo_13 : decode cX12_undo 13 = .ok (.ireturn, 1) := by decide +kernel
theorem dX12_undo_14 : decode cX12_undo 14 = .ok (.aload_n 0, 1) := by decide +kernel
theorem dX12_undo_15 : decode cX12_undo 15 = .ok (.getfield 13, 3) := by decide +kernel
theorem dX12_undo_18 : decode cX12_undo 18 = .ok (.aload_n 0, 1) := by decide +kernel
theorem dX12_undo_19 : decode cX12_undo 19 = .ok (.getfield 9, 3) := by decide +kernel
theorem dX12_undo_22 : decode cX12_undo 22 = .ok (.invokestatic 142, 3) := by decide +kernel
theorem dX12_undo_25 : decode cX12_undo 25 = .ok (.aload_n 0, 1) := by decide +kernel
theorem dX12_undo_26 : decode cX12_undo 26 = .ok (.getfield 9, 3) := by decide +kernel
theorem dX12_undo_29 : decode cX12_undo 29 = .ok (.iconst 2, 1) := by decide +kernel
theorem dX12_undo_30 : decode cX12_undo 30 = .ok (.iaload, 1) := by decide +kernel
theorem dX12_undo_31 : decode cX12_undo 31 = .ok (.ireturn, 1) := by decide +kernel
theorem dX12_tear_0 : decode cX12_tear 0 = .ok (.aload_n 0, 1) := by decide +kernel
theorem dX12_tear_1 : decode cX12_tear 1 = .ok (.getfield 230, 3) := by decide +kernel
theorem dX12_tear_4 : decode cX12_tear 4 = .ok (.ifCond .eq 7, 3) := by decide +kernel
theorem dX12_tear_7 : decode cX12_tear 7 = .ok (.iconst 1, 1) := by decide +kernel
theorem dX12_tear_8 : decode cX12_tear 8 = .ok (.goto 4, 3) := by decide +kernel
theorem dX12_tear_11 : decode cX12_tear 11 = .ok (.iconst 0, 1) := by decide +kernel
theorem dX12_tear_12 : decode cX12_tear 12 = .ok (.istore_n 1, 1) := by decide +kernel
theorem dX12_tear_13 : decode cX12_tear 13 = .ok (.aload_n 0, 1) := by decide +kernel
theorem dX12_tear_14 : decode cX12_tear 14 = .ok (.iconst 0, 1) := by decide +kernel
theorem dX12_tear_15 : decode cX12_tear 15 = .ok (.putfield 230, 3) := by decide +kernel
theorem dX12_tear_18 : decode cX12_tear 18 = .ok (.iload_n 1, 1) := by decide +kernel
theorem dX12_tear_19 : decode cX12_tear 19 = .ok (.ireturn, 1) := by decide +kernel
theorem dX12_count_0 : decode cX12_count 0 = .ok (.iload_n 1, 1) := by decide +kernel
theorem dX12_count_1 : decode cX12_count 1 = .ok (.tableswitch 54 0 3 #[31, 31, 40, 45], 31) := by decide +kernel
theorem dX12_count_32 : decode cX12_count 32 = .ok (.aload_n 0, 1) := by decide +kernel
theorem dX12_count_33 : decode cX12_count 33 = .ok (.getfield 9, 3) := by decide +kernel
theorem dX12_count_36 : decode cX12_count 36 = .ok (.iconst 2, 1) := by decide +kernel
theorem dX12_count_37 : decode cX12_count 37 = .ok (.iload_n 1, 1) := by decide +kernel
theorem dX12_count_38 : decode cX12_count 38 = .ok (.iadd, 1) := by decide +kernel
theorem dX12_count_39 : decode cX12_count 39 = .ok (.iaload, 1) := by decide +kernel
theorem dX12_count_40 : decode cX12_count 40 = .ok (.ireturn, 1) := by decide +kernel
theorem dX12_count_41 : decode cX12_count 41 = .ok (.aload_n 0, 1) := by decide +kernel
theorem dX12_count_42 : decode cX12_count 42 = .ok (.getfield 162, 3) := by decide +kernel
theorem dX12_count_45 : decode cX12_count 45 = .ok (.ireturn, 1) := by decide +kernel
theorem dX12_count_46 : decode cX12_count 46 = .ok (.aload_n 0, 1) := by decide +kernel
theorem dX12_count_47 : decode cX12_count 47 = .ok (.iconst (-1), 1) := by decide +kernel
theorem dX12_count_48 : decode cX12_count 48 = .ok (.invokevirtual 84, 3) := by decide +kernel
theorem dX12_count_51 : decode cX12_count 51 = .ok (.invokestatic 112, 3) := by decide +kernel
theorem dX12_count_54 : decode cX12_count 54 = .ok (.ireturn, 1) := by decide +kernel
theorem dX12_count_55 : decode cX12_count 55 = .ok (.aload_n 0, 1) := by decide +kernel
theorem dX12_count_56 : decode cX12_count 56 = .ok (.ldc 35, 2) := by decide +kernel
theorem dX12_count_58 : decode cX12_count 58 = .ok (.invokevirtual 37, 3) := by decide +kernel
theorem dX12_count_61 : decode cX12_count 61 = .ok (.ireturn, 1) := by decide +kernel
theorem dX12_status_0 : decode cX12_status 0 = .ok (.iload_n 1, 1) := by decide +kernel
theorem dX12_status_1 : decode cX12_status 1 = .ok (.i2l, 1) := by decide +kernel
theorem dX12_status_2 : decode cX12_status 2 = .ok (.iconst (-1), 1) := by decide +kernel
theorem dX12_status_3 : decode cX12_status 3 = .ok (.bipush 6, 2) := by decide +kernel
theorem dX12_status_5 : decode cX12_status 5 = .ok (.invokestatic 41, 3) := by decide +kernel
theorem dX12_status_8 : decode cX12_status 8 = .ok (.ifCond .ne 10, 3) := by decide +kernel
theorem dX12_status_11 : decode cX12_status 11 = .ok (.aload_n 0, 1) := by decide +kernel
theorem dX12_status_12 : decode cX12_status 12 = .ok (.ldc 35, 2) := by decide +kernel
theorem dX12_status_14 : decode cX12_status 14 = .ok (.invokevirtual 37, 3) := by decide +kernel
theorem dX12_status_17 : decode cX12_status 17 = .ok (.ireturn, 1) := by decide +kernel
theorem dX12_status_18 : decode cX12_status 18 = .ok (.iconst 0, 1) := by decide +kernel
theorem dX12_status_19 : decode cX12_status 19 = .ok (.istore_n 2, 1) := by decide +kernel
theorem dX12_status_20 : decode cX12_status 20 = .ok (.iconst 0, 1) := by decide +kernel
theorem dX12_status_21 : decode cX12_status 21 = .ok (.istore_n 3, 1) := by decide +kernel
theorem dX12_status_22 : decode cX12_status 22 = .ok (.iload_n 3, 1) := by decide +kernel
theorem dX12_status_23 : decode cX12_status 23 = .ok (.bipush 7, 2) := by decide +kernel
theorem dX12_status_25 : decode cX12_status 25 = .ok (.if_icmp .ge 31, 3) := by decide +kernel
theorem dX12_status_28 : decode cX12_status 28 = .ok (.iload_n 2, 1) := by decide +kernel
theorem dX12_status_29 : decode cX12_status 29 = .ok (.iload_n 1, 1) := by decide +kernel
theorem dX12_status_30 : decode cX12_status 30 = .ok (.ifCond .lt 8, 3) := by decide +kernel
theorem dX12_status_33 : decode cX12_status 33 = .ok (.iload_n 1, 1) := by decide +kernel
theorem dX12_status_34 : decode cX12_status 34 = .ok (.iload_n 3, 1) := by decide +kernel
theorem dX12_status_35 : decode cX12_status 35 = .ok (.if_icmp .ne 12, 3) := by decide +kernel
theorem dX12_status_38 : decode cX12_status 38 = .ok (.aload_n 0, 1) := by decide +kernel
theorem dX12_status_39 : decode cX12_status 39 = .ok (.getfield 19, 3) := by decide +kernel
theorem dX12_status_42 : decode cX12_status 42 = .ok (.iload_n 3, 1) := by decide +kernel
theorem dX12_status_43 : decode cX12_status 43 = .ok (.iaload, 1) := by decide +kernel
theorem dX12_status_44 : decode cX12_status 44 = .ok (.goto 4, 3) := by decide +kernel
theorem dX12_status_47 : decode cX12_status 47 = .ok (.iconst 0, 1) := by decide +kernel
theorem dX12_status_48 : decode cX12_status 48 = .ok (.iadd, 1) := by decide +kernel
theorem dX12_status_49 : decode cX12_status 49 = .ok (.istore_n 2, 1) := by decide +kernel
theorem dX12_status_50 : decode cX12_status 50 = .ok (.iinc 3 1, 3) := by decide +kernel
theorem dX12_status_53 : decode cX12_status 53 = .ok (.goto (-31), 3) := by decide +kernel
theorem dX12_status_56 : decode cX12_status 56 = .ok (.iload_n 2, 1) := by decide +kernel
theorem dX12_status_57 : decode cX12_status 57 = .ok (.ireturn, 1) := by decide +kernel
end
section
theorem dL_law_0 : decode cL_law 0 = .ok (.new 7, 3) := by decide +kernel
theorem dL_law_3 : decode cL_law 3 = .ok (.dup, 1) := by decide +kernel
theorem dL_law_4 : decode cL_law 4 = .ok (.invokespecial 9, 3) := by decide +kernel
theorem dL_law_7 : decode cL_law 7 = .ok (.astore_n 1, 1) := by decide +kernel
theorem dL_law_8 : decode cL_law 8 = .ok (.new 10, 3) := by decide +kernel
theorem dL_law_11 : decode cL_law 11 = .ok (.dup, 1) := by decide +kernel
theorem dL_law_12 : decode cL_law 12 = .ok (.invokespecial 12, 3) := by decide +kernel
theorem dL_law_15 : decode cL_law 15 = .ok (.astore_n 2, 1) := by decide +kernel
theorem dL_law_16 : decode cL_law 16 = .ok (.iconst 0, 1) := by decide +kernel
theorem dL_law_17 : decode cL_law 17 = .ok (.istore_n 3, 1) := by decide +kernel
theorem dL_law_18 : decode cL_law 18 = .ok (.iload_n 3, 1) := by decide +kernel
theorem dL_law_19 : decode cL_law 19 = .ok (.aload_n 0, 1) := by decide +kernel
theorem dL_law_20 : decode cL_law 20 = .ok (.arraylength, 1) := by decide +kernel
theorem dL_law_21 : decode cL_law 21 = .ok (.bipush 6, 2) := by decide +kernel
theorem dL_law_23 : decode cL_law 23 = .ok (.isub, 1) := by decide +kernel
theorem dL_law_24 : decode cL_law 24 = .ok (.if_icmp .gt 1334, 3) := by decide +kernel
theorem dL_law_27 : decode cL_law 27 = .ok (.aload_n 0, 1) := by decide +kernel
theorem dL_law_28 : decode cL_law 28 = .ok (.iload_n 3, 1) := by decide +kernel
theorem dL_law_29 : decode cL_law 29 = .ok (.iaload, 1) := by decide +kernel
theorem dL_law_30 : decode cL_law 30 = .ok (.bipush 63, 2) := by decide +kernel
theorem dL_law_32 : decode cL_law 32 = .ok (.iand, 1) := by decide +kernel
theorem dL_law_33 : decode cL_law 33 = .ok (.tableswitch 1319 0 38 #[171, 194, 217, 250, 293, 316, 339, 362, 395, 438, 471, 504, 537, 570, 593, 636, 669, 682, 705, 738, 771, 804, 817, 840, 863, 886, 919, 932, 945, 988, 1062, 1125, 1158, 1191, 1234, 1247, 1260, 1273, 1296], 171) := by decide +kernel
theorem dL_law_204 : decode cL_law 204 = .ok (.aload_n 1, 1) := by decide +kernel
theorem dL_law_205 : decode cL_law 205 = .ok (.aload_n 0, 1) := by decide +kernel
theorem dL_law_206 : decode cL_law 206 = .ok (.iload_n 3, 1) := by decide +kernel
theorem dL_law_207 : decode cL_law 207 = .ok (.iconst 1, 1) := by decide +kernel
theorem dL_law_208 : decode cL_law 208 = .ok (.iadd, 1) := by decide +kernel
theorem dL_law_209 : decode cL_law 209 = .ok (.iaload, 1) := by decide +kernel
theorem dL_law_210 : decode cL_law 210 = .ok (.invokevirtual 13, 3) := by decide +kernel
theorem dL_law_213 : decode cL_law 213 = .ok (.aload_n 2, 1) := by decide +kernel
theorem dL_law_214 : decode cL_law 214 = .ok (.aload_n 0, 1) := by decide +kernel
theorem dL_law_215 : decode cL_law 215 = .ok (.iload_n 3, 1) := by decide +kernel
theorem dL_law_216 : decode cL_law 216 = .ok (.iconst 1, 1) := by decide +kernel
theorem dL_law_217 : decode cL_law 217 = .ok (.iadd, 1) := by decide +kernel
theorem dL_law_218 : decode cL_law 218 = .ok (.iaload, 1) := by decide +kernel
theorem dL_law_219 : decode cL_law 219 = .ok (.invokevirtual 17, 3) := by decide +kernel
theorem dL_law_222 : decode cL_law 222 = .ok (.if_icmp .eq 1130, 3) := by decide +kernel
theorem dL_law_225 : decode cL_law 225 = .ok (.iconst 0, 1) := by decide +kernel
theorem dL_law_226 : decode cL_law 226 = .ok (.ireturn, 1) := by decide +kernel
theorem dL_law_227 : decode cL_law 227 = .ok (.aload_n 1, 1) := by decide +kernel
theorem dL_law_228 : decode cL_law 228 = .ok (.aload_n 0, 1) := by decide +kernel
theorem dL_law_229 : decode cL_law 229 = .ok (.iload_n 3, 1) := by decide +kernel
theorem dL_law_230 : decode cL_law 230 = .ok (.iconst 1, 1) := by decide +kernel
theorem dL_law_231 : decode cL_law 231 = .ok (.iadd, 1) := by decide +kernel
theorem dL_law_232 : decode cL_law 232 = .ok (.iaload, 1) := by decide +kernel
theorem dL_law_233 : decode cL_law 233 = .ok (.invokevirtual 18, 3) := by decide +kernel
theorem dL_law_236 : decode cL_law 236 = .ok (.aload_n 2, 1) := by decide +kernel
theorem dL_law_237 : decode cL_law 237 = .ok (.aload_n 0, 1) := by decide +kernel
theorem dL_law_238 : decode cL_law 238 = .ok (.iload_n 3, 1) := by decide +kernel
theorem dL_law_239 : decode cL_law 239 = .ok (.iconst 1, 1) := by decide +kernel
theorem dL_law_240 : decode cL_law 240 = .ok (.iadd, 1) := by decide +kernel
theorem dL_law_241 : decode cL_law 241 = .ok (.iaload, 1) := by decide +kernel
theorem dL_law_242 : decode cL_law 242 = .ok (.invokevirtual 21, 3) := by decide +kernel
theorem dL_law_245 : decode cL_law 245 = .ok (.if_icmp .eq 1107, 3) := by decide +kernel
theorem dL_law_248 : decode cL_law 248 = .ok (.iconst 0, 1) := by decide +kernel
theorem dL_law_249 : decode cL_law 249 = .ok (.ireturn, 1) := by decide +kernel
theorem dL_law_250 : decode cL_law 250 = .ok (.aload_n 1, 1) := by decide +kernel
theorem dL_law_251 : decode cL_law 251 = .ok (.aload_n 0, 1) := by decide +kernel
theorem dL_law_252 : decode cL_law 252 = .ok (.iload_n 3, 1) := by decide +kernel
theorem dL_law_253 : decode cL_law 253 = .ok (.iconst 1, 1) := by decide +kernel
theorem dL_law_254 : decode cL_law 254 = .ok (.iadd, 1) := by decide +kernel
theorem dL_law_255 : decode cL_law 255 = .ok (.iaload, 1) := by decide +kernel
theorem dL_law_256 : decode cL_law 256 = .ok (.aload_n 0, 1) := by decide +kernel
theorem dL_law_257 : decode cL_law 257 = .ok (.iload_n 3, 1) := by decide +kernel
theorem dL_law_258 : decode cL_law 258 = .ok (.iconst 2, 1) := by decide +kernel
theorem dL_law_259 : decode cL_law 259 = .ok (.iadd, 1) := by decide +kernel
theorem dL_law_260 : decode cL_law 260 = .ok (.iaload, 1) := by decide +kernel
theorem dL_law_261 : decode cL_law 261 = .ok (.invokevirtual 22, 3) := by decide +kernel
theorem dL_law_264 : decode cL_law 264 = .ok (.aload_n 2, 1) := by decide +kernel
theorem dL_law_265 : decode cL_law 265 = .ok (.aload_n 0, 1) := by decide +kernel
theorem dL_law_266 : decode cL_law 266 = .ok (.iload_n 3, 1) := by decide +kernel
theorem dL_law_267 : decode cL_law 267 = .ok (.iconst 1, 1) := by decide +kernel
theorem dL_law_268 : decode cL_law 268 = .ok (.iadd, 1) := by decide +kernel
theorem dL_law_269 : decode cL_law 269 = .ok (.iaload, 1) := by decide +kernel
theorem dL_law_270 : decode cL_law 270 = .ok (.aload_n 0, 1) := by decide +kernel
theorem dL_law_271 : decode cL_law 271 = .ok (.iload_n 3, 1) := by decide +kernel
theorem dL_law_272 : decode cL_law 272 = .ok (.iconst 2, 1) := by decide +kernel
theorem dL_law_273 : decode cL_law 273 = .ok (.iadd, 1) := by decide +kernel
theorem dL_law_274 : decode cL_law 274 = .ok (.iaload, 1) := by decide +kernel
theorem dL_law_275 : decode cL_law 275 = .ok (.invokevirtual 26, 3) := by decide +kernel
theorem dL_law_278 : decode cL_law 278 = .ok (.if_icmp .eq 1074, 3) := by decide +kernel
theorem dL_law_281 : decode cL_law 281 = .ok (.iconst 0, 1) := by decide +kernel
theorem dL_law_282 : decode cL_law 282 = .ok (.ireturn, 1) := by decide +kernel
theorem dL_law_283 : decode cL_law 283 = .ok (.aload_n 1, 1) := by decide +kernel
theorem dL_law_284 : decode cL_law 284 = .ok (.aload_n 0, 1) := by decide +kernel
theorem dL_law_285 : decode cL_law 285 = .ok (.iload_n 3, 1) := by decide +kernel
theorem dL_law_286 : decode cL_law 286 = .ok (.iconst 1, 1) := by decide +kernel
theorem dL_law_287 : decode cL_law 287 = .ok (.iadd, 1) := by decide +kernel
theorem dL_law_288 : decode cL_law 288 = .ok (.iaload, 1) := by decide +kernel
theorem dL_law_289 : decode cL_law 289 = .ok (.aload_n 0, 1) := by decide +kernel
theorem dL_law_290 : decode cL_law 290 = .ok (.iload_n 3, 1) := by decide +kernel
theorem dL_law_291 : decode cL_law 291 = .ok (.iconst 2, 1) := by decide +kernel
theorem dL_law_292 : decode cL_law 292 = .ok (.iadd, 1) := by decide +kernel
theorem dL_law_293 : decode cL_law 293 = .ok (.iaload, 1) := by decide +kernel
theorem dL_law_294 : decode cL_law 294 = .ok (.aload_n 0, 1) := by decide +kernel
theorem dL_law_295 : decode cL_law 295 = .ok (.iload_n 3, 1) := by decide +kernel
theorem dL_law_296 : decode cL_law 296 = .ok (.iconst 3, 1) := by decide +kernel
theorem dL_law_297 : decode cL_law 297 = .ok (.iadd, 1) := by decide +kernel
theorem dL_law_298 : decode cL_law 298 = .ok (.iaload, 1) := by decide +kernel
theorem dL_law_299 : decode cL_law 299 = .ok (.invokevirtual 27, 3) := by decide +kernel
theorem dL_law_302 : decode cL_law 302 = .ok (.aload_n 2, 1) := by decide +kernel
theorem dL_law_303 : decode cL_law 303 = .ok (.aload_n 0, 1) := by decide +kernel
theorem dL_law_304 : decode cL_law 304 = .ok (.iload_n 3, 1) := by decide +kernel
theorem dL_law_305 : decode cL_law 305 = .ok (.iconst 1, 1) := by decide +kernel
theorem dL_law_306 : decode cL_law 306 = .ok (.iadd, 1) := by decide +kernel
theorem dL_law_307 : decode cL_law 307 = .ok (.iaload, 1) := by decide +kernel
theorem dL_law_308 : decode cL_law 308 = .ok (.aload_n 0, 1) := by decide +kernel
theorem dL_law_309 : decode cL_law 309 = .ok (.iload_n 3, 1) := by decide +kernel
theorem dL_law_310 : decode cL_law 310 = .ok (.iconst 2, 1) := by decide +kernel
theorem dL_law_311 : decode cL_law 311 = .ok (.iadd, 1) := by decide +kernel
theorem dL_law_312 : decode cL_law 312 = .ok (.iaload, 1) := by decide +kernel
theorem dL_law_313 : decode cL_law 313 = .ok (.aload_n 0, 1) := by decide +kernel
theorem dL_law_314 : decode cL_law 314 = .ok (.iload_n 3, 1) := by decide +kernel
theorem dL_law_315 : decode cL_law 315 = .ok (.iconst 3, 1) := by decide +kernel
theorem dL_law_316 : decode cL_law 316 = .ok (.iadd, 1) := by decide +kernel
theorem dL_law_317 : decode cL_law 317 = .ok (.iaload, 1) := by decide +kernel
theorem dL_law_318 : decode cL_law 318 = .ok (.invokevirtual 31, 3) := by decide +kernel
theorem dL_law_321 : decode cL_law 321 = .ok (.if_icmp .eq 1031, 3) := by decide +kernel
theorem dL_law_324 : decode cL_law 324 = .ok (.iconst 0, 1) := by decide +kernel
theorem dL_law_325 : decode cL_law 325 = .ok (.ireturn, 1) := by decide +kernel
theorem dL_law_326 : decode cL_law 326 = .ok (.aload_n 1, 1) := by decide +kernel
theorem dL_law_327 : decode cL_law 327 = .ok (.aload_n 0, 1) := by decide +kernel
theorem dL_law_328 : decode cL_law 328 = .ok (.iload_n 3, 1) := by decide +kernel
theorem dL_law_329 : decode cL_law 329 = .ok (.iconst 1, 1) := by decide +kernel
theorem dL_law_330 : decode cL_law 330 = .ok (.iadd, 1) := by decide +kernel
theorem dL_law_331 : decode cL_law 331 = .ok (.iaload, 1) := by decide +kernel
theorem dL_law_332 : decode cL_law 332 = .ok (.invokevirtual 32, 3) := by decide +kernel
theorem dL_law_335 : decode cL_law 335 = .ok (.aload_n 2, 1) := by decide +kernel
theorem dL_law_336 : decode cL_law 336 = .ok (.aload_n 0, 1) := by decide +kernel
theorem dL_law_337 : decode cL_law 337 = .ok (.iload_n 3, 1) := by decide +kernel
theorem dL_law_338 : decode cL_law 338 = .ok (.iconst 1, 1) := by decide +kernel
theorem dL_law_339 : decode cL_law 339 = .ok (.iadd, 1) := by decide +kernel
theorem dL_law_340 : decode cL_law 340 = .ok (.iaload, 1) := by decide +kernel
theorem dL_law_341 : decode cL_law 341 = .ok (.invokevirtual 35, 3) := by decide +kernel
theorem dL_law_344 : decode cL_law 344 = .ok (.if_icmp .eq 1008, 3) := by decide +kernel
theorem dL_law_347 : decode cL_law 347 = .ok (.iconst 0, 1) := by decide +kernel
theorem dL_law_348 : decode cL_law 348 = .ok (.ireturn, 1) := by decide +kernel
theorem dL_law_349 : decode cL_law 349 = .ok (.aload_n 1, 1) := by decide +kernel
theorem dL_law_350 : decode cL_law 350 = .ok (.aload_n 0, 1) := by decide +kernel
theorem dL_law_351 : decode cL_law 351 = .ok (.iload_n 3, 1) := by decide +kernel
theorem dL_law_352 : decode cL_law 352 = .ok (.iconst 1, 1) := by decide +kernel
theorem dL_law_353 : decode cL_law 353 = .ok (.iadd, 1) := by decide +kernel
theorem dL_law_354 : decode cL_law 354 = .ok (.iaload, 1) := by decide +kernel
theorem dL_law_355 : decode cL_law 355 = .ok (.invokevirtual 36, 3) := by decide +kernel
theorem dL_law_358 : decode cL_law 358 = .ok (.aload_n 2, 1) := by decide +kernel
theorem dL_law_359 : decode cL_law 359 = .ok (.aload_n 0, 1) := by decide +kernel
theorem dL_law_360 : decode cL_law 360 = .ok (.iload_n 3, 1) := by decide +kernel
theorem dL_law_361 : decode cL_law 361 = .ok (.iconst 1, 1) := by decide +kernel
theorem dL_law_362 : decode cL_law 362 = .ok (.iadd, 1) := by decide +kernel
theorem dL_law_363 : decode cL_law 363 = .ok (.iaload, 1) := by decide +kernel
theorem dL_law_364 : decode cL_law 364 = .ok (.invokevirtual 39, 3) := by decide +kernel
theorem dL_law_367 : decode cL_law 367 = .ok (.if_icmp .eq 985, 3) := by decide +kernel
theorem dL_law_370 : decode cL_law 370 = .ok (.iconst 0, 1) := by decide +kernel
theorem dL_law_371 : decode cL_law 371 = .ok (.ireturn, 1) := by decide +kernel
theorem dL_law_372 : decode cL_law 372 = .ok (.aload_n 1, 1) := by decide +kernel
theorem dL_law_373 : decode cL_law 373 = .ok (.aload_n 0, 1) := by decide +kernel
theorem dL_law_374 : decode cL_law 374 = .ok (.iload_n 3, 1) := by decide +kernel
theorem dL_law_375 : decode cL_law 375 = .ok (.iconst 1, 1) := by decide +kernel
theorem dL_law_376 : decode cL_law 376 = .ok (.iadd, 1) := by decide +kernel
theorem dL_law_377 : decode cL_law 377 = .ok (.iaload, 1) := by decide +kernel
theorem dL_law_378 : decode cL_law 378 = .ok (.invokevirtual 40, 3) := by decide +kernel
theorem dL_law_381 : decode cL_law 381 = .ok (.aload_n 2, 1) := by decide +kernel
theorem dL_law_382 : decode cL_law 382 = .ok (.aload_n 0, 1) := by decide +kernel
theorem dL_law_383 : decode cL_law 383 = .ok (.iload_n 3, 1) := by decide +kernel
theorem dL_law_384 : decode cL_law 384 = .ok (.iconst 1, 1) := by decide +kernel
theorem dL_law_385 : decode cL_law 385 = .ok (.iadd, 1) := by decide +kernel
theorem dL_law_386 : decode cL_law 386 = .ok (.iaload, 1) := by decide +kernel
theorem dL_law_387 : decode cL_law 387 = .ok (.invokevirtual 43, 3) := by decide +kernel
theorem dL_law_390 : decode cL_law 390 = .ok (.if_icmp .eq 962, 3) := by decide +kernel
theorem dL_law_393 : decode cL_law 393 = .ok (.iconst 0, 1) := by decide +kernel
theorem dL_law_394 : decode cL_law 394 = .ok (.ireturn, 1) := by decide +kernel
theorem dL_law_395 : decode cL_law 395 = .ok (.aload_n 1, 1) := by decide +kernel
theorem dL_law_396 : decode cL_law 396 = .ok (.aload_n 0, 1) := by decide +kernel
theorem dL_law_397 : decode cL_law 397 = .ok (.iload_n 3, 1) := by decide +kernel
theorem dL_law_398 : decode cL_law 398 = .ok (.iconst 1, 1) := by decide +kernel
theorem dL_law_399 : decode cL_law 399 = .ok (.iadd, 1) := by decide +kernel
theorem dL_law_400 : decode cL_law 400 = .ok (.iaload, 1) := by decide +kernel
theorem dL_law_401 : decode cL_law 401 = .ok (.aload_n 0, 1) := by decide +kernel
theorem dL_law_402 : decode cL_law 402 = .ok (.iload_n 3, 1) := by decide +kernel
theorem dL_law_403 : decode cL_law 403 = .ok (.iconst 2, 1) := by decide +kernel
theorem dL_law_404 : decode cL_law 404 = .ok (.iadd, 1) := by decide +kernel
theorem dL_law_405 : decode cL_law 405 = .ok (.iaload, 1) := by decide +kernel
theorem dL_law_406 : decode cL_law 406 = .ok (.invokevirtual 44, 3) := by decide +kernel
theorem dL_law_409 : decode cL_law 409 = .ok (.aload_n 2, 1) := by decide +kernel
theorem dL_law_410 : decode cL_law 410 = .ok (.aload_n 0, 1) := by decide +kernel
theorem dL_law_411 : decode cL_law 411 = .ok (.iload_n 3, 1) := by decide +kernel
theorem dL_law_412 : decode cL_law 412 = .ok (.iconst 1, 1) := by decide +kernel
theorem dL_law_413 : decode cL_law 413 = .ok (.iadd, 1) := by decide +kernel
theorem dL_law_414 : decode cL_law 414 = .ok (.iaload, 1) := by decide +kernel
theorem dL_law_415 : decode cL_law 415 = .ok (.aload_n 0, 1) := by decide +kernel
theorem dL_law_416 : decode cL_law 416 = .ok (.iload_n 3, 1) := by decide +kernel
theorem dL_law_417 : decode cL_law 417 = .ok (.iconst 2, 1) := by decide +kernel
theorem dL_law_418 : decode cL_law 418 = .ok (.iadd, 1) := by decide +kernel
theorem dL_law_419 : decode cL_law 419 = .ok (.iaload, 1) := by decide +kernel
theorem dL_law_420 : decode cL_law 420 = .ok (.invokevirtual 47, 3) := by decide +kernel
theorem dL_law_423 : decode cL_law 423 = .ok (.if_icmp .eq 929, 3) := by decide +kernel
theorem dL_law_426 : decode cL_law 426 = .ok (.iconst 0, 1) := by decide +kernel
theorem dL_law_427 : decode cL_law 427 = .ok (.ireturn, 1) := by decide +kernel
theorem dL_law_428 : decode cL_law 428 = .ok (.aload_n 1, 1) := by decide +kernel
theorem dL_law_429 : decode cL_law 429 = .ok (.aload_n 0, 1) := by decide +kernel
theorem dL_law_430 : decode cL_law 430 = .ok (.iload_n 3, 1) := by decide +kernel
theorem dL_law_431 : decode cL_law 431 = .ok (.iconst 1, 1) := by decide +kernel
theorem dL_law_432 : decode cL_law 432 = .ok (.iadd, 1) := by decide +kernel
theorem dL_law_433 : decode cL_law 433 = .ok (.iaload, 1) := by decide +kernel
theorem dL_law_434 : decode cL_law 434 = .ok (.aload_n 0, 1) := by decide +kernel
theorem dL_law_435 : decode cL_law 435 = .ok (.iload_n 3, 1) := by decide +kernel
theorem dL_law_436 : decode cL_law 436 = .ok (.iconst 2, 1) := by decide +kernel
theorem dL_law_437 : decode cL_law 437 = .ok (.iadd, 1) := by decide +kernel
theorem dL_law_438 : decode cL_law 438 = .ok (.iaload, 1) := by decide +kernel
theorem dL_law_439 : decode cL_law 439 = .ok (.aload_n 0, 1) := by decide +kernel
theorem dL_law_440 : decode cL_law 440 = .ok (.iload_n 3, 1) := by decide +kernel
theorem dL_law_441 : decode cL_law 441 = .ok (.iconst 3, 1) := by decide +kernel
theorem dL_law_442 : decode cL_law 442 = .ok (.iadd, 1) := by decide +kernel
theorem dL_law_443 : decode cL_law 443 = .ok (.iaload, 1) := by decide +kernel
theorem dL_law_444 : decode cL_law 444 = .ok (.invokevirtual 48, 3) := by decide +kernel
theorem dL_law_447 : decode cL_law 447 = .ok (.aload_n 2, 1) := by decide +kernel
theorem dL_law_448 : decode cL_law 448 = .ok (.aload_n 0, 1) := by decide +kernel
theorem dL_law_449 : decode cL_law 449 = .ok (.iload_n 3, 1) := by decide +kernel
theorem dL_law_450 : decode cL_law 450 = .ok (.iconst 1, 1) := by decide +kernel
theorem dL_law_451 : decode cL_law 451 = .ok (.iadd, 1) := by decide +kernel
theorem dL_law_452 : decode cL_law 452 = .ok (.iaload, 1) := by decide +kernel
theorem dL_law_453 : decode cL_law 453 = .ok (.aload_n 0, 1) := by decide +kernel
theorem dL_law_454 : decode cL_law 454 = .ok (.iload_n 3, 1) := by decide +kernel
theorem dL_law_455 : decode cL_law 455 = .ok (.iconst 2, 1) := by decide +kernel
theorem dL_law_456 : decode cL_law 456 = .ok (.iadd, 1) := by decide +kernel
theorem dL_law_457 : decode cL_law 457 = .ok (.iaload, 1) := by decide +kernel
theorem dL_law_458 : decode cL_law 458 = .ok (.aload_n 0, 1) := by decide +kernel
theorem dL_law_459 : decode cL_law 459 = .ok (.iload_n 3, 1) := by decide +kernel
theorem dL_law_460 : decode cL_law 460 = .ok (.iconst 3, 1) := by decide +kernel
theorem dL_law_461 : decode cL_law 461 = .ok (.iadd, 1) := by decide +kernel
theorem dL_law_462 : decode cL_law 462 = .ok (.iaload, 1) := by decide +kernel
theorem dL_law_463 : decode cL_law 463 = .ok (.invokevirtual 51, 3) := by decide +kernel
theorem dL_law_466 : decode cL_law 466 = .ok (.if_icmp .eq 886, 3) := by decide +kernel
theorem dL_law_469 : decode cL_law 469 = .ok (.iconst 0, 1) := by decide +kernel
theorem dL_law_470 : decode cL_law 470 = .ok (.ireturn, 1) := by decide +kernel
theorem dL_law_471 : decode cL_law 471 = .ok (.aload_n 1, 1) := by decide +kernel
theorem dL_law_472 : decode cL_law 472 = .ok (.aload_n 0, 1) := by decide +kernel
theorem dL_law_473 : decode cL_law 473 = .ok (.iload_n 3, 1) := by decide +kernel
theorem dL_law_474 : decode cL_law 474 = .ok (.iconst 1, 1) := by decide +kernel
theorem dL_law_475 : decode cL_law 475 = .ok (.iadd, 1) := by decide +kernel
theorem dL_law_476 : decode cL_law 476 = .ok (.iaload, 1) := by decide +kernel
theorem dL_law_477 : decode cL_law 477 = .ok (.aload_n 0, 1) := by decide +kernel
theorem dL_law_478 : decode cL_law 478 = .ok (.iload_n 3, 1) := by decide +kernel
theorem dL_law_479 : decode cL_law 479 = .ok (.iconst 2, 1) := by decide +kernel
theorem dL_law_480 : decode cL_law 480 = .ok (.iadd, 1) := by decide +kernel
theorem dL_law_481 : decode cL_law 481 = .ok (.iaload, 1) := by decide +kernel
theorem dL_law_482 : decode cL_law 482 = .ok (.invokevirtual 52, 3) := by decide +kernel
theorem dL_law_485 : decode cL_law 485 = .ok (.aload_n 2, 1) := by decide +kernel
theorem dL_law_486 : decode cL_law 486 = .ok (.aload_n 0, 1) := by decide +kernel
theorem dL_law_487 : decode cL_law 487 = .ok (.iload_n 3, 1) := by decide +kernel
theorem dL_law_488 : decode cL_law 488 = .ok (.iconst 1, 1) := by decide +kernel
theorem dL_law_489 : decode cL_law 489 = .ok (.iadd, 1) := by decide +kernel
theorem dL_law_490 : decode cL_law 490 = .ok (.iaload, 1) := by decide +kernel
theorem dL_law_491 : decode cL_law 491 = .ok (.aload_n 0, 1) := by decide +kernel
theorem dL_law_492 : decode cL_law 492 = .ok (.iload_n 3, 1) := by decide +kernel
theorem dL_law_493 : decode cL_law 493 = .ok (.iconst 2, 1) := by decide +kernel
theorem dL_law_494 : decode cL_law 494 = .ok (.iadd, 1) := by decide +kernel
theorem dL_law_495 : decode cL_law 495 = .ok (.iaload, 1) := by decide +kernel
theorem dL_law_496 : decode cL_law 496 = .ok (.invokevirtual 55, 3) := by decide +kernel
theorem dL_law_499 : decode cL_law 499 = .ok (.if_icmp .eq 853, 3) := by decide +kernel
theorem dL_law_502 : decode cL_law 502 = .ok (.iconst 0, 1) := by decide +kernel
theorem dL_law_503 : decode cL_law 503 = .ok (.ireturn, 1) := by decide +kernel
theorem dL_law_504 : decode cL_law 504 = .ok (.aload_n 1, 1) := by decide +kernel
theorem dL_law_505 : decode cL_law 505 = .ok (.aload_n 0, 1) := by decide +kernel
theorem dL_law_506 : decode cL_law 506 = .ok (.iload_n 3, 1) := by decide +kernel
theorem dL_law_507 : decode cL_law 507 = .ok (.iconst 1, 1) := by decide +kernel
theorem dL_law_508 : decode cL_law 508 = .ok (.iadd, 1) := by decide +kernel
theorem dL_law_509 : decode cL_law 509 = .ok (.iaload, 1) := by decide +kernel
theorem dL_law_510 : decode cL_law 510 = .ok (.aload_n 0, 1) := by decide +kernel
theorem dL_law_511 : decode cL_law 511 = .ok (.iload_n 3, 1) := by decide +kernel
theorem dL_law_512 : decode cL_law 512 = .ok (.iconst 2, 1) := by decide +kernel
theorem dL_law_513 : decode cL_law 513 = .ok (.iadd, 1) := by decide +kernel
theorem dL_law_514 : decode cL_law 514 = .ok (.iaload, 1) := by decide +kernel
theorem dL_law_515 : decode cL_law 515 = .ok (.invokevirtual 56, 3) := by decide +kernel
theorem dL_law_518 : decode cL_law 518 = .ok (.aload_n 2, 1) := by decide +kernel
theorem dL_law_519 : decode cL_law 519 = .ok (.aload_n 0, 1) := by decide +kernel
theorem dL_law_520 : decode cL_law 520 = .ok (.iload_n 3, 1) := by decide +kernel
theorem dL_law_521 : decode cL_law 521 = .ok (.iconst 1, 1) := by decide +kernel
theorem dL_law_522 : decode cL_law 522 = .ok (.iadd, 1) := by decide +kernel
theorem dL_law_523 : decode cL_law 523 = .ok (.iaload, 1) := by decide +kernel
theorem dL_law_524 : decode cL_law 524 = .ok (.aload_n 0, 1) := by decide +kernel
theorem dL_law_525 : decode cL_law 525 = .ok (.iload_n 3, 1) := by decide +kernel
theorem dL_law_526 : decode cL_law 526 = .ok (.iconst 2, 1) := by decide +kernel
theorem dL_law_527 : decode cL_law 527 = .ok (.iadd, 1) := by decide +kernel
theorem dL_law_528 : decode cL_law 528 = .ok (.iaload, 1) := by decide +kernel
theorem dL_law_529 : decode cL_law 529 = .ok (.invokevirtual 59, 3) := by decide +kernel
theorem dL_law_532 : decode cL_law 532 = .ok (.if_icmp .eq 820, 3) := by decide +kernel
theorem dL_law_535 : decode cL_law 535 = .ok (.iconst 0, 1) := by decide +kernel
theorem dL_law_536 : decode cL_law 536 = .ok (.ireturn, 1) := by decide +kernel
theorem dL_law_537 : decode cL_law 537 = .ok (.aload_n 1, 1) := by decide +kernel
theorem dL_law_538 : decode cL_law 538 = .ok (.aload_n 0, 1) := by decide +kernel
theorem dL_law_539 : decode cL_law 539 = .ok (.iload_n 3, 1) := by decide +kernel
theorem dL_law_540 : decode cL_law 540 = .ok (.iconst 1, 1) := by decide +kernel
theorem dL_law_541 : decode cL_law 541 = .ok (.iadd, 1) := by decide +kernel
theorem dL_law_542 : decode cL_law 542 = .ok (.iaload, 1) := by decide +kernel
theorem dL_law_543 : decode cL_law 543 = .ok (.aload_n 0, 1) := by decide +kernel
theorem dL_law_544 : decode cL_law 544 = .ok (.iload_n 3, 1) := by decide +kernel
theorem dL_law_545 : decode cL_law 545 = .ok (.iconst 2, 1) := by decide +kernel
theorem dL_law_546 : decode cL_law 546 = .ok (.iadd, 1) := by decide +kernel
theorem dL_law_547 : decode cL_law 547 = .ok (.iaload, 1) := by decide +kernel
theorem dL_law_548 : decode cL_law 548 = .ok (.invokevirtual 60, 3) := by decide +kernel
theorem dL_law_551 : decode cL_law 551 = .ok (.aload_n 2, 1) := by decide +kernel
theorem dL_law_552 : decode cL_law 552 = .ok (.aload_n 0, 1) := by decide +kernel
theorem dL_law_553 : decode cL_law 553 = .ok (.iload_n 3, 1) := by decide +kernel
theorem dL_law_554 : decode cL_law 554 = .ok (.iconst 1, 1) := by decide +kernel
theorem dL_law_555 : decode cL_law 555 = .ok (.iadd, 1) := by decide +kernel
theorem dL_law_556 : decode cL_law 556 = .ok (.iaload, 1) := by decide +kernel
theorem dL_law_557 : decode cL_law 557 = .ok (.aload_n 0, 1) := by decide +kernel
theorem dL_law_558 : decode cL_law 558 = .ok (.iload_n 3, 1) := by decide +kernel
theorem dL_law_559 : decode cL_law 559 = .ok (.iconst 2, 1) := by decide +kernel
theorem dL_law_560 : decode cL_law 560 = .ok (.iadd, 1) := by decide +kernel
theorem dL_law_561 : decode cL_law 561 = .ok (.iaload, 1) := by decide +kernel
theorem dL_law_562 : decode cL_law 562 = .ok (.invokevirtual 63, 3) := by decide +kernel
theorem dL_law_565 : decode cL_law 565 = .ok (.if_icmp .eq 787, 3) := by decide +kernel
theorem dL_law_568 : decode cL_law 568 = .ok (.iconst 0, 1) := by decide +kernel
theorem dL_law_569 : decode cL_law 569 = .ok (.ireturn, 1) := by decide +kernel
theorem dL_law_570 : decode cL_law 570 = .ok (.aload_n 1, 1) := by decide +kernel
theorem dL_law_571 : decode cL_law 571 = .ok (.aload_n 0, 1) := by decide +kernel
theorem dL_law_572 : decode cL_law 572 = .ok (.iload_n 3, 1) := by decide +kernel
theorem dL_law_573 : decode cL_law 573 = .ok (.iconst 1, 1) := by decide +kernel
theorem dL_law_574 : decode cL_law 574 = .ok (.iadd, 1) := by decide +kernel
theorem dL_law_575 : decode cL_law 575 = .ok (.iaload, 1) := by decide +kernel
theorem dL_law_576 : decode cL_law 576 = .ok (.aload_n 0, 1) := by decide +kernel
theorem dL_law_577 : decode cL_law 577 = .ok (.iload_n 3, 1) := by decide +kernel
theorem dL_law_578 : decode cL_law 578 = .ok (.iconst 2, 1) := by decide +kernel
theorem dL_law_579 : decode cL_law 579 = .ok (.iadd, 1) := by decide +kernel
theorem dL_law_580 : decode cL_law 580 = .ok (.iaload, 1) := by decide +kernel
theorem dL_law_581 : decode cL_law 581 = .ok (.invokevirtual 64, 3) := by decide +kernel
theorem dL_law_584 : decode cL_law 584 = .ok (.aload_n 2, 1) := by decide +kernel
theorem dL_law_585 : decode cL_law 585 = .ok (.aload_n 0, 1) := by decide +kernel
theorem dL_law_586 : decode cL_law 586 = .ok (.iload_n 3, 1) := by decide +kernel
theorem dL_law_587 : decode cL_law 587 = .ok (.iconst 1, 1) := by decide +kernel
theorem dL_law_588 : decode cL_law 588 = .ok (.iadd, 1) := by decide +kernel
theorem dL_law_589 : decode cL_law 589 = .ok (.iaload, 1) := by decide +kernel
theorem dL_law_590 : decode cL_law 590 = .ok (.aload_n 0, 1) := by decide +kernel
theorem dL_law_591 : decode cL_law 591 = .ok (.iload_n 3, 1) := by decide +kernel
theorem dL_law_592 : decode cL_law 592 = .ok (.iconst 2, 1) := by decide +kernel
theorem dL_law_593 : decode cL_law 593 = .ok (.iadd, 1) := by decide +kernel
theorem dL_law_594 : decode cL_law 594 = .ok (.iaload, 1) := by decide +kernel
theorem dL_law_595 : decode cL_law 595 = .ok (.invokevirtual 67, 3) := by decide +kernel
theorem dL_law_598 : decode cL_law 598 = .ok (.if_icmp .eq 754, 3) := by decide +kernel
theorem dL_law_601 : decode cL_law 601 = .ok (.iconst 0, 1) := by decide +kernel
theorem dL_law_602 : decode cL_law 602 = .ok (.ireturn, 1) := by decide +kernel
theorem dL_law_603 : decode cL_law 603 = .ok (.aload_n 1, 1) := by decide +kernel
theorem dL_law_604 : decode cL_law 604 = .ok (.aload_n 0, 1) := by decide +kernel
theorem dL_law_605 : decode cL_law 605 = .ok (.iload_n 3, 1) := by decide +kernel
theorem dL_law_606 : decode cL_law 606 = .ok (.iconst 1, 1) := by decide +kernel
theorem dL_law_607 : decode cL_law 607 = .ok (.iadd, 1) := by decide +kernel
theorem dL_law_608 : decode cL_law 608 = .ok (.iaload, 1) := by decide +kernel
theorem dL_law_609 : decode cL_law 609 = .ok (.invokevirtual 68, 3) := by decide +kernel
theorem dL_law_612 : decode cL_law 612 = .ok (.aload_n 2, 1) := by decide +kernel
theorem dL_law_613 : decode cL_law 613 = .ok (.aload_n 0, 1) := by decide +kernel
theorem dL_law_614 : decode cL_law 614 = .ok (.iload_n 3, 1) := by decide +kernel
theorem dL_law_615 : decode cL_law 615 = .ok (.iconst 1, 1) := by decide +kernel
theorem dL_law_616 : decode cL_law 616 = .ok (.iadd, 1) := by decide +kernel
theorem dL_law_617 : decode cL_law 617 = .ok (.iaload, 1) := by decide +kernel
theorem dL_law_618 : decode cL_law 618 = .ok (.invokevirtual 71, 3) := by decide +kernel
theorem dL_law_621 : decode cL_law 621 = .ok (.if_icmp .eq 731, 3) := by decide +kernel
theorem dL_law_624 : decode cL_law 624 = .ok (.iconst 0, 1) := by decide +kernel
theorem dL_law_625 : decode cL_law 625 = .ok (.ireturn, 1) := by decide +kernel
theorem dL_law_626 : decode cL_law 626 = .ok (.aload_n 1, 1) := by decide +kernel
theorem dL_law_627 : decode cL_law 627 = .ok (.aload_n 0, 1) := by decide +kernel
theorem dL_law_628 : decode cL_law 628 = .ok (.iload_n 3, 1) := by decide +kernel
theorem dL_law_629 : decode cL_law 629 = .ok (.iconst 1, 1) := by decide +kernel
theorem dL_law_630 : decode cL_law 630 = .ok (.iadd, 1) := by decide +kernel
theorem dL_law_631 : decode cL_law 631 = .ok (.iaload, 1) := by decide +kernel
theorem dL_law_632 : decode cL_law 632 = .ok (.aload_n 0, 1) := by decide +kernel
theorem dL_law_633 : decode cL_law 633 = .ok (.iload_n 3, 1) := by decide +kernel
theorem dL_law_634 : decode cL_law 634 = .ok (.iconst 2, 1) := by decide +kernel
theorem dL_law_635 : decode cL_law 635 = .ok (.iadd, 1) := by decide +kernel
theorem dL_law_636 : decode cL_law 636 = .ok (.iaload, 1) := by decide +kernel
theorem dL_law_637 : decode cL_law 637 = .ok (.aload_n 0, 1) := by decide +kernel
theorem dL_law_638 : decode cL_law 638 = .ok (.iload_n 3, 1) := by decide +kernel
theorem dL_law_639 : decode cL_law 639 = .ok (.iconst 3, 1) := by decide +kernel
theorem dL_law_640 : decode cL_law 640 = .ok (.iadd, 1) := by decide +kernel
theorem dL_law_641 : decode cL_law 641 = .ok (.iaload, 1) := by decide +kernel
theorem dL_law_642 : decode cL_law 642 = .ok (.invokevirtual 72, 3) := by decide +kernel
theorem dL_law_645 : decode cL_law 645 = .ok (.aload_n 2, 1) := by decide +kernel
theorem dL_law_646 : decode cL_law 646 = .ok (.aload_n 0, 1) := by decide +kernel
theorem dL_law_647 : decode cL_law 647 = .ok (.iload_n 3, 1) := by decide +kernel
theorem dL_law_648 : decode cL_law 648 = .ok (.iconst 1, 1) := by decide +kernel
theorem dL_law_649 : decode cL_law 649 = .ok (.iadd, 1) := by decide +kernel
theorem dL_law_650 : decode cL_law 650 = .ok (.iaload, 1) := by decide +kernel
theorem dL_law_651 : decode cL_law 651 = .ok (.aload_n 0, 1) := by decide +kernel
theorem dL_law_652 : decode cL_law 652 = .ok (.iload_n 3, 1) := by decide +kernel
theorem dL_law_653 : decode cL_law 653 = .ok (.iconst 2, 1) := by decide +kernel
theorem dL_law_654 : decode cL_law 654 = .ok (.iadd, 1) := by decide +kernel
theorem dL_law_655 : decode cL_law 655 = .ok (.iaload, 1) := by decide +kernel
theorem dL_law_656 : decode cL_law 656 = .ok (.aload_n 0, 1) := by decide +kernel
theorem dL_law_657 : decode cL_law 657 = .ok (.iload_n 3, 1) := by decide +kernel
theorem dL_law_658 : decode cL_law 658 = .ok (.iconst 3, 1) := by decide +kernel
theorem dL_law_659 : decode cL_law 659 = .ok (.iadd, 1) := by decide +kernel
theorem dL_law_660 : decode cL_law 660 = .ok (.iaload, 1) := by decide +kernel
theorem dL_law_661 : decode cL_law 661 = .ok (.invokevirtual 75, 3) := by decide +kernel
theorem dL_law_664 : decode cL_law 664 = .ok (.if_icmp .eq 688, 3) := by decide +kernel
theorem dL_law_667 : decode cL_law 667 = .ok (.iconst 0, 1) := by decide +kernel
theorem dL_law_668 : decode cL_law 668 = .ok (.ireturn, 1) := by decide +kernel
theorem dL_law_669 : decode cL_law 669 = .ok (.aload_n 1, 1) := by decide +kernel
theorem dL_law_670 : decode cL_law 670 = .ok (.aload_n 0, 1) := by decide +kernel
theorem dL_law_671 : decode cL_law 671 = .ok (.iload_n 3, 1) := by decide +kernel
theorem dL_law_672 : decode cL_law 672 = .ok (.iconst 1, 1) := by decide +kernel
theorem dL_law_673 : decode cL_law 673 = .ok (.iadd, 1) := by decide +kernel
theorem dL_law_674 : decode cL_law 674 = .ok (.iaload, 1) := by decide +kernel
theorem dL_law_675 : decode cL_law 675 = .ok (.aload_n 0, 1) := by decide +kernel
theorem dL_law_676 : decode cL_law 676 = .ok (.iload_n 3, 1) := by decide +kernel
theorem dL_law_677 : decode cL_law 677 = .ok (.iconst 2, 1) := by decide +kernel
theorem dL_law_678 : decode cL_law 678 = .ok (.iadd, 1) := by decide +kernel
theorem dL_law_679 : decode cL_law 679 = .ok (.iaload, 1) := by decide +kernel
theorem dL_law_680 : decode cL_law 680 = .ok (.invokevirtual 76, 3) := by decide +kernel
theorem dL_law_683 : decode cL_law 683 = .ok (.aload_n 2, 1) := by decide +kernel
theorem dL_law_684 : decode cL_law 684 = .ok (.aload_n 0, 1) := by decide +kernel
theorem dL_law_685 : decode cL_law 685 = .ok (.iload_n 3, 1) := by decide +kernel
theorem dL_law_686 : decode cL_law 686 = .ok (.iconst 1, 1) := by decide +kernel
theorem dL_law_687 : decode cL_law 687 = .ok (.iadd, 1) := by decide +kernel
theorem dL_law_688 : decode cL_law 688 = .ok (.iaload, 1) := by decide +kernel
theorem dL_law_689 : decode cL_law 689 = .ok (.aload_n 0, 1) := by decide +kernel
theorem dL_law_690 : decode cL_law 690 = .ok (.iload_n 3, 1) := by decide +kernel
theorem dL_law_691 : decode cL_law 691 = .ok (.iconst 2, 1) := by decide +kernel
theorem dL_law_692 : decode cL_law 692 = .ok (.iadd, 1) := by decide +kernel
theorem dL_law_693 : decode cL_law 693 = .ok (.iaload, 1) := by decide +kernel
theorem dL_law_694 : decode cL_law 694 = .ok (.invokevirtual 79, 3) := by decide +kernel
theorem dL_law_697 : decode cL_law 697 = .ok (.if_icmp .eq 655, 3) := by decide +kernel
theorem dL_law_700 : decode cL_law 700 = .ok (.iconst 0, 1) := by decide +kernel
theorem dL_law_701 : decode cL_law 701 = .ok (.ireturn, 1) := by decide +kernel
theorem dL_law_702 : decode cL_law 702 = .ok (.aload_n 1, 1) := by decide +kernel
theorem dL_law_703 : decode cL_law 703 = .ok (.invokevirtual 80, 3) := by decide +kernel
theorem dL_law_706 : decode cL_law 706 = .ok (.aload_n 2, 1) := by decide +kernel
theorem dL_law_707 : decode cL_law 707 = .ok (.invokevirtual 84, 3) := by decide +kernel
theorem dL_law_710 : decode cL_law 710 = .ok (.if_icmp .eq 642, 3) := by decide +kernel
theorem dL_law_713 : decode cL_law 713 = .ok (.iconst 0, 1) := by decide +kernel
theorem dL_law_714 : decode cL_law 714 = .ok (.ireturn, 1) := by decide +kernel
theorem dL_law_715 : decode cL_law 715 = .ok (.aload_n 1, 1) := by decide +kernel
theorem dL_law_716 : decode cL_law 716 = .ok (.aload_n 0, 1) := by decide +kernel
theorem dL_law_717 : decode cL_law 717 = .ok (.iload_n 3, 1) := by decide +kernel
theorem dL_law_718 : decode cL_law 718 = .ok (.iconst 1, 1) := by decide +kernel
theorem dL_law_719 : decode cL_law 719 = .ok (.iadd, 1) := by decide +kernel
theorem dL_law_720 : decode cL_law 720 = .ok (.iaload, 1) := by decide +kernel
theorem dL_law_721 : decode cL_law 721 = .ok (.invokevirtual 85, 3) := by decide +kernel
theorem dL_law_724 : decode cL_law 724 = .ok (.aload_n 2, 1) := by decide +kernel
theorem dL_law_725 : decode cL_law 725 = .ok (.aload_n 0, 1) := by decide +kernel
theorem dL_law_726 : decode cL_law 726 = .ok (.iload_n 3, 1) := by decide +kernel
theorem dL_law_727 : decode cL_law 727 = .ok (.iconst 1, 1) := by decide +kernel
theorem dL_law_728 : decode cL_law 728 = .ok (.iadd, 1) := by decide +kernel
theorem dL_law_729 : decode cL_law 729 = .ok (.iaload, 1) := by decide +kernel
theorem dL_law_730 : decode cL_law 730 = .ok (.invokevirtual 88, 3) := by decide +kernel
theorem dL_law_733 : decode cL_law 733 = .ok (.if_icmp .eq 619, 3) := by decide +kernel
theorem dL_law_736 : decode cL_law 736 = .ok (.iconst 0, 1) := by decide +kernel
theorem dL_law_737 : decode cL_law 737 = .ok (.ireturn, 1) := by decide +kernel
theorem dL_law_738 : decode cL_law 738 = .ok (.aload_n 1, 1) := by decide +kernel
theorem dL_law_739 : decode cL_law 739 = .ok (.aload_n 0, 1) := by decide +kernel
theorem dL_law_740 : decode cL_law 740 = .ok (.iload_n 3, 1) := by decide +kernel
theorem dL_law_741 : decode cL_law 741 = .ok (.iconst 1, 1) := by decide +kernel
theorem dL_law_742 : decode cL_law 742 = .ok (.iadd, 1) := by decide +kernel
theorem dL_law_743 : decode cL_law 743 = .ok (.iaload, 1) := by decide +kernel
theorem dL_law_744 : decode cL_law 744 = .ok (.aload_n 0, 1) := by decide +kernel
theorem dL_law_745 : decode cL_law 745 = .ok (.iload_n 3, 1) := by decide +kernel
theorem dL_law_746 : decode cL_law 746 = .ok (.iconst 2, 1) := by decide +kernel
theorem dL_law_747 : decode cL_law 747 = .ok (.iadd, 1) := by decide +kernel
theorem dL_law_748 : decode cL_law 748 = .ok (.iaload, 1) := by decide +kernel
theorem dL_law_749 : decode cL_law 749 = .ok (.invokevirtual 89, 3) := by decide +kernel
theorem dL_law_752 : decode cL_law 752 = .ok (.aload_n 2, 1) := by decide +kernel
theorem dL_law_753 : decode cL_law 753 = .ok (.aload_n 0, 1) := by decide +kernel
theorem dL_law_754 : decode cL_law 754 = .ok (.iload_n 3, 1) := by decide +kernel
theorem dL_law_755 : decode cL_law 755 = .ok (.iconst 1, 1) := by decide +kernel
theorem dL_law_756 : decode cL_law 756 = .ok (.iadd, 1) := by decide +kernel
theorem dL_law_757 : decode cL_law 757 = .ok (.iaload, 1) := by decide +kernel
theorem dL_law_758 : decode cL_law 758 = .ok (.aload_n 0, 1) := by decide +kernel
theorem dL_law_759 : decode cL_law 759 = .ok (.iload_n 3, 1) := by decide +kernel
theorem dL_law_760 : decode cL_law 760 = .ok (.iconst 2, 1) := by decide +kernel
theorem dL_law_761 : decode cL_law 761 = .ok (.iadd, 1) := by decide +kernel
theorem dL_law_762 : decode cL_law 762 = .ok (.iaload, 1) := by decide +kernel
theorem dL_law_763 : decode cL_law 763 = .ok (.invokevirtual 92, 3) := by decide +kernel
theorem dL_law_766 : decode cL_law 766 = .ok (.if_icmp .eq 586, 3) := by decide +kernel
theorem dL_law_769 : decode cL_law 769 = .ok (.iconst 0, 1) := by decide +kernel
theorem dL_law_770 : decode cL_law 770 = .ok (.ireturn, 1) := by decide +kernel
theorem dL_law_771 : decode cL_law 771 = .ok (.aload_n 1, 1) := by decide +kernel
theorem dL_law_772 : decode cL_law 772 = .ok (.aload_n 0, 1) := by decide +kernel
theorem dL_law_773 : decode cL_law 773 = .ok (.iload_n 3, 1) := by decide +kernel
theorem dL_law_774 : decode cL_law 774 = .ok (.iconst 1, 1) := by decide +kernel
theorem dL_law_775 : decode cL_law 775 = .ok (.iadd, 1) := by decide +kernel
theorem dL_law_776 : decode cL_law 776 = .ok (.iaload, 1) := by decide +kernel
theorem dL_law_777 : decode cL_law 777 = .ok (.aload_n 0, 1) := by decide +kernel
theorem dL_law_778 : decode cL_law 778 = .ok (.iload_n 3, 1) := by decide +kernel
theorem dL_law_779 : decode cL_law 779 = .ok (.iconst 2, 1) := by decide +kernel
theorem dL_law_780 : decode cL_law 780 = .ok (.iadd, 1) := by decide +kernel
theorem dL_law_781 : decode cL_law 781 = .ok (.iaload, 1) := by decide +kernel
theorem dL_law_782 : decode cL_law 782 = .ok (.invokevirtual 93, 3) := by decide +kernel
theorem dL_law_785 : decode cL_law 785 = .ok (.aload_n 2, 1) := by decide +kernel
theorem dL_law_786 : decode cL_law 786 = .ok (.aload_n 0, 1) := by decide +kernel
theorem dL_law_787 : decode cL_law 787 = .ok (.iload_n 3, 1) := by decide +kernel
theorem dL_law_788 : decode cL_law 788 = .ok (.iconst 1, 1) := by decide +kernel
theorem dL_law_789 : decode cL_law 789 = .ok (.iadd, 1) := by decide +kernel
theorem dL_law_790 : decode cL_law 790 = .ok (.iaload, 1) := by decide +kernel
theorem dL_law_791 : decode cL_law 791 = .ok (.aload_n 0, 1) := by decide +kernel
theorem dL_law_792 : decode cL_law 792 = .ok (.iload_n 3, 1) := by decide +kernel
theorem dL_law_793 : decode cL_law 793 = .ok (.iconst 2, 1) := by decide +kernel
theorem dL_law_794 : decode cL_law 794 = .ok (.iadd, 1) := by decide +kernel
theorem dL_law_795 : decode cL_law 795 = .ok (.iaload, 1) := by decide +kernel
theorem dL_law_796 : decode cL_law 796 = .ok (.invokevirtual 96, 3) := by decide +kernel
theorem dL_law_799 : decode cL_law 799 = .ok (.if_icmp .eq 553, 3) := by decide +kernel
theorem dL_law_802 : decode cL_law 802 = .ok (.iconst 0, 1) := by decide +kernel
theorem dL_law_803 : decode cL_law 803 = .ok (.ireturn, 1) := by decide +kernel
theorem dL_law_804 : decode cL_law 804 = .ok (.aload_n 1, 1) := by decide +kernel
theorem dL_law_805 : decode cL_law 805 = .ok (.aload_n 0, 1) := by decide +kernel
theorem dL_law_806 : decode cL_law 806 = .ok (.iload_n 3, 1) := by decide +kernel
theorem dL_law_807 : decode cL_law 807 = .ok (.iconst 1, 1) := by decide +kernel
theorem dL_law_808 : decode cL_law 808 = .ok (.iadd, 1) := by decide +kernel
theorem dL_law_809 : decode cL_law 809 = .ok (.iaload, 1) := by decide +kernel
theorem dL_law_810 : decode cL_law 810 = .ok (.aload_n 0, 1) := by decide +kernel
theorem dL_law_811 : decode cL_law 811 = .ok (.iload_n 3, 1) := by decide +kernel
theorem dL_law_812 : decode cL_law 812 = .ok (.iconst 2, 1) := by decide +kernel
theorem dL_law_813 : decode cL_law 813 = .ok (.iadd, 1) := by decide +kernel
theorem dL_law_814 : decode cL_law 814 = .ok (.iaload, 1) := by decide +kernel
theorem dL_law_815 : decode cL_law 815 = .ok (.invokevirtual 97, 3) := by decide +kernel
theorem dL_law_818 : decode cL_law 818 = .ok (.aload_n 2, 1) := by decide +kernel
theorem dL_law_819 : decode cL_law 819 = .ok (.aload_n 0, 1) := by decide +kernel
theorem dL_law_820 : decode cL_law 820 = .ok (.iload_n 3, 1) := by decide +kernel
theorem dL_law_821 : decode cL_law 821 = .ok (.iconst 1, 1) := by decide +kernel
theorem dL_law_822 : decode cL_law 822 = .ok (.iadd, 1) := by decide +kernel
theorem dL_law_823 : decode cL_law 823 = .ok (.iaload, 1) := by decide +kernel
theorem dL_law_824 : decode cL_law 824 = .ok (.aload_n 0, 1) := by decide +kernel
theorem dL_law_825 : decode cL_law 825 = .ok (.iload_n 3, 1) := by decide +kernel
theorem dL_law_826 : decode cL_law 826 = .ok (.iconst 2, 1) := by decide +kernel
theorem dL_law_827 : decode cL_law 827 = .ok (.iadd, 1) := by decide +kernel
theorem dL_law_828 : decode cL_law 828 = .ok (.iaload, 1) := by decide +kernel
theorem dL_law_829 : decode cL_law 829 = .ok (.invokevirtual 100, 3) := by decide +kernel
theorem dL_law_832 : decode cL_law 832 = .ok (.if_icmp .eq 520, 3) := by decide +kernel
theorem dL_law_835 : decode cL_law 835 = .ok (.iconst 0, 1) := by decide +kernel
theorem dL_law_836 : decode cL_law 836 = .ok (.ireturn, 1) := by decide +kernel
theorem dL_law_837 : decode cL_law 837 = .ok (.aload_n 1, 1) := by decide +kernel
theorem dL_law_838 : decode cL_law 838 = .ok (.invokevirtual 101, 3) := by decide +kernel
theorem dL_law_841 : decode cL_law 841 = .ok (.aload_n 2, 1) := by decide +kernel
theorem dL_law_842 : decode cL_law 842 = .ok (.invokevirtual 104, 3) := by decide +kernel
theorem dL_law_845 : decode cL_law 845 = .ok (.if_icmp .eq 507, 3) := by decide +kernel
theorem dL_law_848 : decode cL_law 848 = .ok (.iconst 0, 1) := by decide +kernel
theorem dL_law_849 : decode cL_law 849 = .ok (.ireturn, 1) := by decide +kernel
theorem dL_law_850 : decode cL_law 850 = .ok (.aload_n 1, 1) := by decide +kernel
theorem dL_law_851 : decode cL_law 851 = .ok (.aload_n 0, 1) := by decide +kernel
theorem dL_law_852 : decode cL_law 852 = .ok (.iload_n 3, 1) := by decide +kernel
theorem dL_law_853 : decode cL_law 853 = .ok (.iconst 1, 1) := by decide +kernel
theorem dL_law_854 : decode cL_law 854 = .ok (.iadd, 1) := by decide +kernel
theorem dL_law_855 : decode cL_law 855 = .ok (.iaload, 1) := by decide +kernel
theorem dL_law_856 : decode cL_law 856 = .ok (.invokevirtual 105, 3) := by decide +kernel
theorem dL_law_859 : decode cL_law 859 = .ok (.aload_n 2, 1) := by decide +kernel
theorem dL_law_860 : decode cL_law 860 = .ok (.aload_n 0, 1) := by decide +kernel
theorem dL_law_861 : decode cL_law 861 = .ok (.iload_n 3, 1) := by decide +kernel
theorem dL_law_862 : decode cL_law 862 = .ok (.iconst 1, 1) := by decide +kernel
theorem dL_law_863 : decode cL_law 863 = .ok (.iadd, 1) := by decide +kernel
theorem dL_law_864 : decode cL_law 864 = .ok (.iaload, 1) := by decide +kernel
theorem dL_law_865 : decode cL_law 865 = .ok (.invokevirtual 108, 3) := by decide +kernel
theorem dL_law_868 : decode cL_law 868 = .ok (.if_icmp .eq 484, 3) := by decide +kernel
theorem dL_law_871 : decode cL_law 871 = .ok (.iconst 0, 1) := by decide +kernel
theorem dL_law_872 : decode cL_law 872 = .ok (.ireturn, 1) := by decide +kernel
theorem dL_law_873 : decode cL_law 873 = .ok (.aload_n 1, 1) := by decide +kernel
theorem dL_law_874 : decode cL_law 874 = .ok (.aload_n 0, 1) := by decide +kernel
theorem dL_law_875 : decode cL_law 875 = .ok (.iload_n 3, 1) := by decide +kernel
theorem dL_law_876 : decode cL_law 876 = .ok (.iconst 1, 1) := by decide +kernel
theorem dL_law_877 : decode cL_law 877 = .ok (.iadd, 1) := by decide +kernel
theorem dL_law_878 : decode cL_law 878 = .ok (.iaload, 1) := by decide +kernel
theorem dL_law_879 : decode cL_law 879 = .ok (.invokevirtual 109, 3) := by decide +kernel
theorem dL_law_882 : decode cL_law 882 = .ok (.aload_n 2, 1) := by decide +kernel
theorem dL_law_883 : decode cL_law 883 = .ok (.aload_n 0, 1) := by decide +kernel
theorem dL_law_884 : decode cL_law 884 = .ok (.iload_n 3, 1) := by decide +kernel
theorem dL_law_885 : decode cL_law 885 = .ok (.iconst 1, 1) := by decide +kernel
theorem dL_law_886 : decode cL_law 886 = .ok (.iadd, 1) := by decide +kernel
theorem dL_law_887 : decode cL_law 887 = .ok (.iaload, 1) := by decide +kernel
theorem dL_law_888 : decode cL_law 888 = .ok (.invokevirtual 112, 3) := by decide +kernel
theorem dL_law_891 : decode cL_law 891 = .ok (.if_icmp .eq 461, 3) := by decide +kernel
theorem dL_law_894 : decode cL_law 894 = .ok (.iconst 0, 1) := by decide +kernel
theorem dL_law_895 : decode cL_law 895 = .ok (.ireturn, 1) := by decide +kernel
theorem dL_law_896 : decode cL_law 896 = .ok (.aload_n 1, 1) := by decide +kernel
theorem dL_law_897 : decode cL_law 897 = .ok (.aload_n 0, 1) := by decide +kernel
theorem dL_law_898 : decode cL_law 898 = .ok (.iload_n 3, 1) := by decide +kernel
theorem dL_law_899 : decode cL_law 899 = .ok (.iconst 1, 1) := by decide +kernel
theorem dL_law_900 : decode cL_law 900 = .ok (.iadd, 1) := by decide +kernel
theorem dL_law_901 : decode cL_law 901 = .ok (.iaload, 1) := by decide +kernel
theorem dL_law_902 : decode cL_law 902 = .ok (.invokevirtual 113, 3) := by decide +kernel
theorem dL_law_905 : decode cL_law 905 = .ok (.aload_n 2, 1) := by decide +kernel
theorem dL_law_906 : decode cL_law 906 = .ok (.aload_n 0, 1) := by decide +kernel
theorem dL_law_907 : decode cL_law 907 = .ok (.iload_n 3, 1) := by decide +kernel
theorem dL_law_908 : decode cL_law 908 = .ok (.iconst 1, 1) := by decide +kernel
theorem dL_law_909 : decode cL_law 909 = .ok (.iadd, 1) := by decide +kernel
theorem dL_law_910 : decode cL_law 910 = .ok (.iaload, 1) := by decide +kernel
theorem dL_law_911 : decode cL_law 911 = .ok (.invokevirtual 116, 3) := by decide +kernel
theorem dL_law_914 : decode cL_law 914 = .ok (.if_icmp .eq 438, 3) := by decide +kernel
theorem dL_law_917 : decode cL_law 917 = .ok (.iconst 0, 1) := by decide +kernel
theorem dL_law_918 : decode cL_law 918 = .ok (.ireturn, 1) := by decide +kernel
theorem dL_law_919 : decode cL_law 919 = .ok (.aload_n 1, 1) := by decide +kernel
theorem dL_law_920 : decode cL_law 920 = .ok (.aload_n 0, 1) := by decide +kernel
theorem dL_law_921 : decode cL_law 921 = .ok (.iload_n 3, 1) := by decide +kernel
theorem dL_law_922 : decode cL_law 922 = .ok (.iconst 1, 1) := by decide +kernel
theorem dL_law_923 : decode cL_law 923 = .ok (.iadd, 1) := by decide +kernel
theorem dL_law_924 : decode cL_law 924 = .ok (.iaload, 1) := by decide +kernel
theorem dL_law_925 : decode cL_law 925 = .ok (.aload_n 0, 1) := by decide +kernel
theorem dL_law_926 : decode cL_law 926 = .ok (.iload_n 3, 1) := by decide +kernel
theorem dL_law_927 : decode cL_law 927 = .ok (.iconst 2, 1) := by decide +kernel
theorem dL_law_928 : decode cL_law 928 = .ok (.iadd, 1) := by decide +kernel
theorem dL_law_929 : decode cL_law 929 = .ok (.iaload, 1) := by decide +kernel
theorem dL_law_930 : decode cL_law 930 = .ok (.invokevirtual 117, 3) := by decide +kernel
theorem dL_law_933 : decode cL_law 933 = .ok (.aload_n 2, 1) := by decide +kernel
theorem dL_law_934 : decode cL_law 934 = .ok (.aload_n 0, 1) := by decide +kernel
theorem dL_law_935 : decode cL_law 935 = .ok (.iload_n 3, 1) := by decide +kernel
theorem dL_law_936 : decode cL_law 936 = .ok (.iconst 1, 1) := by decide +kernel
theorem dL_law_937 : decode cL_law 937 = .ok (.iadd, 1) := by decide +kernel
theorem dL_law_938 : decode cL_law 938 = .ok (.iaload, 1) := by decide +kernel
theorem dL_law_939 : decode cL_law 939 = .ok (.aload_n 0, 1) := by decide +kernel
theorem dL_law_940 : decode cL_law 940 = .ok (.iload_n 3, 1) := by decide +kernel
theorem dL_law_941 : decode cL_law 941 = .ok (.iconst 2, 1) := by decide +kernel
theorem dL_law_942 : decode cL_law 942 = .ok (.iadd, 1) := by decide +kernel
theorem dL_law_943 : decode cL_law 943 = .ok (.iaload, 1) := by decide +kernel
theorem dL_law_944 : decode cL_law 944 = .ok (.invokevirtual 120, 3) := by decide +kernel
theorem dL_law_947 : decode cL_law 947 = .ok (.if_icmp .eq 405, 3) := by decide +kernel
theorem dL_law_950 : decode cL_law 950 = .ok (.iconst 0, 1) := by decide +kernel
theorem dL_law_951 : decode cL_law 951 = .ok (.ireturn, 1) := by decide +kernel
theorem dL_law_952 : decode cL_law 952 = .ok (.aload_n 1, 1) := by decide +kernel
theorem dL_law_953 : decode cL_law 953 = .ok (.invokevirtual 121, 3) := by decide +kernel
theorem dL_law_956 : decode cL_law 956 = .ok (.aload_n 2, 1) := by decide +kernel
theorem dL_law_957 : decode cL_law 957 = .ok (.invokevirtual 124, 3) := by decide +kernel
theorem dL_law_960 : decode cL_law 960 = .ok (.if_icmp .eq 392, 3) := by decide +kernel
theorem dL_law_963 : decode cL_law 963 = .ok (.iconst 0, 1) := by decide +kernel
theorem dL_law_964 : decode cL_law 964 = .ok (.ireturn, 1) := by decide +kernel
theorem dL_law_965 : decode cL_law 965 = .ok (.aload_n 1, 1) := by decide +kernel
theorem dL_law_966 : decode cL_law 966 = .ok (.invokevirtual 125, 3) := by decide +kernel
theorem dL_law_969 : decode cL_law 969 = .ok (.aload_n 2, 1) := by decide +kernel
theorem dL_law_970 : decode cL_law 970 = .ok (.invokevirtual 128, 3) := by decide +kernel
theorem dL_law_973 : decode cL_law 973 = .ok (.if_icmp .eq 379, 3) := by decide +kernel
theorem dL_law_976 : decode cL_law 976 = .ok (.iconst 0, 1) := by decide +kernel
theorem dL_law_977 : decode cL_law 977 = .ok (.ireturn, 1) := by decide +kernel
theorem dL_law_978 : decode cL_law 978 = .ok (.aload_n 1, 1) := by decide +kernel
theorem dL_law_979 : decode cL_law 979 = .ok (.aload_n 0, 1) := by decide +kernel
theorem dL_law_980 : decode cL_law 980 = .ok (.iload_n 3, 1) := by decide +kernel
theorem dL_law_981 : decode cL_law 981 = .ok (.iconst 1, 1) := by decide +kernel
theorem dL_law_982 : decode cL_law 982 = .ok (.iadd, 1) := by decide +kernel
theorem dL_law_983 : decode cL_law 983 = .ok (.iaload, 1) := by decide +kernel
theorem dL_law_984 : decode cL_law 984 = .ok (.aload_n 0, 1) := by decide +kernel
theorem dL_law_985 : decode cL_law 985 = .ok (.iload_n 3, 1) := by decide +kernel
theorem dL_law_986 : decode cL_law 986 = .ok (.iconst 2, 1) := by decide +kernel
theorem dL_law_987 : decode cL_law 987 = .ok (.iadd, 1) := by decide +kernel
theorem dL_law_988 : decode cL_law 988 = .ok (.iaload, 1) := by decide +kernel
theorem dL_law_989 : decode cL_law 989 = .ok (.aload_n 0, 1) := by decide +kernel
theorem dL_law_990 : decode cL_law 990 = .ok (.iload_n 3, 1) := by decide +kernel
theorem dL_law_991 : decode cL_law 991 = .ok (.iconst 3, 1) := by decide +kernel
theorem dL_law_992 : decode cL_law 992 = .ok (.iadd, 1) := by decide +kernel
theorem dL_law_993 : decode cL_law 993 = .ok (.iaload, 1) := by decide +kernel
theorem dL_law_994 : decode cL_law 994 = .ok (.invokevirtual 129, 3) := by decide +kernel
theorem dL_law_997 : decode cL_law 997 = .ok (.aload_n 2, 1) := by decide +kernel
theorem dL_law_998 : decode cL_law 998 = .ok (.aload_n 0, 1) := by decide +kernel
theorem dL_law_999 : decode cL_law 999 = .ok (.iload_n 3, 1) := by decide +kernel
theorem dL_law_1000 : decode cL_law 1000 = .ok (.iconst 1, 1) := by decide +kernel
theorem dL_law_1001 : decode cL_law 1001 = .ok (.iadd, 1) := by decide +kernel
theorem dL_law_1002 : decode cL_law 1002 = .ok (.iaload, 1) := by decide +kernel
theorem dL_law_1003 : decode cL_law 1003 = .ok (.aload_n 0, 1) := by decide +kernel
theorem dL_law_1004 : decode cL_law 1004 = .ok (.iload_n 3, 1) := by decide +kernel
theorem dL_law_1005 : decode cL_law 1005 = .ok (.iconst 2, 1) := by decide +kernel
theorem dL_law_1006 : decode cL_law 1006 = .ok (.iadd, 1) := by decide +kernel
theorem dL_law_1007 : decode cL_law 1007 = .ok (.iaload, 1) := by decide +kernel
theorem dL_law_1008 : decode cL_law 1008 = .ok (.aload_n 0, 1) := by decide +kernel
theorem dL_law_1009 : decode cL_law 1009 = .ok (.iload_n 3, 1) := by decide +kernel
theorem dL_law_1010 : decode cL_law 1010 = .ok (.iconst 3, 1) := by decide +kernel
theorem dL_law_1011 : decode cL_law 1011 = .ok (.iadd, 1) := by decide +kernel
theorem dL_law_1012 : decode cL_law 1012 = .ok (.iaload, 1) := by decide +kernel
theorem dL_law_1013 : decode cL_law 1013 = .ok (.invokevirtual 132, 3) := by decide +kernel
theorem dL_law_1016 : decode cL_law 1016 = .ok (.if_icmp .eq 336, 3) := by decide +kernel
theorem dL_law_1019 : decode cL_law 1019 = .ok (.iconst 0, 1) := by decide +kernel
theorem dL_law_1020 : decode cL_law 1020 = .ok (.ireturn, 1) := by decide +kernel
theorem dL_law_1021 : decode cL_law 1021 = .ok (.aload_n 1, 1) := by decide +kernel
theorem dL_law_1022 : decode cL_law 1022 = .ok (.aload_n 0, 1) := by decide +kernel
theorem dL_law_1023 : decode cL_law 1023 = .ok (.iload_n 3, 1) := by decide +kernel
theorem dL_law_1024 : decode cL_law 1024 = .ok (.iconst 1, 1) := by decide +kernel
theorem dL_law_1025 : decode cL_law 1025 = .ok (.iadd, 1) := by decide +kernel
theorem dL_law_1026 : decode cL_law 1026 = .ok (.iaload, 1) := by decide +kernel
theorem dL_law_1027 : decode cL_law 1027 = .ok (.aload_n 0, 1) := by decide +kernel
theorem dL_law_1028 : decode cL_law 1028 = .ok (.iload_n 3, 1) := by decide +kernel
theorem dL_law_1029 : decode cL_law 1029 = .ok (.iconst 2, 1) := by decide +kernel
theorem dL_law_1030 : decode cL_law 1030 = .ok (.iadd, 1) := by decide +kernel
theorem dL_law_1031 : decode cL_law 1031 = .ok (.iaload, 1) := by decide +kernel
theorem dL_law_1032 : decode cL_law 1032 = .ok (.aload_n 0, 1) := by decide +kernel
theorem dL_law_1033 : decode cL_law 1033 = .ok (.iload_n 3, 1) := by decide +kernel
theorem dL_law_1034 : decode cL_law 1034 = .ok (.iconst 3, 1) := by decide +kernel
theorem dL_law_1035 : decode cL_law 1035 = .ok (.iadd, 1) := by decide +kernel
theorem dL_law_1036 : decode cL_law 1036 = .ok (.iaload, 1) := by decide +kernel
theorem dL_law_1037 : decode cL_law 1037 = .ok (.i2l, 1) := by decide +kernel
theorem dL_law_1038 : decode cL_law 1038 = .ok (.bipush 32, 2) := by decide +kernel
theorem dL_law_1040 : decode cL_law 1040 = .ok (.lshl, 1) := by decide +kernel
theorem dL_law_1041 : decode cL_law 1041 = .ok (.aload_n 0, 1) := by decide +kernel
theorem dL_law_1042 : decode cL_law 1042 = .ok (.iload_n 3, 1) := by decide +kernel
theorem dL_law_1043 : decode cL_law 1043 = .ok (.iconst 4, 1) := by decide +kernel
theorem dL_law_1044 : decode cL_law 1044 = .ok (.iadd, 1) := by decide +kernel
theorem dL_law_1045 : decode cL_law 1045 = .ok (.iaload, 1) := by decide +kernel
theorem dL_law_1046 : decode cL_law 1046 = .ok (.i2l, 1) := by decide +kernel
theorem dL_law_1047 : decode cL_law 1047 = .ok (.ldc2_w 133, 3) := by decide +kernel
theorem dL_law_1050 : decode cL_law 1050 = .ok (.land, 1) := by decide +kernel
theorem dL_law_1051 : decode cL_law 1051 = .ok (.lor, 1) := by decide +kernel
theorem dL_law_1052 : decode cL_law 1052 = .ok (.invokevirtual 135, 3) := by decide +kernel
theorem dL_law_1055 : decode cL_law 1055 = .ok (.aload_n 2, 1) := by decide +kernel
theorem dL_law_1056 : decode cL_law 1056 = .ok (.aload_n 0, 1) := by decide +kernel
theorem dL_law_1057 : decode cL_law 1057 = .ok (.iload_n 3, 1) := by decide +kernel
theorem dL_law_1058 : decode cL_law 1058 = .ok (.iconst 1, 1) := by decide +kernel
theorem dL_law_1059 : decode cL_law 1059 = .ok (.iadd, 1) := by decide +kernel
theorem dL_law_1060 : decode cL_law 1060 = .ok (.iaload, 1) := by decide +kernel
theorem dL_law_1061 : decode cL_law 1061 = .ok (.aload_n 0, 1) := by decide +kernel
theorem dL_law_1062 : decode cL_law 1062 = .ok (.iload_n 3, 1) := by decide +kernel
theorem dL_law_1063 : decode cL_law 1063 = .ok (.iconst 2, 1) := by decide +kernel
theorem dL_law_1064 : decode cL_law 1064 = .ok (.iadd, 1) := by decide +kernel
theorem dL_law_1065 : decode cL_law 1065 = .ok (.iaload, 1) := by decide +kernel
theorem dL_law_1066 : decode cL_law 1066 = .ok (.aload_n 0, 1) := by decide +kernel
theorem dL_law_1067 : decode cL_law 1067 = .ok (.iload_n 3, 1) := by decide +kernel
theorem dL_law_1068 : decode cL_law 1068 = .ok (.iconst 3, 1) := by decide +kernel
theorem dL_law_1069 : decode cL_law 1069 = .ok (.iadd, 1) := by decide +kernel
theorem dL_law_1070 : decode cL_law 1070 = .ok (.iaload, 1) := by decide +kernel
theorem dL_law_1071 : decode cL_law 1071 = .ok (.i2l, 1) := by decide +kernel
theorem dL_law_1072 : decode cL_law 1072 = .ok (.bipush 32, 2) := by decide +kernel
theorem dL_law_1074 : decode cL_law 1074 = .ok (.lshl, 1) := by decide +kernel
theorem dL_law_1075 : decode cL_law 1075 = .ok (.aload_n 0, 1) := by decide +kernel
theorem dL_law_1076 : decode cL_law 1076 = .ok (.iload_n 3, 1) := by decide +kernel
theorem dL_law_1077 : decode cL_law 1077 = .ok (.iconst 4, 1) := by decide +kernel
theorem dL_law_1078 : decode cL_law 1078 = .ok (.iadd, 1) := by decide +kernel
theorem dL_law_1079 : decode cL_law 1079 = .ok (.iaload, 1) := by decide +kernel
theorem dL_law_1080 : decode cL_law 1080 = .ok (.i2l, 1) := by decide +kernel
theorem dL_law_1081 : decode cL_law 1081 = .ok (.ldc2_w 133, 3) := by decide +kernel
theorem dL_law_1084 : decode cL_law 1084 = .ok (.land, 1) := by decide +kernel
theorem dL_law_1085 : decode cL_law 1085 = .ok (.lor, 1) := by decide +kernel
theorem dL_law_1086 : decode cL_law 1086 = .ok (.invokevirtual 139, 3) := by decide +kernel
theorem dL_law_1089 : decode cL_law 1089 = .ok (.lcmp, 1) := by decide +kernel
theorem dL_law_1090 : decode cL_law 1090 = .ok (.ifCond .eq 262, 3) := by decide +kernel
theorem dL_law_1093 : decode cL_law 1093 = .ok (.iconst 0, 1) := by decide +kernel
theorem dL_law_1094 : decode cL_law 1094 = .ok (.ireturn, 1) := by decide +kernel
theorem dL_law_1095 : decode cL_law 1095 = .ok (.aload_n 1, 1) := by decide +kernel
theorem dL_law_1096 : decode cL_law 1096 = .ok (.aload_n 0, 1) := by decide +kernel
theorem dL_law_1097 : decode cL_law 1097 = .ok (.iload_n 3, 1) := by decide +kernel
theorem dL_law_1098 : decode cL_law 1098 = .ok (.iconst 1, 1) := by decide +kernel
theorem dL_law_1099 : decode cL_law 1099 = .ok (.iadd, 1) := by decide +kernel
theorem dL_law_1100 : decode cL_law 1100 = .ok (.iaload, 1) := by decide +kernel
theorem dL_law_1101 : decode cL_law 1101 = .ok (.aload_n 0, 1) := by decide +kernel
theorem dL_law_1102 : decode cL_law 1102 = .ok (.iload_n 3, 1) := by decide +kernel
theorem dL_law_1103 : decode cL_law 1103 = .ok (.iconst 2, 1) := by decide +kernel
theorem dL_law_1104 : decode cL_law 1104 = .ok (.iadd, 1) := by decide +kernel
theorem dL_law_1105 : decode cL_law 1105 = .ok (.iaload, 1) := by decide +kernel
theorem dL_law_1106 : decode cL_law 1106 = .ok (.aload_n 0, 1) := by decide +kernel
theorem dL_law_1107 : decode cL_law 1107 = .ok (.iload_n 3, 1) := by decide +kernel
theorem dL_law_1108 : decode cL_law 1108 = .ok (.iconst 3, 1) := by decide +kernel
theorem dL_law_1109 : decode cL_law 1109 = .ok (.iadd, 1) := by decide +kernel
theorem dL_law_1110 : decode cL_law 1110 = .ok (.iaload, 1) := by decide +kernel
theorem dL_law_1111 : decode cL_law 1111 = .ok (.aload_n 0, 1) := by decide +kernel
theorem dL_law_1112 : decode cL_law 1112 = .ok (.iload_n 3, 1) := by decide +kernel
theorem dL_law_1113 : decode cL_law 1113 = .ok (.iconst 4, 1) := by decide +kernel
theorem dL_law_1114 : decode cL_law 1114 = .ok (.iadd, 1) := by decide +kernel
theorem dL_law_1115 : decode cL_law 1115 = .ok (.iaload, 1) := by decide +kernel
theorem dL_law_1116 : decode cL_law 1116 = .ok (.aload_n 0, 1) := by decide +kernel
theorem dL_law_1117 : decode cL_law 1117 = .ok (.iload_n 3, 1) := by decide +kernel
theorem dL_law_1118 : decode cL_law 1118 = .ok (.iconst 5, 1) := by decide +kernel
theorem dL_law_1119 : decode cL_law 1119 = .ok (.iadd, 1) := by decide +kernel
theorem dL_law_1120 : decode cL_law 1120 = .ok (.iaload, 1) := by decide +kernel
theorem dL_law_1121 : decode cL_law 1121 = .ok (.invokevirtual 140, 3) := by decide +kernel
theorem dL_law_1124 : decode cL_law 1124 = .ok (.aload_n 2, 1) := by decide +kernel
theorem dL_law_1125 : decode cL_law 1125 = .ok (.aload_n 0, 1) := by decide +kernel
theorem dL_law_1126 : decode cL_law 1126 = .ok (.iload_n 3, 1) := by decide +kernel
theorem dL_law_1127 : decode cL_law 1127 = .ok (.iconst 1, 1) := by decide +kernel
theorem dL_law_1128 : decode cL_law 1128 = .ok (.iadd, 1) := by decide +kernel
theorem dL_law_1129 : decode cL_law 1129 = .ok (.iaload, 1) := by decide +kernel
theorem dL_law_1130 : decode cL_law 1130 = .ok (.aload_n 0, 1) := by decide +kernel
theorem dL_law_1131 : decode cL_law 1131 = .ok (.iload_n 3, 1) := by decide +kernel
theorem dL_law_1132 : decode cL_law 1132 = .ok (.iconst 2, 1) := by decide +kernel
theorem dL_law_1133 : decode cL_law 1133 = .ok (.iadd, 1) := by decide +kernel
theorem dL_law_1134 : decode cL_law 1134 = .ok (.iaload, 1) := by decide +kernel
theorem dL_law_1135 : decode cL_law 1135 = .ok (.aload_n 0, 1) := by decide +kernel
theorem dL_law_1136 : decode cL_law 1136 = .ok (.iload_n 3, 1) := by decide +kernel
theorem dL_law_1137 : decode cL_law 1137 = .ok (.iconst 3, 1) := by decide +kernel
theorem dL_law_1138 : decode cL_law 1138 = .ok (.iadd, 1) := by decide +kernel
theorem dL_law_1139 : decode cL_law 1139 = .ok (.iaload, 1) := by decide +kernel
theorem dL_law_1140 : decode cL_law 1140 = .ok (.aload_n 0, 1) := by decide +kernel
theorem dL_law_1141 : decode cL_law 1141 = .ok (.iload_n 3, 1) := by decide +kernel
theorem dL_law_1142 : decode cL_law 1142 = .ok (.iconst 4, 1) := by decide +kernel
theorem dL_law_1143 : decode cL_law 1143 = .ok (.iadd, 1) := by decide +kernel
theorem dL_law_1144 : decode cL_law 1144 = .ok (.iaload, 1) := by decide +kernel
theorem dL_law_1145 : decode cL_law 1145 = .ok (.aload_n 0, 1) := by decide +kernel
theorem dL_law_1146 : decode cL_law 1146 = .ok (.iload_n 3, 1) := by decide +kernel
theorem dL_law_1147 : decode cL_law 1147 = .ok (.iconst 5, 1) := by decide +kernel
theorem dL_law_1148 : decode cL_law 1148 = .ok (.iadd, 1) := by decide +kernel
theorem dL_law_1149 : decode cL_law 1149 = .ok (.iaload, 1) := by decide +kernel
theorem dL_law_1150 : decode cL_law 1150 = .ok (.invokevirtual 144, 3) := by decide +kernel
theorem dL_law_1153 : decode cL_law 1153 = .ok (.if_icmp .eq 199, 3) := by decide +kernel
theorem dL_law_1156 : decode cL_law 1156 = .ok (.iconst 0, 1) := by decide +kernel
theorem dL_law_1157 : decode cL_law 1157 = .ok (.ireturn, 1) := by decide +kernel
theorem dL_law_1158 : decode cL_law 1158 = .ok (.aload_n 1, 1) := by decide +kernel
theorem dL_law_1159 : decode cL_law 1159 = .ok (.aload_n 0, 1) := by decide +kernel
theorem dL_law_1160 : decode cL_law 1160 = .ok (.iload_n 3, 1) := by decide +kernel
theorem dL_law_1161 : decode cL_law 1161 = .ok (.iconst 1, 1) := by decide +kernel
theorem dL_law_1162 : decode cL_law 1162 = .ok (.iadd, 1) := by decide +kernel
theorem dL_law_1163 : decode cL_law 1163 = .ok (.iaload, 1) := by decide +kernel
theorem dL_law_1164 : decode cL_law 1164 = .ok (.aload_n 0, 1) := by decide +kernel
theorem dL_law_1165 : decode cL_law 1165 = .ok (.iload_n 3, 1) := by decide +kernel
theorem dL_law_1166 : decode cL_law 1166 = .ok (.iconst 2, 1) := by decide +kernel
theorem dL_law_1167 : decode cL_law 1167 = .ok (.iadd, 1) := by decide +kernel
theorem dL_law_1168 : decode cL_law 1168 = .ok (.iaload, 1) := by decide +kernel
theorem dL_law_1169 : decode cL_law 1169 = .ok (.invokevirtual 145, 3) := by decide +kernel
theorem dL_law_1172 : decode cL_law 1172 = .ok (.aload_n 2, 1) := by decide +kernel
theorem dL_law_1173 : decode cL_law 1173 = .ok (.aload_n 0, 1) := by decide +kernel
theorem dL_law_1174 : decode cL_law 1174 = .ok (.iload_n 3, 1) := by decide +kernel
theorem dL_law_1175 : decode cL_law 1175 = .ok (.iconst 1, 1) := by decide +kernel
theorem dL_law_1176 : decode cL_law 1176 = .ok (.iadd, 1) := by decide +kernel
theorem dL_law_1177 : decode cL_law 1177 = .ok (.iaload, 1) := by decide +kernel
theorem dL_law_1178 : decode cL_law 1178 = .ok (.aload_n 0, 1) := by decide +kernel
theorem dL_law_1179 : decode cL_law 1179 = .ok (.iload_n 3, 1) := by decide +kernel
theorem dL_law_1180 : decode cL_law 1180 = .ok (.iconst 2, 1) := by decide +kernel
theorem dL_law_1181 : decode cL_law 1181 = .ok (.iadd, 1) := by decide +kernel
theorem dL_law_1182 : decode cL_law 1182 = .ok (.iaload, 1) := by decide +kernel
theorem dL_law_1183 : decode cL_law 1183 = .ok (.invokevirtual 148, 3) := by decide +kernel
theorem dL_law_1186 : decode cL_law 1186 = .ok (.if_icmp .eq 166, 3) := by decide +kernel
theorem dL_law_1189 : decode cL_law 1189 = .ok (.iconst 0, 1) := by decide +kernel
theorem dL_law_1190 : decode cL_law 1190 = .ok (.ireturn, 1) := by decide +kernel
theorem dL_law_1191 : decode cL_law 1191 = .ok (.aload_n 1, 1) := by decide +kernel
theorem dL_law_1192 : decode cL_law 1192 = .ok (.aload_n 0, 1) := by decide +kernel
theorem dL_law_1193 : decode cL_law 1193 = .ok (.iload_n 3, 1) := by decide +kernel
theorem dL_law_1194 : decode cL_law 1194 = .ok (.iconst 1, 1) := by decide +kernel
theorem dL_law_1195 : decode cL_law 1195 = .ok (.iadd, 1) := by decide +kernel
theorem dL_law_1196 : decode cL_law 1196 = .ok (.iaload, 1) := by decide +kernel
theorem dL_law_1197 : decode cL_law 1197 = .ok (.aload_n 0, 1) := by decide +kernel
theorem dL_law_1198 : decode cL_law 1198 = .ok (.iload_n 3, 1) := by decide +kernel
theorem dL_law_1199 : decode cL_law 1199 = .ok (.iconst 2, 1) := by decide +kernel
theorem dL_law_1200 : decode cL_law 1200 = .ok (.iadd, 1) := by decide +kernel
theorem dL_law_1201 : decode cL_law 1201 = .ok (.iaload, 1) := by decide +kernel
theorem dL_law_1202 : decode cL_law 1202 = .ok (.invokevirtual 149, 3) := by decide +kernel
theorem dL_law_1205 : decode cL_law 1205 = .ok (.aload_n 2, 1) := by decide +kernel
theorem dL_law_1206 : decode cL_law 1206 = .ok (.aload_n 0, 1) := by decide +kernel
theorem dL_law_1207 : decode cL_law 1207 = .ok (.iload_n 3, 1) := by decide +kernel
theorem dL_law_1208 : decode cL_law 1208 = .ok (.iconst 1, 1) := by decide +kernel
theorem dL_law_1209 : decode cL_law 1209 = .ok (.iadd, 1) := by decide +kernel
theorem dL_law_1210 : decode cL_law 1210 = .ok (.iaload, 1) := by decide +kernel
theorem dL_law_1211 : decode cL_law 1211 = .ok (.aload_n 0, 1) := by decide +kernel
theorem dL_law_1212 : decode cL_law 1212 = .ok (.iload_n 3, 1) := by decide +kernel
theorem dL_law_1213 : decode cL_law 1213 = .ok (.iconst 2, 1) := by decide +kernel
theorem dL_law_1214 : decode cL_law 1214 = .ok (.iadd, 1) := by decide +kernel
theorem dL_law_1215 : decode cL_law 1215 = .ok (.iaload, 1) := by decide +kernel
theorem dL_law_1216 : decode cL_law 1216 = .ok (.invokevirtual 152, 3) := by decide +kernel
theorem dL_law_1219 : decode cL_law 1219 = .ok (.if_icmp .eq 133, 3) := by decide +kernel
theorem dL_law_1222 : decode cL_law 1222 = .ok (.iconst 0, 1) := by decide +kernel
theorem dL_law_1223 : decode cL_law 1223 = .ok (.ireturn, 1) := by decide +kernel
theorem dL_law_1224 : decode cL_law 1224 = .ok (.aload_n 1, 1) := by decide +kernel
theorem dL_law_1225 : decode cL_law 1225 = .ok (.aload_n 0, 1) := by decide +kernel
theorem dL_law_1226 : decode cL_law 1226 = .ok (.iload_n 3, 1) := by decide +kernel
theorem dL_law_1227 : decode cL_law 1227 = .ok (.iconst 1, 1) := by decide +kernel
theorem dL_law_1228 : decode cL_law 1228 = .ok (.iadd, 1) := by decide +kernel
theorem dL_law_1229 : decode cL_law 1229 = .ok (.iaload, 1) := by decide +kernel
theorem dL_law_1230 : decode cL_law 1230 = .ok (.aload_n 0, 1) := by decide +kernel
theorem dL_law_1231 : decode cL_law 1231 = .ok (.iload_n 3, 1) := by decide +kernel
theorem dL_law_1232 : decode cL_law 1232 = .ok (.iconst 2, 1) := by decide +kernel
theorem dL_law_1233 : decode cL_law 1233 = .ok (.iadd, 1) := by decide +kernel
theorem dL_law_1234 : decode cL_law 1234 = .ok (.iaload, 1) := by decide +kernel
theorem dL_law_1235 : decode cL_law 1235 = .ok (.aload_n 0, 1) := by decide +kernel
theorem dL_law_1236 : decode cL_law 1236 = .ok (.iload_n 3, 1) := by decide +kernel
theorem dL_law_1237 : decode cL_law 1237 = .ok (.iconst 3, 1) := by decide +kernel
theorem dL_law_1238 : decode cL_law 1238 = .ok (.iadd, 1) := by decide +kernel
theorem dL_law_1239 : decode cL_law 1239 = .ok (.iaload, 1) := by decide +kernel
theorem dL_law_1240 : decode cL_law 1240 = .ok (.invokevirtual 153, 3) := by decide +kernel
theorem dL_law_1243 : decode cL_law 1243 = .ok (.aload_n 2, 1) := by decide +kernel
theorem dL_law_1244 : decode cL_law 1244 = .ok (.aload_n 0, 1) := by decide +kernel
theorem dL_law_1245 : decode cL_law 1245 = .ok (.iload_n 3, 1) := by decide +kernel
theorem dL_law_1246 : decode cL_law 1246 = .ok (.iconst 1, 1) := by decide +kernel
theorem dL_law_1247 : decode cL_law 1247 = .ok (.iadd, 1) := by decide +kernel
theorem dL_law_1248 : decode cL_law 1248 = .ok (.iaload, 1) := by decide +kernel
theorem dL_law_1249 : decode cL_law 1249 = .ok (.aload_n 0, 1) := by decide +kernel
theorem dL_law_1250 : decode cL_law 1250 = .ok (.iload_n 3, 1) := by decide +kernel
theorem dL_law_1251 : decode cL_law 1251 = .ok (.iconst 2, 1) := by decide +kernel
theorem dL_law_1252 : decode cL_law 1252 = .ok (.iadd, 1) := by decide +kernel
theorem dL_law_1253 : decode cL_law 1253 = .ok (.iaload, 1) := by decide +kernel
theorem dL_law_1254 : decode cL_law 1254 = .ok (.aload_n 0, 1) := by decide +kernel
theorem dL_law_1255 : decode cL_law 1255 = .ok (.iload_n 3, 1) := by decide +kernel
theorem dL_law_1256 : decode cL_law 1256 = .ok (.iconst 3, 1) := by decide +kernel
theorem dL_law_1257 : decode cL_law 1257 = .ok (.iadd, 1) := by decide +kernel
theorem dL_law_1258 : decode cL_law 1258 = .ok (.iaload, 1) := by decide +kernel
theorem dL_law_1259 : decode cL_law 1259 = .ok (.invokevirtual 156, 3) := by decide +kernel
theorem dL_law_1262 : decode cL_law 1262 = .ok (.if_icmp .eq 90, 3) := by decide +kernel
theorem dL_law_1265 : decode cL_law 1265 = .ok (.iconst 0, 1) := by decide +kernel
theorem dL_law_1266 : decode cL_law 1266 = .ok (.ireturn, 1) := by decide +kernel
theorem dL_law_1267 : decode cL_law 1267 = .ok (.aload_n 1, 1) := by decide +kernel
theorem dL_law_1268 : decode cL_law 1268 = .ok (.invokevirtual 157, 3) := by decide +kernel
theorem dL_law_1271 : decode cL_law 1271 = .ok (.aload_n 2, 1) := by decide +kernel
theorem dL_law_1272 : decode cL_law 1272 = .ok (.invokevirtual 160, 3) := by decide +kernel
theorem dL_law_1275 : decode cL_law 1275 = .ok (.if_icmp .eq 77, 3) := by decide +kernel
theorem dL_law_1278 : decode cL_law 1278 = .ok (.iconst 0, 1) := by decide +kernel
theorem dL_law_1279 : decode cL_law 1279 = .ok (.ireturn, 1) := by decide +kernel
theorem dL_law_1280 : decode cL_law 1280 = .ok (.aload_n 1, 1) := by decide +kernel
theorem dL_law_1281 : decode cL_law 1281 = .ok (.invokevirtual 161, 3) := by decide +kernel
theorem dL_law_1284 : decode cL_law 1284 = .ok (.aload_n 2, 1) := by decide +kernel
theorem dL_law_1285 : decode cL_law 1285 = .ok (.invokevirtual 164, 3) := by decide +kernel
theorem dL_law_1288 : decode cL_law 1288 = .ok (.if_icmp .eq 64, 3) := by decide +kernel
theorem dL_law_1291 : decode cL_law 1291 = .ok (.iconst 0, 1) := by decide +kernel
theorem dL_law_1292 : decode cL_law 1292 = .ok (.ireturn, 1) := by decide +kernel
theorem dL_law_1293 : decode cL_law 1293 = .ok (.aload_n 1, 1) := by decide +kernel
theorem dL_law_1294 : decode cL_law 1294 = .ok (.invokevirtual 165, 3) := by decide +kernel
theorem dL_law_1297 : decode cL_law 1297 = .ok (.aload_n 2, 1) := by decide +kernel
theorem dL_law_1298 : decode cL_law 1298 = .ok (.invokevirtual 168, 3) := by decide +kernel
theorem dL_law_1301 : decode cL_law 1301 = .ok (.if_icmp .eq 51, 3) := by decide +kernel
theorem dL_law_1304 : decode cL_law 1304 = .ok (.iconst 0, 1) := by decide +kernel
theorem dL_law_1305 : decode cL_law 1305 = .ok (.ireturn, 1) := by decide +kernel
theorem dL_law_1306 : decode cL_law 1306 = .ok (.aload_n 1, 1) := by decide +kernel
theorem dL_law_1307 : decode cL_law 1307 = .ok (.aload_n 0, 1) := by decide +kernel
theorem dL_law_1308 : decode cL_law 1308 = .ok (.iload_n 3, 1) := by decide +kernel
theorem dL_law_1309 : decode cL_law 1309 = .ok (.iconst 1, 1) := by decide +kernel
theorem dL_law_1310 : decode cL_law 1310 = .ok (.iadd, 1) := by decide +kernel
theorem dL_law_1311 : decode cL_law 1311 = .ok (.iaload, 1) := by decide +kernel
theorem dL_law_1312 : decode cL_law 1312 = .ok (.invokevirtual 169, 3) := by decide +kernel
theorem dL_law_1315 : decode cL_law 1315 = .ok (.aload_n 2, 1) := by decide +kernel
theorem dL_law_1316 : decode cL_law 1316 = .ok (.aload_n 0, 1) := by decide +kernel
theorem dL_law_1317 : decode cL_law 1317 = .ok (.iload_n 3, 1) := by decide +kernel
theorem dL_law_1318 : decode cL_law 1318 = .ok (.iconst 1, 1) := by decide +kernel
theorem dL_law_1319 : decode cL_law 1319 = .ok (.iadd, 1) := by decide +kernel
theorem dL_law_1320 : decode cL_law 1320 = .ok (.iaload, 1) := by decide +kernel
theorem dL_law_1321 : decode cL_law 1321 = .ok (.invokevirtual 172, 3) := by decide +kernel
theorem dL_law_1324 : decode cL_law 1324 = .ok (.if_icmp .eq 28, 3) := by decide +kernel
theorem dL_law_1327 : decode cL_law 1327 = .ok (.iconst 0, 1) := by decide +kernel
theorem dL_law_1328 : decode cL_law 1328 = .ok (.ireturn, 1) := by decide +kernel
theorem dL_law_1329 : decode cL_law 1329 = .ok (.aload_n 1, 1) := by decide +kernel
theorem dL_law_1330 : decode cL_law 1330 = .ok (.aload_n 0, 1) := by decide +kernel
theorem dL_law_1331 : decode cL_law 1331 = .ok (.iload_n 3, 1) := by decide +kernel
theorem dL_law_1332 : decode cL_law 1332 = .ok (.iconst 1, 1) := by decide +kernel
theorem dL_law_1333 : decode cL_law 1333 = .ok (.iadd, 1) := by decide +kernel
theorem dL_law_1334 : decode cL_law 1334 = .ok (.iaload, 1) := by decide +kernel
theorem dL_law_1335 : decode cL_law 1335 = .ok (.invokevirtual 173, 3) := by decide +kernel
theorem dL_law_1338 : decode cL_law 1338 = .ok (.aload_n 2, 1) := by decide +kernel
theorem dL_law_1339 : decode cL_law 1339 = .ok (.aload_n 0, 1) := by decide +kernel
theorem dL_law_1340 : decode cL_law 1340 = .ok (.iload_n 3, 1) := by decide +kernel
theorem dL_law_1341 : decode cL_law 1341 = .ok (.iconst 1, 1) := by decide +kernel
theorem dL_law_1342 : decode cL_law 1342 = .ok (.iadd, 1) := by decide +kernel
theorem dL_law_1343 : decode cL_law 1343 = .ok (.iaload, 1) := by decide +kernel
theorem dL_law_1344 : decode cL_law 1344 = .ok (.invokevirtual 176, 3) := by decide +kernel
theorem dL_law_1347 : decode cL_law 1347 = .ok (.if_icmp .eq 5, 3) := by decide +kernel
theorem dL_law_1350 : decode cL_law 1350 = .ok (.iconst 0, 1) := by decide +kernel
theorem dL_law_1351 : decode cL_law 1351 = .ok (.ireturn, 1) := by decide +kernel
theorem dL_law_1352 : decode cL_law 1352 = .ok (.iinc 3 6, 3) := by decide +kernel
theorem dL_law_1355 : decode cL_law 1355 = .ok (.goto (-1337), 3) := by decide +kernel
theorem dL_law_1358 : decode cL_law 1358 = .ok (.iconst 1, 1) := by decide +kernel
theorem dL_law_1359 : decode cL_law 1359 = .ok (.ireturn, 1) := by decide +kernel
end
section
/-! words -/
def Mw : List Cond := lw_tbl.filter goodWord
theorem Mw_at (i : Nat) {w : Cond} (h : lw_tbl[i]? = some w) (g : goodWord w = true) : w ∈ Mw := List.mem_filter.mpr ⟨List.mem_of_getElem? h, g⟩
theorem Mw_good {w : Cond} (h : w ∈ Mw) : (w.onTables && w.keeps) = true ∨ ∃ ty, w = .arrayClass ty := good_of_word (List.mem_filter.mp h).2
def isNest : Cond → Bool
  | .fieldLinkNest .. => true
  | .methodLinkNest .. => true
  | _ => false
def Nw : List Cond := lw_tbl.filter isNest
theorem Nw_at (i : Nat) {w : Cond} (h : lw_tbl[i]? = some w) (g : isNest w = true) : w ∈ Nw := List.mem_filter.mpr ⟨List.mem_of_getElem? h, g⟩
theorem Nw_tab {w : Cond} (h : w ∈ Nw) : w.onTables = true := by
  have h2 := (List.mem_filter.mp h).2
  cases w <;> first | rfl | (simp [isNest] at h2)
theorem Nw_warm {s U : State} (hW : s.WarmedH U.vm) {w : Cond} (hw : w ∈ Nw) (h : va_Nw w s) : va_Nw w U := by
  have h2 := (List.mem_filter.mp hw).2
  cases w <;> first | exact va_Nw.warmF hW h | exact va_Nw.warmM hW h | (simp [isNest] at h2)
/-! the surroundings: classes, array classes, NAMES, the literals -/
abbrev EE : Type := (Nat → ClassId) × (Nat → Nat → Nat) × (Nat → ClassId) × Nat × (Nat → Nat) × (Nat → Nat)
abbrev eD (E : EE) : va_G := (E.1, E.2.1)
abbrev eA (E : EE) (k : Nat) : ClassId := E.2.2.1 k
abbrev eN (E : EE) : Nat := E.2.2.2.1
abbrev eK (E : EE) : Nat → Nat := E.2.2.2.2.1
abbrev eV (E : EE) : Nat → Nat := E.2.2.2.2.2
abbrev eT (E : EE) : List (ClassId × FieldType) := [(eA E 0, .int), (eA E 1, .long), (eA E 2, .object "SlipWall$Person"), (eA E 3, .object "SlipWall$Row")]
def kNM : List Int32 := [112, 101, 114, 115, 111, 110, 0, 108, 111, 117, 100, 0, 0, 0, 115, 104, 121, 0, 0, 0, 0, 98, 111, 115, 115, 0, 0, 0, 112, 101, 110, 0, 0, 0, 0, 113, 117, 105, 101, 116, 0, 0, 115, 108, 105, 112, 0, 0, 0, 102, 108, 111, 111, 114, 0, 0, 102, 105, 120, 101, 100, 0, 0, 119, 97, 110, 116, 115, 0, 0, 109, 111, 118, 101, 115, 0, 0]
/-- the literals, in the order of the model's words -/
def kByt : List (List Int32) := [[112, 101, 114, 115, 111, 110], [108, 111, 117, 100], [115, 104, 121], [98, 111, 115, 115], [112, 101, 110], [113, 117, 105, 101, 116], [115, 108, 105, 112], [102, 108, 111, 111, 114], [102, 105, 120, 101, 100], [119, 97, 110, 116, 115], [109, 111, 118, 101, 115]]
def kLen : List Nat := [6, 4, 3, 4, 3, 5, 4, 5, 5, 5, 5]
def kTxt : List String := ["person", "loud", "shy", "boss", "pen", "quiet", "slip", "floor", "fixed", "wants", "moves"]
def kIdx : List Nat := [98, 100, 102, 104, 106, 108, 38, 72, 74, 89, 47]
def En (E : EE) (A : Nat → Prop) (U : State) (H : Heap) : Prop :=
  va_K (eD E) vwCl (eT E) U ∧ (∀ w ∈ Nw, va_Nw w U) ∧ va_Z "SlipWallModel" "NAMES" "[I" (.ref (eN E)) A U H ∧ va_T .int (eN E) 77 (fun j => .int (kNM.getD j 0)) A U H ∧ va_Z "java/lang/String" "COMPACT_STRINGS" "Z" (.int 1) A U H ∧ va_Zq "jdk/internal/util/Preconditions" "SIOOBE_FORMATTER" "Ljava/util/function/BiFunction;" A U H ∧ vk_S 11 kLen kByt (eK E) (eV E) A U H ∧ ∀ i : Nat, i < 11 → vk_R "SlipWall$WallText" (kIdx.getD i 0) (kTxt.getD i "") (eK E i) U
theorem En.kept {E : EE} {A : Nat → Prop} {U : State} {H H1 : Heap} (h : En E A U H) (hq : ∀ a : Nat, a < H.size → ¬ A a → H1[a]? = H[a]?) : En E A U H1 := by
  obtain ⟨h1, h2, h3, h4, h5, h6, h7, h8⟩ := h
  exact ⟨h1, h2, h3.kept hq, h4.kept hq, h5.kept hq, h6.kept hq, h7.kept hq, h8⟩
theorem En.narrow {E : EE} {A B : Nat → Prop} {U : State} {H : Heap} (h : En E A U H) (hq : ∀ q, B q → A q) : En E B U H := by
  obtain ⟨h1, h2, h3, h4, h5, h6, h7, h8⟩ := h
  exact ⟨h1, h2, h3.narrow hq, h4.narrow hq, h5.narrow hq, h6.narrow hq, h7.narrow hq, h8⟩
theorem En.warm {E : EE} {A : Nat → Prop} {s U : State} {H : Heap} (hW : s.WarmedH U.vm) (h : En E A s H) : En E A U H := by
  obtain ⟨h1, h2, h3, h4, h5, h6, h7, h8⟩ := h
  exact ⟨va_K.moved hW.alike h1, fun w hw => Nw_warm hW hw (h2 w hw), h3.moved hW.alike, h4.moved hW.alike, h5.moved hW.alike, h6.moved hW.alike, h7.moved hW.alike, fun i hi => (h8 i hi).warm hW⟩
theorem En.same {E : EE} {A : Nat → Prop} {s U : State} {H : Heap} (hv : U.vm = s.vm) (h : En E A s H) : En E A U H := by
  obtain ⟨h1, h2, h3, h4, h5, h6, h7, h8⟩ := h
  have ha : s.vm.Alike U.vm := by rw [hv]; exact Vm.Alike.refl _
  exact ⟨va_K.moved ha h1, fun w hw => va_Nw.same (Nw_tab hw) hv.symm (h2 w hw), h3.moved ha, h4.moved ha, h5.moved ha, h6.moved ha, h7.moved ha, fun i hi => (h8 i hi).same hv⟩
/-! a world -/
def inW (ws : va_W) (q : Nat) : Prop := ∃ (k : Nat) (e : va_E), ws[k]? = some (q, e)
def Wd (E : EE) (A : Nat → Prop) (H0 : Heap) (ws : va_W) (H : Heap) (locs : List Loc) : Prop := va_P (eD E) vwCl ws H ∧ va_D A ws ∧ va_S A H0 H locs
theorem Wd.eq {E : EE} {A : Nat → Prop} {H0 H : Heap} {ws ws' : va_W} {locs : List Loc} (h : Wd E A H0 ws H locs) (e : ws = ws') : Wd E A H0 ws' H locs := e ▸ h
def putM : va_W → List Nat → va_W → va_W
  | ws, i :: is, c :: cs => putM (ws.set i c) is cs
  | ws, _, _ => ws
theorem putM_out : ∀ (is : List Nat) (ws cs : va_W) (k : Nat), k ∉ is → (putM ws is cs)[k]? = ws[k]?
  | [], ws, cs, k, _ => by cases cs <;> rfl
  | i :: is, ws, [], k, _ => rfl
  | i :: is, ws, c :: cs, k, h => by
    have h1 : k ≠ i := fun e => h (e ▸ List.mem_cons_self)
    have h2 : k ∉ is := fun e => h (List.mem_cons_of_mem _ e)
    show (putM (ws.set i c) is cs)[k]? = ws[k]?
    rw [putM_out is (ws.set i c) cs k h2, List.getElem?_set_ne (Ne.symm h1)]
theorem putM_in : ∀ (is : List Nat) (ws cs : va_W) (k : Nat) (q : Nat × va_E), va_nd is = true → is.length = cs.length → (putM ws is cs)[k]? = some q → k ∈ is → q ∈ cs
  | [], ws, cs, k, q, _, _, _, h => by simp at h
  | i :: is, ws, [], k, q, _, h, _, _ => by simp at h
  | i :: is, ws, c :: cs, k, q, hn, hl, hq, hk => by
    simp only [va_nd, Bool.and_eq_true, decide_eq_true_eq] at hn
    have hl2 : is.length = cs.length := by simpa using hl
    have hq2 : (putM (ws.set i c) is cs)[k]? = some q := hq
    by_cases e : k = i
    · subst e
      rw [putM_out is (ws.set k c) cs k hn.1] at hq2
      have hb : k < ws.length := by
        have := (List.getElem?_eq_some_iff.mp hq2).1
        simpa using this
      rw [List.getElem?_set_self hb] at hq2
      cases hq2
      exact List.mem_cons_self
    · rcases List.mem_cons.mp hk with h | h
      · exact absurd h e
      · exact List.mem_cons_of_mem _ (putM_in is (ws.set i c) cs k q hn.2 hl2 hq2 h)
theorem putM_fst : ∀ (is : List Nat) (ws cs wc : va_W), is.map (fun i => ws[i]?) = wc.map some → va_nd is = true → cs.map Prod.fst = wc.map Prod.fst → (putM ws is cs).map Prod.fst = ws.map Prod.fst
  | [], ws, cs, wc, _, _, _ => by cases cs <;> rfl
  | i :: is, ws, [], wc, _, _, _ => rfl
  | i :: is, ws, c :: cs, [], h, _, _ => by simp at h
  | i :: is, ws, c :: cs, w :: wc, h, hn, he => by
    simp only [List.map_cons, List.cons.injEq] at h he
    simp only [va_nd, Bool.and_eq_true, decide_eq_true_eq] at hn
    have hl : i < ws.length := (List.getElem?_eq_some_iff.mp h.1).1
    have h2 : is.map (fun j => (ws.set i c)[j]?) = wc.map some := by
      rw [← h.2]
      apply List.map_congr_left
      intro j hj
      exact List.getElem?_set_ne (fun (e : i = j) => hn.1 (by rw [e]; exact hj))
    show (putM (ws.set i c) is cs).map Prod.fst = ws.map Prod.fst
    rw [putM_fst is (ws.set i c) cs wc h2 hn.2 he.2, List.map_set, he.1]
    apply List.ext_getElem?
    intro j
    by_cases hj : j = i
    · subst hj
      rw [List.getElem?_set_self (by simpa using hl), List.getElem?_map, h.1]
      rfl
    · rw [List.getElem?_set_ne (Ne.symm hj)]
theorem va_D.fst {A : Nat → Prop} {ws ws' : va_W} (h : va_D A ws) (e : ws'.map Prod.fst = ws.map Prod.fst) : va_D A ws' := by
  have key : ∀ (k : Nat) (q : Nat × va_E), ws'[k]? = some q → ∃ q0, ws[k]? = some q0 ∧ q0.1 = q.1 := by
    intro k q hk
    have h1 : (ws'.map Prod.fst)[k]? = some q.1 := by rw [List.getElem?_map, hk]; rfl
    rw [e, List.getElem?_map] at h1
    cases hq : ws[k]? with
    | none => rw [hq] at h1; cases h1
    | some q0 => rw [hq] at h1; exact ⟨q0, rfl, Option.some.inj h1⟩
  refine ⟨fun i j x y hi hj hxy => ?_, fun k q hk => ?_⟩
  · obtain ⟨x0, h1, h2⟩ := key i x hi
    obtain ⟨y0, h3, h4⟩ := key j y hj
    exact h.1 i j x0 y0 h1 h3 (h2.trans (hxy.trans h4.symm))
  · obtain ⟨q0, h1, h2⟩ := key k q hk
    rw [← h2]
    exact h.2 k q0 h1
theorem sub_at {ws wc : va_W} {is : List Nat} (hC : is.map (fun i => ws[i]?) = wc.map some) {k : Nat} {q : Nat × va_E} (hq : wc[k]? = some q) : ∃ i, is[k]? = some i ∧ ws[i]? = some q := by
  have h1 : (is.map (fun i => ws[i]?))[k]? = some (some q) := by rw [hC, List.getElem?_map, hq]; rfl
  rw [List.getElem?_map] at h1
  cases hi : is[k]? with
  | none => rw [hi] at h1; cases h1
  | some i => rw [hi] at h1; exact ⟨i, rfl, Option.some.inj h1⟩
/-- behind a call: the callee's cells in their places -/
theorem Wd.join {E : EE} {A : Nat → Prop} {H0 H H1 : Heap} {ws wc w1 : va_W} {locs locs1 : List Loc} (X : Wd E A H0 ws H locs) (is : List Nat) (hC : is.map (fun i => ws[i]?) = wc.map some) (hn : va_nd is = true) (he : w1.map Prod.fst = wc.map Prod.fst)
    (hP1 : va_P (eD E) vwCl w1 H1) (hk : ∀ q : Nat, q < H.size → ¬ inW wc q → H1[q]? = H[q]?) (hS : va_S A H0 H1 locs1) : Wd E A H0 (putM ws is w1) H1 locs1 := by
  obtain ⟨hP, hD, -⟩ := X
  refine ⟨fun k q hq => ?_, hD.fst (putM_fst is ws w1 wc hC hn he), hS⟩
  rcases Classical.em (k ∈ is) with hi | hi
  · have hl : is.length = w1.length := by
      have h1 := congrArg List.length hC
      have h2 := congrArg List.length he
      simp only [List.length_map] at h1 h2
      omega
    obtain ⟨j, hj⟩ := List.getElem?_of_mem (putM_in is ws w1 k q hn hl hq hi)
    exact hP1 j q hj
  · rw [putM_out is ws w1 k hi] at hq
    refine (hP k q hq).kept (hk q.1 ((hP k q hq).lt) ?_)
    rintro ⟨j, e, hj⟩
    obtain ⟨i, h1, h2⟩ := sub_at hC hj
    have := hD.1 k i q (q.1, e) hq h2 rfl
    subst this
    exact hi (List.mem_of_getElem? h1)
/-! contracts -/
abbrev rmK (fr lo : Nat) : Room := { frames := fr, cells := 0, slots := 0, locals := lo }
def KnP (E : EE) (ws : va_W) (av : List Value) : Array Value → State → Prop := va_Pc av (fun U => En E (inW ws) U U.heap ∧ va_P (eD E) vwCl ws U.heap ∧ va_D (fun _ => True) ws)
def KnQ (E : EE) (ws : va_W) {S : Type} (post : S → Prop) (res : S → Option Value) (ws' : S → va_W) : Array Value → State → Outcome → State → Prop := fun _ st oc t => ∃ u : S, oc = .returned (res u) ∧ post u ∧ va_P (eD E) vwCl (ws' u) t.heap ∧ st.heap.size ≤ t.heap.size ∧ ∀ q : Nat, q < st.heap.size → ¬ inW ws q → t.heap[q]? = st.heap[q]?
def Kn (l : Launch) (y : MethodName) (cc : ByteArray) (n : Nat) (ret : Option FieldType) (fr lo : Nat) (E : EE) (ws : va_W) (av : List Value) {S : Type} (post : S → Prop) (res : S → Option Value) (ws' : S → va_W) : Prop :=
  Met l y (.code y cc n ret :: Mw) (rmK fr lo) (KnP E ws av) (KnQ E ws post res ws') 0 0 (inW ws)
/-- one that always ends the same -/
abbrev Kd (l : Launch) (y : MethodName) (cc : ByteArray) (n : Nat) (ret : Option FieldType) (fr lo : Nat) (E : EE) (ws : va_W) (av : List Value) (res : Option Value) (ws' : va_W) : Prop :=
  Kn l y cc n ret fr lo E ws av (S := Unit) (fun _ => True) (fun _ => res) (fun _ => ws')
theorem KnP.blind {E : EE} {ws : va_W} {av : List Value} : FrameBlind (KnP E ws av) := by
  intro a U g mk h
  obtain ⟨h1, h2, h3, h4⟩ := h
  exact ⟨h1, En.same (s := U) (U := U.calling g mk a) rfl h2, h3, h4⟩
/-- what holds all through a method's walk -/
def Kx (p : Program) (s : State) (m : MethodId) (args : Array Value) (meth : Method) (c : Code) (cc : ByteArray) (nL : Nat) (own : String) (E : EE) (A : Nat → Prop) : Prop :=
  p.tables.exec = Jvm.exec ∧ c.code = cc ∧ c.maxLocals = nL ∧ s.vm.findClass own = some m.cls ∧ (∀ w ∈ Mw, w.before args s = true) ∧ En E A s s.heap ∧ meth.locks = false
section KW
variable {l : Launch} {y : MethodName} {cc : ByteArray} {n : Nat} {fr lo : Nat} {E : EE} {ws : va_W} {av : List Value} {S : Type} {post : S → Prop} {ws' : S → va_W}
theorem Kn.fin {p : Program} {e : Env} {s : State} {m : MethodId} {args : Array Value} {res : S → Option Value} {H : Heap} {locs : List Loc} {u : S} (h : post u) (X : Wd E (inW ws) s.heap (ws' u) H locs) : (∀ t : State, t.heap = H → s.WarmedH t.vm → KnQ E ws post res ws' args s (.returned (res u)) t) ∧ ∀ q ∈ locs, inW ws q.base := by
  obtain ⟨hP, -, hS⟩ := X
  exact ⟨fun t ht _ => ⟨u, rfl, h, by rw [ht]; exact hP, by rw [ht]; exact hS.1, fun q h1 h2 => by rw [ht]; exact hS.2.1 q h1 h2⟩, hS.2.2⟩
theorem Kn.ofWi {ty : FieldType} {r : S → Int32} (hy : plainName y.cls = true) (hle : (lg_sl av).length ≤ n) (hn : ∀ u, post u → narrow ty (.int (r u)) = .int (r u))
    (body : ∀ (p : Program) (e : Env) (s : State) (m : MethodId) (below : List Frame) (meth : Method) (c : Code) (Q : State → Prop), Kx p s m av.toArray meth c cc n y.cls E (inW ws) → Wd E (inW ws) s.heap ws s.heap [] →
      (∀ (u : S) (pc : Nat) (ls : Array Slot) (H : Heap) (locs : List Loc), post u → Wd E (inW ws) s.heap (ws' u) H locs → decode cc pc = .ok (.ireturn, 1) → W p l e (rmK fr lo) s m av.toArray below meth c H locs 0 0 Q (F0 m pc ls [.int (r u)])) →
      ∀ ls : Array Slot, lv_has ls n (lv_args 0 av) → W p l e (rmK fr lo) s m av.toArray below meth c s.heap [] 0 0 Q (F0 m 0 ls [])) : Kn l y cc n (some ty) fr lo E ws av post (fun u => some (.int (r u))) ws' := by
  refine Met.ofW (cc := cc) (maxL := n) (ret := some ty) hy rfl ?_
  intro p e s m args below meth c s₁ B hml hv
  obtain ⟨rfl, hE, hP, hD⟩ := hv
  have hts := atoms_spec (ws := .code y cc n (some ty) :: Mw) B.pre
  have hlocks := B.notSynchronized
  rw [lg_entry_eq]
  refine body p e s m below meth c _ ⟨B.exec, B.bytes, hml, findClass_of_methodNamed B.named, fun w h => hts w (List.mem_cons_of_mem _ h), hE, hlocks⟩ ⟨hP, ⟨hD.1, fun k q h => ⟨k, q.2, h⟩⟩, va_S.rf⟩ ?_ _ (lv_entry av hle)
  intro u pc ls H locs hpo X hd
  have hf := Kn.fin (p := p) (e := e) (m := m) (args := av.toArray) (res := fun u => some (.int (r u))) hpo X
  exact W.zret B.exec B.bytes B.returns (hn u hpo) hf.1 hf.2 hd
theorem Kn.ofWl {r : S → Int64} (hy : plainName y.cls = true) (hle : (lg_sl av).length ≤ n)
    (body : ∀ (p : Program) (e : Env) (s : State) (m : MethodId) (below : List Frame) (meth : Method) (c : Code) (Q : State → Prop), Kx p s m av.toArray meth c cc n y.cls E (inW ws) → Wd E (inW ws) s.heap ws s.heap [] →
      (∀ (u : S) (pc : Nat) (ls : Array Slot) (H : Heap) (locs : List Loc), post u → Wd E (inW ws) s.heap (ws' u) H locs → decode cc pc = .ok (.lreturn, 1) → W p l e (rmK fr lo) s m av.toArray below meth c H locs 0 0 Q (F0 m pc ls [.long (r u)])) →
      ∀ ls : Array Slot, lv_has ls n (lv_args 0 av) → W p l e (rmK fr lo) s m av.toArray below meth c s.heap [] 0 0 Q (F0 m 0 ls [])) : Kn l y cc n (some .long) fr lo E ws av post (fun u => some (.long (r u))) ws' := by
  refine Met.ofW (cc := cc) (maxL := n) (ret := some .long) hy rfl ?_
  intro p e s m args below meth c s₁ B hml hv
  obtain ⟨rfl, hE, hP, hD⟩ := hv
  have hts := atoms_spec (ws := .code y cc n (some .long) :: Mw) B.pre
  have hlocks := B.notSynchronized
  rw [lg_entry_eq]
  refine body p e s m below meth c _ ⟨B.exec, B.bytes, hml, findClass_of_methodNamed B.named, fun w h => hts w (List.mem_cons_of_mem _ h), hE, hlocks⟩ ⟨hP, ⟨hD.1, fun k q h => ⟨k, q.2, h⟩⟩, va_S.rf⟩ ?_ _ (lv_entry av hle)
  intro u pc ls H locs hpo X hd
  have hf := Kn.fin (p := p) (e := e) (m := m) (args := av.toArray) (res := fun u => some (.long (r u))) hpo X
  exact W.lret B.exec B.bytes B.returns hf.1 hf.2 hd
theorem Kn.ofWv (hy : plainName y.cls = true) (hle : (lg_sl av).length ≤ n)
    (body : ∀ (p : Program) (e : Env) (s : State) (m : MethodId) (below : List Frame) (meth : Method) (c : Code) (Q : State → Prop), Kx p s m av.toArray meth c cc n y.cls E (inW ws) → Wd E (inW ws) s.heap ws s.heap [] →
      (∀ (u : S) (pc : Nat) (ls : Array Slot) (H : Heap) (locs : List Loc), post u → Wd E (inW ws) s.heap (ws' u) H locs → decode cc pc = .ok (.return_, 1) → W p l e (rmK fr lo) s m av.toArray below meth c H locs 0 0 Q (F0 m pc ls [])) →
      ∀ ls : Array Slot, lv_has ls n (lv_args 0 av) → W p l e (rmK fr lo) s m av.toArray below meth c s.heap [] 0 0 Q (F0 m 0 ls [])) : Kn l y cc n none fr lo E ws av post (fun _ => none) ws' := by
  refine Met.ofW (cc := cc) (maxL := n) (ret := none) hy rfl ?_
  intro p e s m args below meth c s₁ B hml hv
  obtain ⟨rfl, hE, hP, hD⟩ := hv
  have hts := atoms_spec (ws := .code y cc n none :: Mw) B.pre
  have hlocks := B.notSynchronized
  rw [lg_entry_eq]
  refine body p e s m below meth c _ ⟨B.exec, B.bytes, hml, findClass_of_methodNamed B.named, fun w h => hts w (List.mem_cons_of_mem _ h), hE, hlocks⟩ ⟨hP, ⟨hD.1, fun k q h => ⟨k, q.2, h⟩⟩, va_S.rf⟩ ?_ _ (lv_entry av hle)
  intro u pc ls H locs hpo X hd
  have hf := Kn.fin (p := p) (e := e) (m := m) (args := av.toArray) (res := fun _ => none) hpo X
  exact W.vret B.exec B.bytes B.returns hf.1 hf.2 hd
end KW
/-! rows over a world -/
def fOK (ci k : Nat) (P : String → u_T → Nat → Prop) : Prop := ∃ (C : String) (T : u_T) (N : Nat), vwCl[ci]? = some (C, T, N) ∧ k < N ∧ (∀ w ∈ u_ws C T N, w ∈ Mw) ∧ (T k).1 = C ∧ P C T N
def FG (own : String) (idx ci k : Nat) : Prop := fOK ci k fun C T _ => Cond.fieldLink own idx C (T k).2.1 (T k).2.2.1 ∈ Mw
def FGN (own : String) (idx ci k : Nat) : Prop := fOK ci k fun C T _ => ∃ host, Cond.fieldLinkNest own idx C (T k).2.1 (T k).2.2.1 host ∈ Nw
def fTy (k : Nat) (ty : FieldType) (T : u_T) (N : Nat) : Prop := (∃ ty0 : Nat → FieldType, ∀ k, k < N → parseFieldDescriptor (T k).2.2.1 = some (ty0 k)) ∧ (∀ a, a < N → ∀ b, b < N → a ≠ b → (T a).2.1 ≠ (T b).2.1) ∧ parseFieldDescriptor (T k).2.2.1 = some ty
def FP (own : String) (idx ci k : Nat) (ty : FieldType) : Prop := fOK ci k fun C T N => Cond.fieldLink own idx C (T k).2.1 (T k).2.2.1 ∈ Mw ∧ fTy k ty T N ∧ (T k).2.2.2 = false
def FPN (own : String) (idx ci k : Nat) (ty : FieldType) : Prop := fOK ci k fun C T N => (∃ host, Cond.fieldLinkNest own idx C (T k).2.1 (T k).2.2.1 host ∈ Nw) ∧ fTy k ty T N ∧ (T k).2.2.2 = false
section KR
variable {p : Program} {l : Launch} {e : Env} {R : Room} {s : State} {m : MethodId} {args : Array Value} {below : List Frame} {meth : Method} {c : Code} {H : Heap} {locs : List Loc} {cells slots : Nat} {Q : State → Prop}
variable {cc : ByteArray} {pc nL : Nat} {own : String} {E : EE} {ls : Array Slot} {rest : List Value} {A : Nat → Prop} {a : Nat} {ws : va_W}
theorem k_get (K : Kx p s m args meth c cc nL own E A) (X : Wd E A s.heap ws H locs) (q0 : Nat) {ci idx k : Nat} {fs : List Value} (he : ws[q0]? = some (a, .inr (ci, fs))) (F : FG own idx ci k) {v : Value} (hv : fs[k]? = some v) (hdg : decode cc pc = .ok (.getfield idx, 3))
    (kk : W p l e R s m args below meth c H locs cells slots Q (F0 m (pc + 3) ls (v :: rest))) : W p l e R s m args below meth c H locs cells slots Q (F0 m pc ls (.ref a :: rest)) := by
  obtain ⟨hx, hb, hml, ho, hts, hE, -⟩ := K
  obtain ⟨C, T, N, h1, h2, h3, h4, h5⟩ := F
  exact va_get (C := C) (T := T) (N := N) hx hb hts h3 ho hE.1 X.1 q0 he h1 k h2 (hts _ h5) (fun x h => by rw [h4] at h; exact h) hv hdg kk
theorem k_getN (K : Kx p s m args meth c cc nL own E A) (X : Wd E A s.heap ws H locs) (q0 : Nat) {ci idx k : Nat} {fs : List Value} (he : ws[q0]? = some (a, .inr (ci, fs))) (F : FGN own idx ci k) {v : Value} (hv : fs[k]? = some v) (hdg : decode cc pc = .ok (.getfield idx, 3))
    (kk : W p l e R s m args below meth c H locs cells slots Q (F0 m (pc + 3) ls (v :: rest))) : W p l e R s m args below meth c H locs cells slots Q (F0 m pc ls (.ref a :: rest)) := by
  obtain ⟨hx, hb, hml, ho, hts, hE, -⟩ := K
  obtain ⟨C, T, N, h1, h2, h3, h4, host, h5⟩ := F
  exact va_getN (C := C) (T := T) (N := N) hx hb hts h3 ho hE.1 X.1 q0 he h1 k h2 (va_Nw.use rfl (hE.2.1 _ h5)) (fun x h => by rw [h4] at h; exact h) hv hdg kk
theorem k_put (K : Kx p s m args meth c cc nL own E A) (X : Wd E A s.heap ws H locs) (q0 : Nat) {ci idx k : Nat} {ty : FieldType} {fs : List Value} (he : ws[q0]? = some (a, .inr (ci, fs))) (F : FP own idx ci k ty) {v : Value} (hn : narrow ty v = v) (hfit : fits ty v = true) (hl : k < fs.length) (hdg : decode cc pc = .ok (.putfield idx, 3))
    (kk : ∀ (H1 : Heap) (locs1 : List Loc), Wd E A s.heap (ws.set q0 (a, .inr (ci, fs.set k v))) H1 locs1 → W p l e R s m args below meth c H1 locs1 cells slots Q (F0 m (pc + 3) ls rest)) : W p l e R s m args below meth c H locs cells slots Q (F0 m pc ls (v :: .ref a :: rest)) := by
  obtain ⟨hx, hb, hml, ho, hts, hE, -⟩ := K
  obtain ⟨C, T, N, h1, h2, h3, h4, h5, ⟨⟨ty0, h6⟩, h7, h8⟩, h9⟩ := F
  exact va_put (C := C) (T := T) (N := N) hx hb hts h3 ty0 h6 h7 ho hE.1 X.1 X.2.1 X.2.2 q0 he h1 k h2 (hts _ h5) (fun x h => by rw [h4] at h; exact h) h9 h8 hn hfit hl hdg (fun H1 l1 a1 a2 a3 => kk H1 l1 ⟨a1, a2, a3⟩)
theorem k_putN (K : Kx p s m args meth c cc nL own E A) (X : Wd E A s.heap ws H locs) (q0 : Nat) {ci idx k : Nat} {ty : FieldType} {fs : List Value} (he : ws[q0]? = some (a, .inr (ci, fs))) (F : FPN own idx ci k ty) {v : Value} (hn : narrow ty v = v) (hfit : fits ty v = true) (hl : k < fs.length) (hdg : decode cc pc = .ok (.putfield idx, 3))
    (kk : ∀ (H1 : Heap) (locs1 : List Loc), Wd E A s.heap (ws.set q0 (a, .inr (ci, fs.set k v))) H1 locs1 → W p l e R s m args below meth c H1 locs1 cells slots Q (F0 m (pc + 3) ls rest)) : W p l e R s m args below meth c H locs cells slots Q (F0 m pc ls (v :: .ref a :: rest)) := by
  obtain ⟨hx, hb, hml, ho, hts, hE, -⟩ := K
  obtain ⟨C, T, N, h1, h2, h3, h4, ⟨host, h5⟩, ⟨⟨ty0, h6⟩, h7, h8⟩, h9⟩ := F
  exact va_putN (C := C) (T := T) (N := N) hx hb hts h3 ty0 h6 h7 ho hE.1 X.1 X.2.1 X.2.2 q0 he h1 k h2 (va_Nw.use rfl (hE.2.1 _ h5)) (fun x h => by rw [h4] at h; exact h) h9 h8 hn hfit hl hdg (fun H1 l1 a1 a2 a3 => kk H1 l1 ⟨a1, a2, a3⟩)
theorem k_iald (K : Kx p s m args meth c cc nL own E A) (X : Wd E A s.heap ws H locs) (q0 : Nat) {n : Nat} {f : Nat → Int32} (ha : ws[q0]? = some (a, .inl (eA E 0, n, .inl f))) {i : Int32} (hin : vp_in i n) (hdg : decode cc pc = .ok (.iaload, 1))
    (kk : W p l e R s m args below meth c H locs cells slots Q (F0 m (pc + 1) ls (.int (f i.toNatClampNeg) :: rest))) : W p l e R s m args below meth c H locs cells slots Q (F0 m pc ls (.int i :: .ref a :: rest)) :=
  va_iald K.1 K.2.1 K.2.2.2.2.2.1.1 X.1 q0 0 ha rfl hin hdg kk
theorem k_iast (K : Kx p s m args meth c cc nL own E A) (X : Wd E A s.heap ws H locs) (q0 : Nat) {n : Nat} {f : Nat → Int32} (ha : ws[q0]? = some (a, .inl (eA E 0, n, .inl f))) {i x : Int32} (hin : vp_in i n) (hdg : decode cc pc = .ok (.iastore, 1))
    (kk : ∀ (H1 : Heap) (locs1 : List Loc), Wd E A s.heap (ws.set q0 (a, .inl (eA E 0, n, .inl (upd f i.toNatClampNeg x)))) H1 locs1 → W p l e R s m args below meth c H1 locs1 cells slots Q (F0 m (pc + 1) ls rest)) : W p l e R s m args below meth c H locs cells slots Q (F0 m pc ls (.int x :: .int i :: .ref a :: rest)) :=
  va_iast K.1 K.2.1 K.2.2.2.2.2.1.1 X.1 X.2.1 X.2.2 q0 0 ha rfl hin hdg (fun H1 l1 a1 a2 a3 => kk H1 l1 ⟨a1, a2, a3⟩)
theorem k_lald (K : Kx p s m args meth c cc nL own E A) (X : Wd E A s.heap ws H locs) (q0 : Nat) {n : Nat} {f : Nat → Int64} (ha : ws[q0]? = some (a, .inl (eA E 1, n, .inr (.inl f)))) {i : Int32} (hin : vp_in i n) (hdg : decode cc pc = .ok (.laload, 1))
    (kk : W p l e R s m args below meth c H locs cells slots Q (F0 m (pc + 1) ls (.long (f i.toNatClampNeg) :: rest))) : W p l e R s m args below meth c H locs cells slots Q (F0 m pc ls (.int i :: .ref a :: rest)) :=
  va_lald K.1 K.2.1 K.2.2.2.2.2.1.1 X.1 q0 1 ha rfl hin hdg kk
theorem k_last (K : Kx p s m args meth c cc nL own E A) (X : Wd E A s.heap ws H locs) (q0 : Nat) {n : Nat} {f : Nat → Int64} (ha : ws[q0]? = some (a, .inl (eA E 1, n, .inr (.inl f)))) {i : Int32} {x : Int64} (hin : vp_in i n) (hdg : decode cc pc = .ok (.lastore, 1))
    (kk : ∀ (H1 : Heap) (locs1 : List Loc), Wd E A s.heap (ws.set q0 (a, .inl (eA E 1, n, .inr (.inl (vp_updL f i.toNatClampNeg x))))) H1 locs1 → W p l e R s m args below meth c H1 locs1 cells slots Q (F0 m (pc + 1) ls rest)) : W p l e R s m args below meth c H locs cells slots Q (F0 m pc ls (.long x :: .int i :: .ref a :: rest)) :=
  va_last K.1 K.2.1 K.2.2.2.2.2.1.1 X.1 X.2.1 X.2.2 q0 1 ha rfl hin hdg (fun H1 l1 a1 a2 a3 => kk H1 l1 ⟨a1, a2, a3⟩)
theorem k_aald {C : String} (K : Kx p s m args meth c cc nL own E A) (X : Wd E A s.heap ws H locs) (q0 t0 : Nat) {n : Nat} {f : Nat → Option Nat} (ha : ws[q0]? = some (a, .inl (eA E t0, n, .inr (.inr (.inr (.inr f)))))) (ht : (eT E)[t0]? = some (eA E t0, .object C)) {i : Int32} (hin : vp_in i n) {r : Nat} (hr : f i.toNatClampNeg = some r) (hdg : decode cc pc = .ok (.aaload, 1))
    (kk : W p l e R s m args below meth c H locs cells slots Q (F0 m (pc + 1) ls (.ref r :: rest))) : W p l e R s m args below meth c H locs cells slots Q (F0 m pc ls (.int i :: .ref a :: rest)) :=
  va_aldq K.1 K.2.1 K.2.2.2.2.2.1.1 X.1 q0 t0 ha ht hin hdg (by rw [hr]; exact kk)
end KR
end
section
def OKB (y : MethodName) (bytes : ByteArray) (maxL : Nat) (ret : Option FieldType) (k : Nat) : Prop := Cond.code y bytes maxL ret ∈ Mw ∧ Cond.initialized y.cls ∈ Mw ∧ y.cls ≠ "java/lang/invoke/MethodHandle" ∧ y.cls ≠ "java/lang/invoke/VarHandle" ∧ (parseMethodDescriptor y.desc).map (fun d => d.parameters.length) = some k
def OKV (own : String) (idx : Nat) (C : String) (y : MethodName) (bytes : ByteArray) (maxL : Nat) (ret : Option FieldType) (k : Nat) : Prop := OKB y bytes maxL ret k ∧ Cond.methodLink own idx y ∈ Mw ∧ Cond.instanceMethod y ∈ Mw ∧ Cond.selects C y y ∈ Mw
def OKS (own : String) (idx : Nat) (y : MethodName) (bytes : ByteArray) (maxL : Nat) (ret : Option FieldType) (k : Nat) : Prop := OKB y bytes maxL ret k ∧ Cond.methodLink own idx y ∈ Mw ∧ Cond.static y ∈ Mw
def OKVN (own : String) (idx : Nat) (C : String) (y : MethodName) (bytes : ByteArray) (maxL : Nat) (ret : Option FieldType) (k : Nat) : Prop := OKB y bytes maxL ret k ∧ (∃ host, Cond.methodLinkNest own idx y host ∈ Nw) ∧ Cond.instanceMethod y ∈ Mw ∧ Cond.selects C y y ∈ Mw
def OKSN (own : String) (idx : Nat) (y : MethodName) (bytes : ByteArray) (maxL : Nat) (ret : Option FieldType) (k : Nat) : Prop := OKB y bytes maxL ret k ∧ (∃ host, Cond.methodLinkNest own idx y host ∈ Nw) ∧ Cond.static y ∈ Mw
/-- a method that the receiver's class selects, under the name x that its class C has from owner -/
def OKO (own : String) (idx : Nat) (C : String) (x y : MethodName) (bytes : ByteArray) (maxL : Nat) (ret : Option FieldType) (k : Nat) : Prop := OKB y bytes maxL ret k ∧ Cond.methodLink own idx x ∈ Mw ∧ Cond.sameMethod x.cls x.cls x.name x.desc ∈ Mw ∧ Cond.instanceMethod x ∈ Mw ∧ Cond.selects C x y ∈ Mw ∧ Cond.instanceMethod y ∈ Mw ∧ (∃ b0 m0 r0, Cond.code x b0 m0 r0 ∈ Mw) ∧ x.cls ≠ "java/lang/invoke/MethodHandle" ∧ x.cls ≠ "java/lang/invoke/VarHandle" ∧ (parseMethodDescriptor x.desc).map (fun d => d.parameters.length) = some k
/-- super's method -/
def OKU (own : String) (idx : Nat) (y : MethodName) (bytes : ByteArray) (maxL : Nat) (ret : Option FieldType) (k : Nat) : Prop := OKB y bytes maxL ret k ∧ Cond.methodLink own idx y ∈ Mw ∧ Cond.sameMethod y.cls y.cls y.name y.desc ∈ Mw ∧ Cond.superclass own y.cls ∈ Mw ∧ Cond.instanceMethod y ∈ Mw ∧ y.name ≠ "<init>"
theorem okb_good {y : MethodName} {bytes : ByteArray} {maxL : Nat} {ret : Option FieldType} {k : Nat} (G : OKB y bytes maxL ret k) : GoodIn Mw (.code y bytes maxL ret :: Mw) := by
  intro w hw
  rcases List.mem_cons.mp hw with rfl | h
  · exact ⟨G.1, Mw_good G.1⟩
  · exact ⟨h, Mw_good h⟩
theorem good_app {ws' : List Cond} {ws : List Cond} (h : GoodIn Mw ws) (h' : ∀ w ∈ ws', w ∈ Mw) : GoodIn Mw (ws' ++ ws) := by
  intro w hw
  rcases List.mem_append.mp hw with hw | hw
  · exact ⟨h' w hw, Mw_good (h' w hw)⟩
  · exact h w hw
section KC
variable {p : Program} {l : Launch} {e : Env} {R : Room} {s : State} {m : MethodId} {args : Array Value} {below : List Frame} {meth : Method} {c : Code} {H : Heap} {locs : List Loc} {cells slots : Nat} {Q : State → Prop}
variable {cc : ByteArray} {pc nL : Nat} {own : String} {E : EE} {ls : Array Slot} {rest st0 : List Value} {A : Nat → Prop} {b : Nat} {ws wc : va_W} {As : List Value}
variable {S : Type} {post : S → Prop} {res : S → Option Value} {w1 : S → va_W} {st1 : S → List Value} {x y : MethodName} {bytes : ByteArray} {maxL fr lo k idx : Nat} {ret : Option FieldType} {C : String}
theorem okb_callB (K : Kx p s m args meth c cc nL own E A) (G : OKB y bytes maxL ret k) (hl : Cond.methodLink own idx y ∈ Mw) (hR : fr + 1 ≤ R.frames ∧ 8 + (maxL + 11) + lo ≤ R.locals) : CallB R s args own idx y bytes maxL ret (.code y bytes maxL ret :: Mw) (rmK fr lo) 0 0 k := by
  obtain ⟨hx, hb, hml, ho, hts, hE, -⟩ := K
  exact callB_of (Ts := Mw) k hts (okb_good G) rfl rfl rfl (hts _ G.2.1) (hts _ hl) G.2.2 hR
theorem okb_callN {host : String} (K : Kx p s m args meth c cc nL own E A) (G : OKB y bytes maxL ret k) (hl : Cond.methodLinkNest own idx y host ∈ Nw) (hR : fr + 1 ≤ R.frames ∧ 8 + (maxL + 11) + lo ≤ R.locals) : va_CN R s args own idx y host bytes maxL ret (.code y bytes maxL ret :: Mw) (rmK fr lo) 0 0 k := by
  obtain ⟨hx, hb, hml, ho, hts, hE, -⟩ := K
  exact va_cnB (Ts := Mw) k hts (okb_good G) rfl rfl rfl (hE.2.1 _ hl) (hts _ G.2.1) G.2.2 hR
theorem k_pre {av : List Value} (K : Kx p s m args meth c cc nL own E A) (X : Wd E A s.heap ws H locs) (is : List Nat) (hC : is.map (fun i => ws[i]?) = wc.map some) (hn : va_nd is = true) : ∀ U : State, U.heap = H → s.WarmedH U.vm → KnP E wc av av.toArray U := by
  obtain ⟨hx, hb, hml, ho, hts, hE, -⟩ := K
  obtain ⟨hP, hD, hS⟩ := X
  intro U hU hW
  refine ⟨rfl, ?_, ?_, ?_⟩
  · rw [hU]
    refine En.warm hW (En.narrow (hE.kept hS.2.1) (fun q hq => ?_))
    obtain ⟨j, e, hj⟩ := hq
    obtain ⟨i, h1, h2⟩ := sub_at hC hj
    exact hD.2 i _ h2
  · rw [hU]
    intro j q hq
    obtain ⟨i, h1, h2⟩ := sub_at hC hq
    exact hP i q h2
  · exact (hD.sub is hn hC).weaken (fun _ _ _ _ => trivial)
theorem k_callR {a : Array Value} (X : Wd E A s.heap ws H locs) (is : List Nat) (hC : is.map (fun i => ws[i]?) = wc.map some) (hn : va_nd is = true) (he : ∀ u, (w1 u).map Prod.fst = wc.map Prod.fst)
    (hr : va_Run p l e R s m args below meth c H locs cells slots 0 0 (F0 m pc ls st0) rest (KnQ E wc post res w1 a) (inW wc)) (hs : ∀ u, (res u).toList ++ rest = st1 u)
    (kk : ∀ (u : S) (H1 : Heap) (locs1 : List Loc), post u → Wd E A s.heap (putM ws is (w1 u)) H1 locs1 → W p l e R s m args below meth c H1 locs1 cells slots Q (F0 m (pc + 3) ls (st1 u))) : W p l e R s m args below meth c H locs cells slots Q (F0 m pc ls st0) := by
  intro T hT Z
  obtain ⟨v, st₀, t, T', L, h0, X', hL, e1, e2, ⟨u, hv, hp, hP1, hz, hk⟩, st⟩ := hr T hT Z
  cases hv
  rw [h0] at hz hk
  have hA : ∀ q, inW wc q → A q := by
    rintro q ⟨j, e, hj⟩
    obtain ⟨i, h1, h2⟩ := sub_at hC hj
    exact X.2.1.2 i _ h2
  have hS := X.2.2
  obtain ⟨t2, a1, b1⟩ := kk u T'.heap (locs ++ L) hp (X.join is hC hn (he u) (by rw [e1]; exact hP1) (fun q h1 h2 => by rw [e1]; exact hk q h1 h2)
    ⟨Nat.le_trans hS.1 (by rw [e1]; exact hz), fun q h1 h2 => by rw [e1, hk q (Nat.lt_of_lt_of_le h1 hS.1) (fun z => h2 (hA q z))]; exact hS.2.1 q h1 h2, fun q hq => by
      rcases List.mem_append.mp hq with h | h
      · exact hS.2.2 q h
      · exact hA _ (hL q h)⟩) T' rfl X'
  refine ⟨t2, st t2 ?_, b1⟩
  rw [← hs u] at a1
  exact a1
theorem k_recv (K : Kx p s m args meth c cc nL own E A) (X : Wd E A s.heap ws H locs) (is : List Nat) (hC : is.map (fun i => ws[i]?) = wc.map some) (q0 ci : Nat) {fs : List Value} (hq : wc[q0]? = some (b, .inr (ci, fs))) (hc : (vwCl[ci]?).map Prod.fst = some C) : ∃ cell : Cell, H[b]? = some cell ∧ cell.vm.isStatics = false ∧ s.vm.findClass C = some cell.cls := by
  obtain ⟨hx, hb, hml, ho, hts, hE, -⟩ := K
  obtain ⟨i, h1, h2⟩ := sub_at hC hq
  cases hcl : vwCl[ci]? with
  | none => rw [hcl] at hc; cases hc
  | some r =>
    rw [hcl] at hc
    cases hc
    exact va_recv hE.1 X.1 hcl h2
theorem k_callV (K : Kx p s m args meth c cc nL own E A) (X : Wd E A s.heap ws H locs) (G : OKV own idx C y bytes maxL ret k) (hM : Kn l y bytes maxL ret fr lo E wc (.ref b :: As) post res w1) (is : List Nat) (hC : is.map (fun i => ws[i]?) = wc.map some) (hn : va_nd is = true) (he : ∀ u, (w1 u).map Prod.fst = wc.map Prod.fst)
    (q0 ci : Nat) {fs : List Value} (hq : wc[q0]? = some (b, .inr (ci, fs))) (hc : (vwCl[ci]?).map Prod.fst = some C) (hR : (fr + 1 ≤ R.frames ∧ 8 + (maxL + 11) + lo ≤ R.locals) ∧ cells + 0 ≤ R.cells ∧ slots + 0 ≤ R.slots) (hlen : As.length = k) (hsz : ls.size = nL) (hst : st0 = As.reverse ++ .ref b :: rest) (hw : (rest.map fun v => v.category).sum ≤ 8) (hdg : decode cc pc = .ok (.invokevirtual idx, 3)) (hs : ∀ u, (res u).toList ++ rest = st1 u)
    (kk : ∀ (u : S) (H1 : Heap) (locs1 : List Loc), post u → Wd E A s.heap (putM ws is (w1 u)) H1 locs1 → W p l e R s m args below meth c H1 locs1 cells slots Q (F0 m (pc + 3) ls (st1 u))) : W p l e R s m args below meth c H locs cells slots Q (F0 m pc ls st0) := by
  have hts := K.2.2.2.2.1
  refine k_callR X is hC hn he (va_runV (cc := cc) (nL := nL) (own := own) (Ts := Mw) (C := C) (b := b) (As := As) ⟨K.1, K.2.1, K.2.2.1, K.2.2.2.1, hts⟩ hM ⟨okb_callB K G.1 G.2.1 hR.1, hts _ G.2.2.1, hts _ G.2.2.2⟩ ⟨KnP.blind, k_recv K X is hC q0 ci hq hc, k_pre K X is hC hn⟩ rfl hlen hsz hst (lv_room hw) hdg hR.2) hs kk
theorem k_callS (K : Kx p s m args meth c cc nL own E A) (X : Wd E A s.heap ws H locs) (G : OKS own idx y bytes maxL ret k) (hM : Kn l y bytes maxL ret fr lo E wc As post res w1) (is : List Nat) (hC : is.map (fun i => ws[i]?) = wc.map some) (hn : va_nd is = true) (he : ∀ u, (w1 u).map Prod.fst = wc.map Prod.fst)
    (hR : (fr + 1 ≤ R.frames ∧ 8 + (maxL + 11) + lo ≤ R.locals) ∧ cells + 0 ≤ R.cells ∧ slots + 0 ≤ R.slots) (hlen : As.length = k) (hsz : ls.size = nL) (hst : st0 = As.reverse ++ rest) (hw : (rest.map fun v => v.category).sum ≤ 8) (hdg : decode cc pc = .ok (.invokestatic idx, 3)) (hs : ∀ u, (res u).toList ++ rest = st1 u)
    (kk : ∀ (u : S) (H1 : Heap) (locs1 : List Loc), post u → Wd E A s.heap (putM ws is (w1 u)) H1 locs1 → W p l e R s m args below meth c H1 locs1 cells slots Q (F0 m (pc + 3) ls (st1 u))) : W p l e R s m args below meth c H locs cells slots Q (F0 m pc ls st0) := by
  have hts := K.2.2.2.2.1
  refine k_callR X is hC hn he (va_runS (cc := cc) (nL := nL) (own := own) (Ts := Mw) (As := As) ⟨K.1, K.2.1, K.2.2.1, K.2.2.2.1, hts⟩ hM ⟨okb_callB K G.1 G.2.1 hR.1, hts _ G.2.2⟩ ⟨KnP.blind, k_pre K X is hC hn⟩ rfl hlen hsz hst (lv_room hw) hdg hR.2) hs kk
theorem k_callSN (K : Kx p s m args meth c cc nL own E A) (X : Wd E A s.heap ws H locs) (G : OKSN own idx y bytes maxL ret k) (hM : Kn l y bytes maxL ret fr lo E wc As post res w1) (is : List Nat) (hC : is.map (fun i => ws[i]?) = wc.map some) (hn : va_nd is = true) (he : ∀ u, (w1 u).map Prod.fst = wc.map Prod.fst)
    (hR : (fr + 1 ≤ R.frames ∧ 8 + (maxL + 11) + lo ≤ R.locals) ∧ cells + 0 ≤ R.cells ∧ slots + 0 ≤ R.slots) (hlen : As.length = k) (hsz : ls.size = nL) (hst : st0 = As.reverse ++ rest) (hw : (rest.map fun v => v.category).sum ≤ 8) (hdg : decode cc pc = .ok (.invokestatic idx, 3)) (hs : ∀ u, (res u).toList ++ rest = st1 u)
    (kk : ∀ (u : S) (H1 : Heap) (locs1 : List Loc), post u → Wd E A s.heap (putM ws is (w1 u)) H1 locs1 → W p l e R s m args below meth c H1 locs1 cells slots Q (F0 m (pc + 3) ls (st1 u))) : W p l e R s m args below meth c H locs cells slots Q (F0 m pc ls st0) := by
  have hts := K.2.2.2.2.1
  obtain ⟨host, hh⟩ := G.2.1
  refine k_callR X is hC hn he (va_runSN (cc := cc) (nL := nL) (own := own) (Ts := Mw) (As := As) ⟨K.1, K.2.1, K.2.2.1, K.2.2.2.1, hts⟩ hM ⟨okb_callN K G.1 hh hR.1, hts _ G.2.2, trivial⟩ ⟨KnP.blind, k_pre K X is hC hn⟩ rfl hlen hsz hst (lv_room hw) hdg hR.2) hs kk
/-- a call by a name that the receiver's class may override -/
theorem k_callO (K : Kx p s m args meth c cc nL own E A) (X : Wd E A s.heap ws H locs) (G : OKO own idx C x y bytes maxL ret k) (hM : Kn l y bytes maxL ret fr lo E wc (.ref b :: As) post res w1) (is : List Nat) (hC : is.map (fun i => ws[i]?) = wc.map some) (hn : va_nd is = true) (he : ∀ u, (w1 u).map Prod.fst = wc.map Prod.fst)
    (q0 ci : Nat) {fs : List Value} (hq : wc[q0]? = some (b, .inr (ci, fs))) (hc : (vwCl[ci]?).map Prod.fst = some C) (hR : (fr + 1 ≤ R.frames ∧ 8 + (maxL + 11) + lo ≤ R.locals) ∧ cells + 0 ≤ R.cells ∧ slots + 0 ≤ R.slots) (hlen : As.length = k) (hsz : ls.size = nL) (hst : st0 = As.reverse ++ .ref b :: rest) (hw : (rest.map fun v => v.category).sum ≤ 8) (hdg : decode cc pc = .ok (.invokevirtual idx, 3)) (hs : ∀ u, (res u).toList ++ rest = st1 u)
    (kk : ∀ (u : S) (H1 : Heap) (locs1 : List Loc), post u → Wd E A s.heap (putM ws is (w1 u)) H1 locs1 → W p l e R s m args below meth c H1 locs1 cells slots Q (F0 m (pc + 3) ls (st1 u))) : W p l e R s m args below meth c H locs cells slots Q (F0 m pc ls st0) := by
  have hts := K.2.2.2.2.1
  obtain ⟨g1, g2, g3, g4, g5, g6, ⟨b0, m0, r0, g7⟩, g8⟩ := G
  have hcw : va_CU R s args own C x.cls idx x y bytes maxL ret (.code y bytes maxL ret :: Mw) (rmK fr lo) 0 0 k := va_cwO (Ts := Mw) k hts (good_app (okb_good g1) (fun w hw => by
      simp only [List.mem_cons, List.not_mem_nil, or_false] at hw
      rcases hw with rfl | rfl | rfl | rfl | rfl | rfl
      · exact g2
      · exact g3
      · exact g4
      · exact g5
      · exact g6
      · exact g1.2.1)) rfl rfl rfl g7 g8 hR.1
  refine k_callR X is hC hn he (va_runU (cc := cc) (nL := nL) (own := own) (Ts := Mw) (C := C) (b := b) (As := As) ⟨K.1, K.2.1, K.2.2.1, K.2.2.2.1, hts⟩ hM hcw ⟨KnP.blind, k_recv K X is hC q0 ci hq hc, k_pre K X is hC hn⟩ rfl hlen hsz hst (lv_room hw) hdg hR.2) hs kk
/-- super's method, of the class C of the receiver -/
theorem k_callU (K : Kx p s m args meth c cc nL own E A) (X : Wd E A s.heap ws H locs) (G : OKU own idx y bytes maxL ret k) (hM : Kn l y bytes maxL ret fr lo E wc (.ref b :: As) post res w1) (is : List Nat) (hC : is.map (fun i => ws[i]?) = wc.map some) (hn : va_nd is = true) (he : ∀ u, (w1 u).map Prod.fst = wc.map Prod.fst)
    (q0 ci : Nat) {fs : List Value} (hq : wc[q0]? = some (b, .inr (ci, fs))) {T : u_T} {N : Nat} (hc : vwCl[ci]? = some (C, T, N)) (hR : (fr + 1 ≤ R.frames ∧ 8 + (maxL + 11) + lo ≤ R.locals) ∧ cells + 0 ≤ R.cells ∧ slots + 0 ≤ R.slots) (hlen : As.length = k) (hsz : ls.size = nL) (hst : st0 = As.reverse ++ .ref b :: rest) (hw : (rest.map fun v => v.category).sum ≤ 8) (hdg : decode cc pc = .ok (.invokespecial idx, 3)) (hs : ∀ u, (res u).toList ++ rest = st1 u)
    (kk : ∀ (u : S) (H1 : Heap) (locs1 : List Loc), post u → Wd E A s.heap (putM ws is (w1 u)) H1 locs1 → W p l e R s m args below meth c H1 locs1 cells slots Q (F0 m (pc + 3) ls (st1 u))) : W p l e R s m args below meth c H locs cells slots Q (F0 m pc ls st0) := by
  have hts := K.2.2.2.2.1
  have hE := K.2.2.2.2.2.1
  obtain ⟨g1, g2, g3, g4, g5, g6⟩ := G
  have hcw : va_CS R s args own idx y bytes maxL ret (.code y bytes maxL ret :: Mw) (rmK fr lo) 0 0 k := va_cwSU (Ts := Mw) k hts (good_app (okb_good g1) (fun w hw => by
      simp only [List.mem_cons, List.not_mem_nil, or_false] at hw
      rcases hw with rfl | rfl | rfl | rfl | rfl
      · exact g2
      · exact g3
      · exact g4
      · exact g5
      · exact g1.2.1)) rfl rfl rfl ⟨g6, g1.2.2.2.2⟩ hR.1
  refine k_callR X is hC hn he (va_runSU (cc := cc) (nL := nL) (own := own) (Ts := Mw) (C := C) (b := b) (As := As) (hE.1.1 ci _ hc).2 ⟨K.1, K.2.1, K.2.2.1, K.2.2.2.1, hts⟩ hM hcw ⟨KnP.blind, k_recv K X is hC q0 ci hq (by rw [hc]; rfl), k_pre K X is hC hn⟩ rfl hlen hsz hst (lv_room hw) hdg hR.2) hs kk
end KC
end
section
theorem laX0 : ∀ w ∈ u_ws RX0 TX0 2, w ∈ Mw := by
  intro w hw
  obtain ⟨k, hk, rfl⟩ := List.mem_map.mp hw
  have hk := List.mem_range.mp hk
  match k, hk with
  | 0, _ => exact Mw_at 197 (by decide +kernel) (by decide +kernel)
  | 1, _ => exact Mw_at 199 (by decide +kernel) (by decide +kernel)
  | k + 2, hk => exact absurd hk (by omega)
theorem laX1 : ∀ w ∈ u_ws RX1 TX1 0, w ∈ Mw := by
  intro w hw
  obtain ⟨k, hk, rfl⟩ := List.mem_map.mp hw
  have hk := List.mem_range.mp hk
  exact absurd hk (Nat.not_lt_zero k)
theorem laX2 : ∀ w ∈ u_ws RX2 TX2 0, w ∈ Mw := by
  intro w hw
  obtain ⟨k, hk, rfl⟩ := List.mem_map.mp hw
  have hk := List.mem_range.mp hk
  exact absurd hk (Nat.not_lt_zero k)
theorem laX3 : ∀ w ∈ u_ws RX3 TX3 0, w ∈ Mw := by
  intro w hw
  obtain ⟨k, hk, rfl⟩ := List.mem_map.mp hw
  have hk := List.mem_range.mp hk
  exact absurd hk (Nat.not_lt_zero k)
theorem laX4 : ∀ w ∈ u_ws RX4 TX4 0, w ∈ Mw := by
  intro w hw
  obtain ⟨k, hk, rfl⟩ := List.mem_map.mp hw
  have hk := List.mem_range.mp hk
  exact absurd hk (Nat.not_lt_zero k)
theorem laX5 : ∀ w ∈ u_ws RX5 TX5 0, w ∈ Mw := by
  intro w hw
  obtain ⟨k, hk, rfl⟩ := List.mem_map.mp hw
  have hk := List.mem_range.mp hk
  exact absurd hk (Nat.not_lt_zero k)
theorem laX6 : ∀ w ∈ u_ws RX6 TX6 11, w ∈ Mw := by
  intro w hw
  obtain ⟨k, hk, rfl⟩ := List.mem_map.mp hw
  have hk := List.mem_range.mp hk
  match k, hk with
  | 0, _ => exact Mw_at 164 (by decide +kernel) (by decide +kernel)
  | 1, _ => exact Mw_at 166 (by decide +kernel) (by decide +kernel)
  | 2, _ => exact Mw_at 168 (by decide +kernel) (by decide +kernel)
  | 3, _ => exact Mw_at 170 (by decide +kernel) (by decide +kernel)
  | 4, _ => exact Mw_at 172 (by decide +kernel) (by decide +kernel)
  | 5, _ => exact Mw_at 174 (by decide +kernel) (by decide +kernel)
  | 6, _ => exact Mw_at 176 (by decide +kernel) (by decide +kernel)
  | 7, _ => exact Mw_at 178 (by decide +kernel) (by decide +kernel)
  | 8, _ => exact Mw_at 180 (by decide +kernel) (by decide +kernel)
  | 9, _ => exact Mw_at 182 (by decide +kernel) (by decide +kernel)
  | 10, _ => exact Mw_at 184 (by decide +kernel) (by decide +kernel)
  | k + 11, hk => exact absurd hk (by omega)
theorem laX7 : ∀ w ∈ u_ws RX7 TX7 3, w ∈ Mw := by
  intro w hw
  obtain ⟨k, hk, rfl⟩ := List.mem_map.mp hw
  have hk := List.mem_range.mp hk
  match k, hk with
  | 0, _ => exact Mw_at 253 (by decide +kernel) (by decide +kernel)
  | 1, _ => exact Mw_at 255 (by decide +kernel) (by decide +kernel)
  | 2, _ => exact Mw_at 257 (by decide +kernel) (by decide +kernel)
  | k + 3, hk => exact absurd hk (by omega)
theorem laX8 : ∀ w ∈ u_ws RX8 TX8 0, w ∈ Mw := by
  intro w hw
  obtain ⟨k, hk, rfl⟩ := List.mem_map.mp hw
  have hk := List.mem_range.mp hk
  exact absurd hk (Nat.not_lt_zero k)
theorem laX9 : ∀ w ∈ u_ws RX9 TX9 6, w ∈ Mw := by
  intro w hw
  obtain ⟨k, hk, rfl⟩ := List.mem_map.mp hw
  have hk := List.mem_range.mp hk
  match k, hk with
  | 0, _ => exact Mw_at 217 (by decide +kernel) (by decide +kernel)
  | 1, _ => exact Mw_at 219 (by decide +kernel) (by decide +kernel)
  | 2, _ => exact Mw_at 221 (by decide +kernel) (by decide +kernel)
  | 3, _ => exact Mw_at 223 (by decide +kernel) (by decide +kernel)
  | 4, _ => exact Mw_at 225 (by decide +kernel) (by decide +kernel)
  | 5, _ => exact Mw_at 227 (by decide +kernel) (by decide +kernel)
  | k + 6, hk => exact absurd hk (by omega)
theorem laX10 : ∀ w ∈ u_ws RX10 TX10 1, w ∈ Mw := by
  intro w hw
  obtain ⟨k, hk, rfl⟩ := List.mem_map.mp hw
  have hk := List.mem_range.mp hk
  match k, hk with
  | 0, _ => exact Mw_at 237 (by decide +kernel) (by decide +kernel)
  | k + 1, hk => exact absurd hk (by omega)
theorem laX11 : ∀ w ∈ u_ws RX11 TX11 9, w ∈ Mw := by
  intro w hw
  obtain ⟨k, hk, rfl⟩ := List.mem_map.mp hw
  have hk := List.mem_range.mp hk
  match k, hk with
  | 0, _ => exact Mw_at 270 (by decide +kernel) (by decide +kernel)
  | 1, _ => exact Mw_at 272 (by decide +kernel) (by decide +kernel)
  | 2, _ => exact Mw_at 274 (by decide +kernel) (by decide +kernel)
  | 3, _ => exact Mw_at 276 (by decide +kernel) (by decide +kernel)
  | 4, _ => exact Mw_at 278 (by decide +kernel) (by decide +kernel)
  | 5, _ => exact Mw_at 280 (by decide +kernel) (by decide +kernel)
  | 6, _ => exact Mw_at 282 (by decide +kernel) (by decide +kernel)
  | 7, _ => exact Mw_at 284 (by decide +kernel) (by decide +kernel)
  | 8, _ => exact Mw_at 286 (by decide +kernel) (by decide +kernel)
  | k + 9, hk => exact absurd hk (by omega)
theorem laX12 : ∀ w ∈ u_ws RX12 TX12 16, w ∈ Mw := by
  intro w hw
  obtain ⟨k, hk, rfl⟩ := List.mem_map.mp hw
  have hk := List.mem_range.mp hk
  match k, hk with
  | 0, _ => exact Mw_at 861 (by decide +kernel) (by decide +kernel)
  | 1, _ => exact Mw_at 863 (by decide +kernel) (by decide +kernel)
  | 2, _ => exact Mw_at 865 (by decide +kernel) (by decide +kernel)
  | 3, _ => exact Mw_at 867 (by decide +kernel) (by decide +kernel)
  | 4, _ => exact Mw_at 869 (by decide +kernel) (by decide +kernel)
  | 5, _ => exact Mw_at 871 (by decide +kernel) (by decide +kernel)
  | 6, _ => exact Mw_at 873 (by decide +kernel) (by decide +kernel)
  | 7, _ => exact Mw_at 875 (by decide +kernel) (by decide +kernel)
  | 8, _ => exact Mw_at 877 (by decide +kernel) (by decide +kernel)
  | 9, _ => exact Mw_at 879 (by decide +kernel) (by decide +kernel)
  | 10, _ => exact Mw_at 881 (by decide +kernel) (by decide +kernel)
  | 11, _ => exact Mw_at 883 (by decide +kernel) (by decide +kernel)
  | 12, _ => exact Mw_at 885 (by decide +kernel) (by decide +kernel)
  | 13, _ => exact Mw_at 887 (by decide +kernel) (by decide +kernel)
  | 14, _ => exact Mw_at 889 (by decide +kernel) (by decide +kernel)
  | 15, _ => exact Mw_at 891 (by decide +kernel) (by decide +kernel)
  | k + 16, hk => exact absurd hk (by omega)
theorem fg_X6_9 : FG RX6 9 6 0 := ⟨RX6, TX6, 11, rfl, by decide, laX6, rfl, Mw_at 139 (by decide +kernel) (by decide +kernel)⟩
theorem fg_X6_15 : FG RX6 15 6 1 := ⟨RX6, TX6, 11, rfl, by decide, laX6, rfl, Mw_at 140 (by decide +kernel) (by decide +kernel)⟩
theorem fp_X6_15 : FP RX6 15 6 1 .int := ⟨RX6, TX6, 11, rfl, by decide, laX6, rfl, Mw_at 140 (by decide +kernel) (by decide +kernel), ⟨⟨tyX6, tyX6_ok⟩, nmX6, by decide +kernel⟩, rfl⟩
theorem fg_X11_125 : FGN RX11 125 6 1 := ⟨RX6, TX6, 11, rfl, by decide, laX6, rfl, "SlipWall", Nw_at 141 (by decide +kernel) (by decide +kernel)⟩
theorem fp_X11_125 : FPN RX11 125 6 1 .int := ⟨RX6, TX6, 11, rfl, by decide, laX6, rfl, ⟨"SlipWall", Nw_at 141 (by decide +kernel) (by decide +kernel)⟩, ⟨⟨tyX6, tyX6_ok⟩, nmX6, by decide +kernel⟩, rfl⟩
theorem fg_X6_19 : FG RX6 19 6 2 := ⟨RX6, TX6, 11, rfl, by decide, laX6, rfl, Mw_at 142 (by decide +kernel) (by decide +kernel)⟩
theorem fp_X6_19 : FP RX6 19 6 2 .int := ⟨RX6, TX6, 11, rfl, by decide, laX6, rfl, Mw_at 142 (by decide +kernel) (by decide +kernel), ⟨⟨tyX6, tyX6_ok⟩, nmX6, by decide +kernel⟩, rfl⟩
theorem fg_X11_88 : FGN RX11 88 6 2 := ⟨RX6, TX6, 11, rfl, by decide, laX6, rfl, "SlipWall", Nw_at 143 (by decide +kernel) (by decide +kernel)⟩
theorem fp_X11_88 : FPN RX11 88 6 2 .int := ⟨RX6, TX6, 11, rfl, by decide, laX6, rfl, ⟨"SlipWall", Nw_at 143 (by decide +kernel) (by decide +kernel)⟩, ⟨⟨tyX6, tyX6_ok⟩, nmX6, by decide +kernel⟩, rfl⟩
theorem fg_X10_80 : FGN RX10 80 6 2 := ⟨RX6, TX6, 11, rfl, by decide, laX6, rfl, "SlipWall", Nw_at 144 (by decide +kernel) (by decide +kernel)⟩
theorem fp_X10_80 : FPN RX10 80 6 2 .int := ⟨RX6, TX6, 11, rfl, by decide, laX6, rfl, ⟨"SlipWall", Nw_at 144 (by decide +kernel) (by decide +kernel)⟩, ⟨⟨tyX6, tyX6_ok⟩, nmX6, by decide +kernel⟩, rfl⟩
theorem fg_X6_22 : FG RX6 22 6 3 := ⟨RX6, TX6, 11, rfl, by decide, laX6, rfl, Mw_at 145 (by decide +kernel) (by decide +kernel)⟩
theorem fp_X6_22 : FP RX6 22 6 3 .int := ⟨RX6, TX6, 11, rfl, by decide, laX6, rfl, Mw_at 145 (by decide +kernel) (by decide +kernel), ⟨⟨tyX6, tyX6_ok⟩, nmX6, by decide +kernel⟩, rfl⟩
theorem fg_X11_92 : FGN RX11 92 6 3 := ⟨RX6, TX6, 11, rfl, by decide, laX6, rfl, "SlipWall", Nw_at 146 (by decide +kernel) (by decide +kernel)⟩
theorem fp_X11_92 : FPN RX11 92 6 3 .int := ⟨RX6, TX6, 11, rfl, by decide, laX6, rfl, ⟨"SlipWall", Nw_at 146 (by decide +kernel) (by decide +kernel)⟩, ⟨⟨tyX6, tyX6_ok⟩, nmX6, by decide +kernel⟩, rfl⟩
theorem fg_X10_60 : FGN RX10 60 6 3 := ⟨RX6, TX6, 11, rfl, by decide, laX6, rfl, "SlipWall", Nw_at 147 (by decide +kernel) (by decide +kernel)⟩
theorem fp_X10_60 : FPN RX10 60 6 3 .int := ⟨RX6, TX6, 11, rfl, by decide, laX6, rfl, ⟨"SlipWall", Nw_at 147 (by decide +kernel) (by decide +kernel)⟩, ⟨⟨tyX6, tyX6_ok⟩, nmX6, by decide +kernel⟩, rfl⟩
theorem fg_X6_25 : FG RX6 25 6 4 := ⟨RX6, TX6, 11, rfl, by decide, laX6, rfl, Mw_at 148 (by decide +kernel) (by decide +kernel)⟩
theorem fp_X6_25 : FP RX6 25 6 4 .int := ⟨RX6, TX6, 11, rfl, by decide, laX6, rfl, Mw_at 148 (by decide +kernel) (by decide +kernel), ⟨⟨tyX6, tyX6_ok⟩, nmX6, by decide +kernel⟩, rfl⟩
theorem fg_X10_82 : FGN RX10 82 6 4 := ⟨RX6, TX6, 11, rfl, by decide, laX6, rfl, "SlipWall", Nw_at 149 (by decide +kernel) (by decide +kernel)⟩
theorem fp_X10_82 : FPN RX10 82 6 4 .int := ⟨RX6, TX6, 11, rfl, by decide, laX6, rfl, ⟨"SlipWall", Nw_at 149 (by decide +kernel) (by decide +kernel)⟩, ⟨⟨tyX6, tyX6_ok⟩, nmX6, by decide +kernel⟩, rfl⟩
theorem fg_X11_141 : FGN RX11 141 6 4 := ⟨RX6, TX6, 11, rfl, by decide, laX6, rfl, "SlipWall", Nw_at 150 (by decide +kernel) (by decide +kernel)⟩
theorem fp_X11_141 : FPN RX11 141 6 4 .int := ⟨RX6, TX6, 11, rfl, by decide, laX6, rfl, ⟨"SlipWall", Nw_at 150 (by decide +kernel) (by decide +kernel)⟩, ⟨⟨tyX6, tyX6_ok⟩, nmX6, by decide +kernel⟩, rfl⟩
theorem fg_X6_28 : FG RX6 28 6 5 := ⟨RX6, TX6, 11, rfl, by decide, laX6, rfl, Mw_at 151 (by decide +kernel) (by decide +kernel)⟩
theorem fg_X11_103 : FGN RX11 103 6 5 := ⟨RX6, TX6, 11, rfl, by decide, laX6, rfl, "SlipWall", Nw_at 152 (by decide +kernel) (by decide +kernel)⟩
theorem fg_X6_32 : FG RX6 32 6 6 := ⟨RX6, TX6, 11, rfl, by decide, laX6, rfl, Mw_at 153 (by decide +kernel) (by decide +kernel)⟩
theorem fg_X11_106 : FGN RX11 106 6 6 := ⟨RX6, TX6, 11, rfl, by decide, laX6, rfl, "SlipWall", Nw_at 154 (by decide +kernel) (by decide +kernel)⟩
theorem fg_X6_35 : FG RX6 35 6 7 := ⟨RX6, TX6, 11, rfl, by decide, laX6, rfl, Mw_at 155 (by decide +kernel) (by decide +kernel)⟩
theorem fg_X11_109 : FGN RX11 109 6 7 := ⟨RX6, TX6, 11, rfl, by decide, laX6, rfl, "SlipWall", Nw_at 156 (by decide +kernel) (by decide +kernel)⟩
theorem fg_X6_38 : FG RX6 38 6 8 := ⟨RX6, TX6, 11, rfl, by decide, laX6, rfl, Mw_at 157 (by decide +kernel) (by decide +kernel)⟩
theorem fg_X11_150 : FGN RX11 150 6 8 := ⟨RX6, TX6, 11, rfl, by decide, laX6, rfl, "SlipWall", Nw_at 158 (by decide +kernel) (by decide +kernel)⟩
theorem fg_X6_41 : FG RX6 41 6 9 := ⟨RX6, TX6, 11, rfl, by decide, laX6, rfl, Mw_at 159 (by decide +kernel) (by decide +kernel)⟩
theorem fg_X11_153 : FGN RX11 153 6 9 := ⟨RX6, TX6, 11, rfl, by decide, laX6, rfl, "SlipWall", Nw_at 160 (by decide +kernel) (by decide +kernel)⟩
theorem fg_X6_44 : FG RX6 44 6 10 := ⟨RX6, TX6, 11, rfl, by decide, laX6, rfl, Mw_at 161 (by decide +kernel) (by decide +kernel)⟩
theorem fg_X10_91 : FGN RX10 91 6 10 := ⟨RX6, TX6, 11, rfl, by decide, laX6, rfl, "SlipWall", Nw_at 162 (by decide +kernel) (by decide +kernel)⟩
theorem fg_X11_165 : FGN RX11 165 6 10 := ⟨RX6, TX6, 11, rfl, by decide, laX6, rfl, "SlipWall", Nw_at 163 (by decide +kernel) (by decide +kernel)⟩
theorem fg_X0_9 : FG RX0 9 0 0 := ⟨RX0, TX0, 2, rfl, by decide, laX0, rfl, Mw_at 194 (by decide +kernel) (by decide +kernel)⟩
theorem fp_X0_9 : FP RX0 9 0 0 .int := ⟨RX0, TX0, 2, rfl, by decide, laX0, rfl, Mw_at 194 (by decide +kernel) (by decide +kernel), ⟨⟨tyX0, tyX0_ok⟩, nmX0, by decide +kernel⟩, rfl⟩
theorem fg_X11_206 : FGN RX11 206 0 0 := ⟨RX0, TX0, 2, rfl, by decide, laX0, rfl, "SlipWall", Nw_at 195 (by decide +kernel) (by decide +kernel)⟩
theorem fp_X11_206 : FPN RX11 206 0 0 .int := ⟨RX0, TX0, 2, rfl, by decide, laX0, rfl, ⟨"SlipWall", Nw_at 195 (by decide +kernel) (by decide +kernel)⟩, ⟨⟨tyX0, tyX0_ok⟩, nmX0, by decide +kernel⟩, rfl⟩
theorem fg_X0_15 : FG RX0 15 0 1 := ⟨RX0, TX0, 2, rfl, by decide, laX0, rfl, Mw_at 196 (by decide +kernel) (by decide +kernel)⟩
theorem fp_X0_15 : FP RX0 15 0 1 .int := ⟨RX0, TX0, 2, rfl, by decide, laX0, rfl, Mw_at 196 (by decide +kernel) (by decide +kernel), ⟨⟨tyX0, tyX0_ok⟩, nmX0, by decide +kernel⟩, rfl⟩
theorem fg_X9_9 : FG RX9 9 9 0 := ⟨RX9, TX9, 6, rfl, by decide, laX9, rfl, Mw_at 208 (by decide +kernel) (by decide +kernel)⟩
theorem fg_X9_15 : FG RX9 15 9 1 := ⟨RX9, TX9, 6, rfl, by decide, laX9, rfl, Mw_at 209 (by decide +kernel) (by decide +kernel)⟩
theorem fp_X9_15 : FP RX9 15 9 1 .int := ⟨RX9, TX9, 6, rfl, by decide, laX9, rfl, Mw_at 209 (by decide +kernel) (by decide +kernel), ⟨⟨tyX9, tyX9_ok⟩, nmX9, by decide +kernel⟩, rfl⟩
theorem fg_X11_217 : FGN RX11 217 9 1 := ⟨RX9, TX9, 6, rfl, by decide, laX9, rfl, "SlipWall", Nw_at 210 (by decide +kernel) (by decide +kernel)⟩
theorem fp_X11_217 : FPN RX11 217 9 1 .int := ⟨RX9, TX9, 6, rfl, by decide, laX9, rfl, ⟨"SlipWall", Nw_at 210 (by decide +kernel) (by decide +kernel)⟩, ⟨⟨tyX9, tyX9_ok⟩, nmX9, by decide +kernel⟩, rfl⟩
theorem fg_X9_19 : FG RX9 19 9 2 := ⟨RX9, TX9, 6, rfl, by decide, laX9, rfl, Mw_at 211 (by decide +kernel) (by decide +kernel)⟩
theorem fp_X9_19 : FP RX9 19 9 2 .int := ⟨RX9, TX9, 6, rfl, by decide, laX9, rfl, Mw_at 211 (by decide +kernel) (by decide +kernel), ⟨⟨tyX9, tyX9_ok⟩, nmX9, by decide +kernel⟩, rfl⟩
theorem fg_X9_22 : FG RX9 22 9 3 := ⟨RX9, TX9, 6, rfl, by decide, laX9, rfl, Mw_at 212 (by decide +kernel) (by decide +kernel)⟩
theorem fp_X9_22 : FP RX9 22 9 3 .int := ⟨RX9, TX9, 6, rfl, by decide, laX9, rfl, Mw_at 212 (by decide +kernel) (by decide +kernel), ⟨⟨tyX9, tyX9_ok⟩, nmX9, by decide +kernel⟩, rfl⟩
theorem fg_X10_34 : FGN RX10 34 9 3 := ⟨RX9, TX9, 6, rfl, by decide, laX9, rfl, "SlipWall", Nw_at 213 (by decide +kernel) (by decide +kernel)⟩
theorem fp_X10_34 : FPN RX10 34 9 3 .int := ⟨RX9, TX9, 6, rfl, by decide, laX9, rfl, ⟨"SlipWall", Nw_at 213 (by decide +kernel) (by decide +kernel)⟩, ⟨⟨tyX9, tyX9_ok⟩, nmX9, by decide +kernel⟩, rfl⟩
theorem fg_X9_25 : FG RX9 25 9 4 := ⟨RX9, TX9, 6, rfl, by decide, laX9, rfl, Mw_at 214 (by decide +kernel) (by decide +kernel)⟩
theorem fp_X9_25 : FP RX9 25 9 4 .int := ⟨RX9, TX9, 6, rfl, by decide, laX9, rfl, Mw_at 214 (by decide +kernel) (by decide +kernel), ⟨⟨tyX9, tyX9_ok⟩, nmX9, by decide +kernel⟩, rfl⟩
theorem fg_X9_28 : FG RX9 28 9 5 := ⟨RX9, TX9, 6, rfl, by decide, laX9, rfl, Mw_at 215 (by decide +kernel) (by decide +kernel)⟩
theorem fp_X9_28 : FP RX9 28 9 5 .int := ⟨RX9, TX9, 6, rfl, by decide, laX9, rfl, Mw_at 215 (by decide +kernel) (by decide +kernel), ⟨⟨tyX9, tyX9_ok⟩, nmX9, by decide +kernel⟩, rfl⟩
theorem fg_X10_69 : FGN RX10 69 9 5 := ⟨RX9, TX9, 6, rfl, by decide, laX9, rfl, "SlipWall", Nw_at 216 (by decide +kernel) (by decide +kernel)⟩
theorem fp_X10_69 : FPN RX10 69 9 5 .int := ⟨RX9, TX9, 6, rfl, by decide, laX9, rfl, ⟨"SlipWall", Nw_at 216 (by decide +kernel) (by decide +kernel)⟩, ⟨⟨tyX9, tyX9_ok⟩, nmX9, by decide +kernel⟩, rfl⟩
theorem fg_X10_9 : FG RX10 9 10 0 := ⟨RX10, TX10, 1, rfl, by decide, laX10, rfl, Mw_at 236 (by decide +kernel) (by decide +kernel)⟩
theorem fg_X7_9 : FG RX7 9 7 0 := ⟨RX7, TX7, 3, rfl, by decide, laX7, rfl, Mw_at 247 (by decide +kernel) (by decide +kernel)⟩
theorem fp_X7_9 : FP RX7 9 7 0 .int := ⟨RX7, TX7, 3, rfl, by decide, laX7, rfl, Mw_at 247 (by decide +kernel) (by decide +kernel), ⟨⟨tyX7, tyX7_ok⟩, nmX7, by decide +kernel⟩, rfl⟩
theorem fg_X11_247 : FGN RX11 247 7 0 := ⟨RX7, TX7, 3, rfl, by decide, laX7, rfl, "SlipWall", Nw_at 248 (by decide +kernel) (by decide +kernel)⟩
theorem fp_X11_247 : FPN RX11 247 7 0 .int := ⟨RX7, TX7, 3, rfl, by decide, laX7, rfl, ⟨"SlipWall", Nw_at 248 (by decide +kernel) (by decide +kernel)⟩, ⟨⟨tyX7, tyX7_ok⟩, nmX7, by decide +kernel⟩, rfl⟩
theorem fg_X7_15 : FG RX7 15 7 1 := ⟨RX7, TX7, 3, rfl, by decide, laX7, rfl, Mw_at 249 (by decide +kernel) (by decide +kernel)⟩
theorem fp_X7_15 : FP RX7 15 7 1 .int := ⟨RX7, TX7, 3, rfl, by decide, laX7, rfl, Mw_at 249 (by decide +kernel) (by decide +kernel), ⟨⟨tyX7, tyX7_ok⟩, nmX7, by decide +kernel⟩, rfl⟩
theorem fg_X11_233 : FGN RX11 233 7 1 := ⟨RX7, TX7, 3, rfl, by decide, laX7, rfl, "SlipWall", Nw_at 250 (by decide +kernel) (by decide +kernel)⟩
theorem fp_X11_233 : FPN RX11 233 7 1 .int := ⟨RX7, TX7, 3, rfl, by decide, laX7, rfl, ⟨"SlipWall", Nw_at 250 (by decide +kernel) (by decide +kernel)⟩, ⟨⟨tyX7, tyX7_ok⟩, nmX7, by decide +kernel⟩, rfl⟩
theorem fg_X7_18 : FG RX7 18 7 2 := ⟨RX7, TX7, 3, rfl, by decide, laX7, rfl, Mw_at 251 (by decide +kernel) (by decide +kernel)⟩
theorem fg_X11_240 : FGN RX11 240 7 2 := ⟨RX7, TX7, 3, rfl, by decide, laX7, rfl, "SlipWall", Nw_at 252 (by decide +kernel) (by decide +kernel)⟩
theorem fg_X11_30 : FG RX11 30 11 0 := ⟨RX11, TX11, 9, rfl, by decide, laX11, rfl, Mw_at 261 (by decide +kernel) (by decide +kernel)⟩
theorem fg_X11_36 : FG RX11 36 11 1 := ⟨RX11, TX11, 9, rfl, by decide, laX11, rfl, Mw_at 262 (by decide +kernel) (by decide +kernel)⟩
theorem fg_X11_39 : FG RX11 39 11 2 := ⟨RX11, TX11, 9, rfl, by decide, laX11, rfl, Mw_at 263 (by decide +kernel) (by decide +kernel)⟩
theorem fg_X11_42 : FG RX11 42 11 3 := ⟨RX11, TX11, 9, rfl, by decide, laX11, rfl, Mw_at 264 (by decide +kernel) (by decide +kernel)⟩
theorem fp_X11_42 : FP RX11 42 11 3 .boolean := ⟨RX11, TX11, 9, rfl, by decide, laX11, rfl, Mw_at 264 (by decide +kernel) (by decide +kernel), ⟨⟨tyX11, tyX11_ok⟩, nmX11, by decide +kernel⟩, rfl⟩
theorem fg_X11_49 : FG RX11 49 11 4 := ⟨RX11, TX11, 9, rfl, by decide, laX11, rfl, Mw_at 265 (by decide +kernel) (by decide +kernel)⟩
theorem fg_X11_56 : FG RX11 56 11 5 := ⟨RX11, TX11, 9, rfl, by decide, laX11, rfl, Mw_at 266 (by decide +kernel) (by decide +kernel)⟩
theorem fg_X11_65 : FG RX11 65 11 6 := ⟨RX11, TX11, 9, rfl, by decide, laX11, rfl, Mw_at 267 (by decide +kernel) (by decide +kernel)⟩
theorem fg_X11_71 : FG RX11 71 11 7 := ⟨RX11, TX11, 9, rfl, by decide, laX11, rfl, Mw_at 268 (by decide +kernel) (by decide +kernel)⟩
theorem fg_X11_76 : FG RX11 76 11 8 := ⟨RX11, TX11, 9, rfl, by decide, laX11, rfl, Mw_at 269 (by decide +kernel) (by decide +kernel)⟩
theorem fg_X12_9 : FG RX12 9 12 0 := ⟨RX12, TX12, 16, rfl, by decide, laX12, rfl, Mw_at 845 (by decide +kernel) (by decide +kernel)⟩
theorem fg_X12_13 : FG RX12 13 12 1 := ⟨RX12, TX12, 16, rfl, by decide, laX12, rfl, Mw_at 846 (by decide +kernel) (by decide +kernel)⟩
theorem fg_X12_16 : FG RX12 16 12 2 := ⟨RX12, TX12, 16, rfl, by decide, laX12, rfl, Mw_at 847 (by decide +kernel) (by decide +kernel)⟩
theorem fg_X12_230 : FG RX12 230 12 3 := ⟨RX12, TX12, 16, rfl, by decide, laX12, rfl, Mw_at 848 (by decide +kernel) (by decide +kernel)⟩
theorem fp_X12_230 : FP RX12 230 12 3 .boolean := ⟨RX12, TX12, 16, rfl, by decide, laX12, rfl, Mw_at 848 (by decide +kernel) (by decide +kernel), ⟨⟨tyX12, tyX12_ok⟩, nmX12, by decide +kernel⟩, rfl⟩
theorem fg_X12_19 : FG RX12 19 12 4 := ⟨RX12, TX12, 16, rfl, by decide, laX12, rfl, Mw_at 849 (by decide +kernel) (by decide +kernel)⟩
theorem fg_X12_126 : FG RX12 126 12 5 := ⟨RX12, TX12, 16, rfl, by decide, laX12, rfl, Mw_at 850 (by decide +kernel) (by decide +kernel)⟩
theorem fp_X12_126 : FP RX12 126 12 5 .int := ⟨RX12, TX12, 16, rfl, by decide, laX12, rfl, Mw_at 850 (by decide +kernel) (by decide +kernel), ⟨⟨tyX12, tyX12_ok⟩, nmX12, by decide +kernel⟩, rfl⟩
theorem fg_X12_22 : FG RX12 22 12 6 := ⟨RX12, TX12, 16, rfl, by decide, laX12, rfl, Mw_at 851 (by decide +kernel) (by decide +kernel)⟩
theorem fg_X12_162 : FG RX12 162 12 7 := ⟨RX12, TX12, 16, rfl, by decide, laX12, rfl, Mw_at 852 (by decide +kernel) (by decide +kernel)⟩
theorem fp_X12_162 : FP RX12 162 12 7 .int := ⟨RX12, TX12, 16, rfl, by decide, laX12, rfl, Mw_at 852 (by decide +kernel) (by decide +kernel), ⟨⟨tyX12, tyX12_ok⟩, nmX12, by decide +kernel⟩, rfl⟩
theorem fg_X12_183 : FG RX12 183 12 8 := ⟨RX12, TX12, 16, rfl, by decide, laX12, rfl, Mw_at 853 (by decide +kernel) (by decide +kernel)⟩
theorem fp_X12_183 : FP RX12 183 12 8 .int := ⟨RX12, TX12, 16, rfl, by decide, laX12, rfl, Mw_at 853 (by decide +kernel) (by decide +kernel), ⟨⟨tyX12, tyX12_ok⟩, nmX12, by decide +kernel⟩, rfl⟩
theorem fg_X12_168 : FG RX12 168 12 9 := ⟨RX12, TX12, 16, rfl, by decide, laX12, rfl, Mw_at 854 (by decide +kernel) (by decide +kernel)⟩
theorem fp_X12_168 : FP RX12 168 12 9 .int := ⟨RX12, TX12, 16, rfl, by decide, laX12, rfl, Mw_at 854 (by decide +kernel) (by decide +kernel), ⟨⟨tyX12, tyX12_ok⟩, nmX12, by decide +kernel⟩, rfl⟩
theorem fg_X12_171 : FG RX12 171 12 10 := ⟨RX12, TX12, 16, rfl, by decide, laX12, rfl, Mw_at 855 (by decide +kernel) (by decide +kernel)⟩
theorem fp_X12_171 : FP RX12 171 12 10 .int := ⟨RX12, TX12, 16, rfl, by decide, laX12, rfl, Mw_at 855 (by decide +kernel) (by decide +kernel), ⟨⟨tyX12, tyX12_ok⟩, nmX12, by decide +kernel⟩, rfl⟩
theorem fg_X12_180 : FG RX12 180 12 11 := ⟨RX12, TX12, 16, rfl, by decide, laX12, rfl, Mw_at 856 (by decide +kernel) (by decide +kernel)⟩
theorem fp_X12_180 : FP RX12 180 12 11 .int := ⟨RX12, TX12, 16, rfl, by decide, laX12, rfl, Mw_at 856 (by decide +kernel) (by decide +kernel), ⟨⟨tyX12, tyX12_ok⟩, nmX12, by decide +kernel⟩, rfl⟩
theorem fg_X12_189 : FG RX12 189 12 12 := ⟨RX12, TX12, 16, rfl, by decide, laX12, rfl, Mw_at 857 (by decide +kernel) (by decide +kernel)⟩
theorem fp_X12_189 : FP RX12 189 12 12 .boolean := ⟨RX12, TX12, 16, rfl, by decide, laX12, rfl, Mw_at 857 (by decide +kernel) (by decide +kernel), ⟨⟨tyX12, tyX12_ok⟩, nmX12, by decide +kernel⟩, rfl⟩
theorem fg_X12_25 : FG RX12 25 12 13 := ⟨RX12, TX12, 16, rfl, by decide, laX12, rfl, Mw_at 858 (by decide +kernel) (by decide +kernel)⟩
theorem fg_X12_28 : FG RX12 28 12 14 := ⟨RX12, TX12, 16, rfl, by decide, laX12, rfl, Mw_at 859 (by decide +kernel) (by decide +kernel)⟩
theorem fg_X12_31 : FG RX12 31 12 15 := ⟨RX12, TX12, 16, rfl, by decide, laX12, rfl, Mw_at 860 (by decide +kernel) (by decide +kernel)⟩
theorem gb_X11_moves : OKB yX11_moves cX11_moves 3 (some .int) 1 := ⟨Mw_at 292 (by decide +kernel) (by decide +kernel), Mw_at 62 (by decide +kernel) (by decide +kernel), by decide +kernel, by decide +kernel, by decide +kernel⟩
theorem gv_L_13 : OKV RL 13 RX11 yX11_moves cX11_moves 3 (some .int) 1 := ⟨gb_X11_moves, (Mw_at 289 (by decide +kernel) (by decide +kernel)), (Mw_at 290 (by decide +kernel) (by decide +kernel)), (Mw_at 291 (by decide +kernel) (by decide +kernel))⟩
theorem gb_X11_within : OKB yX11_within cX11_within 3 (some .boolean) 3 := ⟨Mw_at 295 (by decide +kernel) (by decide +kernel), Mw_at 62 (by decide +kernel) (by decide +kernel), by decide +kernel, by decide +kernel, by decide +kernel⟩
theorem gs_X11_80 : OKS RX11 80 yX11_within cX11_within 3 (some .boolean) 3 := ⟨gb_X11_within, (Mw_at 293 (by decide +kernel) (by decide +kernel)), (Mw_at 294 (by decide +kernel) (by decide +kernel))⟩
theorem gb_X11_finding : OKB yX11_finding cX11_finding 2 (some .int) 1 := ⟨Mw_at 299 (by decide +kernel) (by decide +kernel), Mw_at 62 (by decide +kernel) (by decide +kernel), by decide +kernel, by decide +kernel, by decide +kernel⟩
theorem gv_X11_84 : OKV RX11 84 RX11 yX11_finding cX11_finding 2 (some .int) 1 := ⟨gb_X11_finding, (Mw_at 296 (by decide +kernel) (by decide +kernel)), (Mw_at 298 (by decide +kernel) (by decide +kernel)), (Mw_at 0 (by decide +kernel) (by decide +kernel))⟩
theorem gb_X11_slip : OKB yX11_slip cX11_slip 2 (some .int) 1 := ⟨Mw_at 304 (by decide +kernel) (by decide +kernel), Mw_at 62 (by decide +kernel) (by decide +kernel), by decide +kernel, by decide +kernel, by decide +kernel⟩
theorem gv_L_18 : OKV RL 18 RX11 yX11_slip cX11_slip 2 (some .int) 1 := ⟨gb_X11_slip, (Mw_at 301 (by decide +kernel) (by decide +kernel)), (Mw_at 302 (by decide +kernel) (by decide +kernel)), (Mw_at 303 (by decide +kernel) (by decide +kernel))⟩
theorem gb_X6_addSlip : OKB yX6_addSlip cX6_addSlip 3 (some .int) 2 := ⟨Mw_at 308 (by decide +kernel) (by decide +kernel), Mw_at 69 (by decide +kernel) (by decide +kernel), by decide +kernel, by decide +kernel, by decide +kernel⟩
theorem gv_X11_95 : OKV RX11 95 RX6 yX6_addSlip cX6_addSlip 3 (some .int) 2 := ⟨gb_X6_addSlip, (Mw_at 305 (by decide +kernel) (by decide +kernel)), (Mw_at 306 (by decide +kernel) (by decide +kernel)), (Mw_at 307 (by decide +kernel) (by decide +kernel))⟩
theorem gb_X11_slipOf : OKB yX11_slipOf cX11_slipOf 3 (some .int) 2 := ⟨Mw_at 312 (by decide +kernel) (by decide +kernel), Mw_at 62 (by decide +kernel) (by decide +kernel), by decide +kernel, by decide +kernel, by decide +kernel⟩
theorem gv_L_22 : OKV RL 22 RX11 yX11_slipOf cX11_slipOf 3 (some .int) 2 := ⟨gb_X11_slipOf, (Mw_at 309 (by decide +kernel) (by decide +kernel)), (Mw_at 310 (by decide +kernel) (by decide +kernel)), (Mw_at 311 (by decide +kernel) (by decide +kernel))⟩
theorem gb_X11_noSlip : OKB yX11_noSlip cX11_noSlip 2 (some .boolean) 1 := ⟨Mw_at 316 (by decide +kernel) (by decide +kernel), Mw_at 62 (by decide +kernel) (by decide +kernel), by decide +kernel, by decide +kernel, by decide +kernel⟩
theorem gv_X11_99 : OKV RX11 99 RX11 yX11_noSlip cX11_noSlip 2 (some .boolean) 1 := ⟨gb_X11_noSlip, (Mw_at 313 (by decide +kernel) (by decide +kernel)), (Mw_at 315 (by decide +kernel) (by decide +kernel)), (Mw_at 1 (by decide +kernel) (by decide +kernel))⟩
theorem gb_X6_peopleContentWith : OKB yX6_peopleContentWith cX6_peopleContentWith 4 (some .int) 1 := ⟨Mw_at 320 (by decide +kernel) (by decide +kernel), Mw_at 69 (by decide +kernel) (by decide +kernel), by decide +kernel, by decide +kernel, by decide +kernel⟩
theorem gv_X11_112 : OKV RX11 112 RX6 yX6_peopleContentWith cX6_peopleContentWith 4 (some .int) 1 := ⟨gb_X6_peopleContentWith, (Mw_at 317 (by decide +kernel) (by decide +kernel)), (Mw_at 318 (by decide +kernel) (by decide +kernel)), (Mw_at 319 (by decide +kernel) (by decide +kernel))⟩
theorem gb_X6_pleases : OKB yX6_pleases cX6_pleases 3 (some .boolean) 2 := ⟨Mw_at 324 (by decide +kernel) (by decide +kernel), Mw_at 69 (by decide +kernel) (by decide +kernel), by decide +kernel, by decide +kernel, by decide +kernel⟩
theorem gv_X6_86 : OKV RX6 86 RX6 yX6_pleases cX6_pleases 3 (some .boolean) 2 := ⟨gb_X6_pleases, (Mw_at 321 (by decide +kernel) (by decide +kernel)), (Mw_at 323 (by decide +kernel) (by decide +kernel)), (Mw_at 2 (by decide +kernel) (by decide +kernel))⟩
theorem gb_X6_wish : OKB yX6_wish cX6_wish 2 (some .int) 2 := ⟨Mw_at 327 (by decide +kernel) (by decide +kernel), Mw_at 69 (by decide +kernel) (by decide +kernel), by decide +kernel, by decide +kernel, by decide +kernel⟩
theorem gs_X6_53 : OKS RX6 53 yX6_wish cX6_wish 2 (some .int) 2 := ⟨gb_X6_wish, (Mw_at 325 (by decide +kernel) (by decide +kernel)), (Mw_at 326 (by decide +kernel) (by decide +kernel))⟩
theorem gb_X11_groupMostWanted : OKB yX11_groupMostWanted cX11_groupMostWanted 3 (some .int) 1 := ⟨Mw_at 331 (by decide +kernel) (by decide +kernel), Mw_at 62 (by decide +kernel) (by decide +kernel), by decide +kernel, by decide +kernel, by decide +kernel⟩
theorem gv_X11_115 : OKV RX11 115 RX11 yX11_groupMostWanted cX11_groupMostWanted 3 (some .int) 1 := ⟨gb_X11_groupMostWanted, (Mw_at 328 (by decide +kernel) (by decide +kernel)), (Mw_at 330 (by decide +kernel) (by decide +kernel)), (Mw_at 3 (by decide +kernel) (by decide +kernel))⟩
theorem gb_X0_forget : OKB yX0_forget cX0_forget 1 none 0 := ⟨Mw_at 335 (by decide +kernel) (by decide +kernel), Mw_at 70 (by decide +kernel) (by decide +kernel), by decide +kernel, by decide +kernel, by decide +kernel⟩
theorem gv_X11_199 : OKV RX11 199 RX0 yX0_forget cX0_forget 1 none 0 := ⟨gb_X0_forget, (Mw_at 332 (by decide +kernel) (by decide +kernel)), (Mw_at 333 (by decide +kernel) (by decide +kernel)), (Mw_at 334 (by decide +kernel) (by decide +kernel))⟩
theorem gb_X6_howManyWant : OKB yX6_howManyWant cX6_howManyWant 5 (some .int) 2 := ⟨Mw_at 339 (by decide +kernel) (by decide +kernel), Mw_at 69 (by decide +kernel) (by decide +kernel), by decide +kernel, by decide +kernel, by decide +kernel⟩
theorem gv_X11_266 : OKV RX11 266 RX6 yX6_howManyWant cX6_howManyWant 5 (some .int) 2 := ⟨gb_X6_howManyWant, (Mw_at 336 (by decide +kernel) (by decide +kernel)), (Mw_at 337 (by decide +kernel) (by decide +kernel)), (Mw_at 338 (by decide +kernel) (by decide +kernel))⟩
theorem gb_X0_offer : OKB yX0_offer cX0_offer 3 none 2 := ⟨Mw_at 343 (by decide +kernel) (by decide +kernel), Mw_at 70 (by decide +kernel) (by decide +kernel), by decide +kernel, by decide +kernel, by decide +kernel⟩
theorem gv_X11_202 : OKV RX11 202 RX0 yX0_offer cX0_offer 3 none 2 := ⟨gb_X0_offer, (Mw_at 340 (by decide +kernel) (by decide +kernel)), (Mw_at 341 (by decide +kernel) (by decide +kernel)), (Mw_at 342 (by decide +kernel) (by decide +kernel))⟩
theorem gb_X11_stick : OKB yX11_stick cX11_stick 4 (some .int) 3 := ⟨Mw_at 347 (by decide +kernel) (by decide +kernel), Mw_at 62 (by decide +kernel) (by decide +kernel), by decide +kernel, by decide +kernel, by decide +kernel⟩
theorem gv_L_27 : OKV RL 27 RX11 yX11_stick cX11_stick 4 (some .int) 3 := ⟨gb_X11_stick, (Mw_at 344 (by decide +kernel) (by decide +kernel)), (Mw_at 345 (by decide +kernel) (by decide +kernel)), (Mw_at 346 (by decide +kernel) (by decide +kernel))⟩
theorem gb_X11_put : OKB yX11_put cX11_put 7 (some .int) 5 := ⟨Mw_at 351 (by decide +kernel) (by decide +kernel), Mw_at 62 (by decide +kernel) (by decide +kernel), by decide +kernel, by decide +kernel, by decide +kernel⟩
theorem gv_X11_118 : OKV RX11 118 RX11 yX11_put cX11_put 7 (some .int) 5 := ⟨gb_X11_put, (Mw_at 348 (by decide +kernel) (by decide +kernel)), (Mw_at 350 (by decide +kernel) (by decide +kernel)), (Mw_at 4 (by decide +kernel) (by decide +kernel))⟩
theorem gb_X11_group : OKB yX11_group cX11_group 2 (some .int) 1 := ⟨Mw_at 355 (by decide +kernel) (by decide +kernel), Mw_at 62 (by decide +kernel) (by decide +kernel), by decide +kernel, by decide +kernel, by decide +kernel⟩
theorem gv_L_32 : OKV RL 32 RX11 yX11_group cX11_group 2 (some .int) 1 := ⟨gb_X11_group, (Mw_at 352 (by decide +kernel) (by decide +kernel)), (Mw_at 353 (by decide +kernel) (by decide +kernel)), (Mw_at 354 (by decide +kernel) (by decide +kernel))⟩
theorem gb_X6_slipsIn : OKB yX6_slipsIn cX6_slipsIn 4 (some .int) 1 := ⟨Mw_at 359 (by decide +kernel) (by decide +kernel), Mw_at 69 (by decide +kernel) (by decide +kernel), by decide +kernel, by decide +kernel, by decide +kernel⟩
theorem gv_X11_122 : OKV RX11 122 RX6 yX6_slipsIn cX6_slipsIn 4 (some .int) 1 := ⟨gb_X6_slipsIn, (Mw_at 356 (by decide +kernel) (by decide +kernel)), (Mw_at 357 (by decide +kernel) (by decide +kernel)), (Mw_at 358 (by decide +kernel) (by decide +kernel))⟩
theorem gb_X11_now : OKB yX11_now cX11_now 2 (some .int) 1 := ⟨Mw_at 363 (by decide +kernel) (by decide +kernel), Mw_at 62 (by decide +kernel) (by decide +kernel), by decide +kernel, by decide +kernel, by decide +kernel⟩
theorem gv_L_36 : OKV RL 36 RX11 yX11_now cX11_now 2 (some .int) 1 := ⟨gb_X11_now, (Mw_at 360 (by decide +kernel) (by decide +kernel)), (Mw_at 361 (by decide +kernel) (by decide +kernel)), (Mw_at 362 (by decide +kernel) (by decide +kernel))⟩
theorem gb_X6_whoseTurn : OKB yX6_whoseTurn cX6_whoseTurn 1 (some .int) 0 := ⟨Mw_at 367 (by decide +kernel) (by decide +kernel), Mw_at 69 (by decide +kernel) (by decide +kernel), by decide +kernel, by decide +kernel, by decide +kernel⟩
theorem gv_X11_128 : OKV RX11 128 RX6 yX6_whoseTurn cX6_whoseTurn 1 (some .int) 0 := ⟨gb_X6_whoseTurn, (Mw_at 364 (by decide +kernel) (by decide +kernel)), (Mw_at 365 (by decide +kernel) (by decide +kernel)), (Mw_at 366 (by decide +kernel) (by decide +kernel))⟩
theorem gb_X6_groupsWithSlips : OKB yX6_groupsWithSlips cX6_groupsWithSlips 3 (some .int) 0 := ⟨Mw_at 371 (by decide +kernel) (by decide +kernel), Mw_at 69 (by decide +kernel) (by decide +kernel), by decide +kernel, by decide +kernel, by decide +kernel⟩
theorem gv_X11_132 : OKV RX11 132 RX6 yX6_groupsWithSlips cX6_groupsWithSlips 3 (some .int) 0 := ⟨gb_X6_groupsWithSlips, (Mw_at 368 (by decide +kernel) (by decide +kernel)), (Mw_at 369 (by decide +kernel) (by decide +kernel)), (Mw_at 370 (by decide +kernel) (by decide +kernel))⟩
theorem gb_X6_fixedSlips : OKB yX6_fixedSlips cX6_fixedSlips 3 (some .int) 0 := ⟨Mw_at 375 (by decide +kernel) (by decide +kernel), Mw_at 69 (by decide +kernel) (by decide +kernel), by decide +kernel, by decide +kernel, by decide +kernel⟩
theorem gv_X11_135 : OKV RX11 135 RX6 yX6_fixedSlips cX6_fixedSlips 3 (some .int) 0 := ⟨gb_X6_fixedSlips, (Mw_at 372 (by decide +kernel) (by decide +kernel)), (Mw_at 373 (by decide +kernel) (by decide +kernel)), (Mw_at 374 (by decide +kernel) (by decide +kernel))⟩
theorem gb_X6_movedTogether : OKB yX6_movedTogether cX6_movedTogether 3 (some .int) 0 := ⟨Mw_at 379 (by decide +kernel) (by decide +kernel), Mw_at 69 (by decide +kernel) (by decide +kernel), by decide +kernel, by decide +kernel, by decide +kernel⟩
theorem gv_X11_138 : OKV RX11 138 RX6 yX6_movedTogether cX6_movedTogether 3 (some .int) 0 := ⟨gb_X6_movedTogether, (Mw_at 376 (by decide +kernel) (by decide +kernel)), (Mw_at 377 (by decide +kernel) (by decide +kernel)), (Mw_at 378 (by decide +kernel) (by decide +kernel))⟩
theorem gb_X11_person : OKB yX11_person cX11_person 2 (some .int) 1 := ⟨Mw_at 383 (by decide +kernel) (by decide +kernel), Mw_at 62 (by decide +kernel) (by decide +kernel), by decide +kernel, by decide +kernel, by decide +kernel⟩
theorem gv_L_40 : OKV RL 40 RX11 yX11_person cX11_person 2 (some .int) 1 := ⟨gb_X11_person, (Mw_at 380 (by decide +kernel) (by decide +kernel)), (Mw_at 381 (by decide +kernel) (by decide +kernel)), (Mw_at 382 (by decide +kernel) (by decide +kernel))⟩
theorem gb_X6_addPerson : OKB yX6_addPerson cX6_addPerson 3 (some .int) 1 := ⟨Mw_at 387 (by decide +kernel) (by decide +kernel), Mw_at 69 (by decide +kernel) (by decide +kernel), by decide +kernel, by decide +kernel, by decide +kernel⟩
theorem gv_X11_144 : OKV RX11 144 RX6 yX6_addPerson cX6_addPerson 3 (some .int) 1 := ⟨gb_X6_addPerson, (Mw_at 384 (by decide +kernel) (by decide +kernel)), (Mw_at 385 (by decide +kernel) (by decide +kernel)), (Mw_at 386 (by decide +kernel) (by decide +kernel))⟩
theorem gb_X11_of : OKB yX11_of cX11_of 3 (some .int) 2 := ⟨Mw_at 391 (by decide +kernel) (by decide +kernel), Mw_at 62 (by decide +kernel) (by decide +kernel), by decide +kernel, by decide +kernel, by decide +kernel⟩
theorem gv_L_44 : OKV RL 44 RX11 yX11_of cX11_of 3 (some .int) 2 := ⟨gb_X11_of, (Mw_at 388 (by decide +kernel) (by decide +kernel)), (Mw_at 389 (by decide +kernel) (by decide +kernel)), (Mw_at 390 (by decide +kernel) (by decide +kernel))⟩
theorem gb_X11_noPerson : OKB yX11_noPerson cX11_noPerson 2 (some .boolean) 1 := ⟨Mw_at 395 (by decide +kernel) (by decide +kernel), Mw_at 62 (by decide +kernel) (by decide +kernel), by decide +kernel, by decide +kernel, by decide +kernel⟩
theorem gv_X11_147 : OKV RX11 147 RX11 yX11_noPerson cX11_noPerson 2 (some .boolean) 1 := ⟨gb_X11_noPerson, (Mw_at 392 (by decide +kernel) (by decide +kernel)), (Mw_at 394 (by decide +kernel) (by decide +kernel)), (Mw_at 5 (by decide +kernel) (by decide +kernel))⟩
theorem gb_X6_slipsPleasing : OKB yX6_slipsPleasing cX6_slipsPleasing 4 (some .int) 1 := ⟨Mw_at 399 (by decide +kernel) (by decide +kernel), Mw_at 69 (by decide +kernel) (by decide +kernel), by decide +kernel, by decide +kernel, by decide +kernel⟩
theorem gv_X11_156 : OKV RX11 156 RX6 yX6_slipsPleasing cX6_slipsPleasing 4 (some .int) 1 := ⟨gb_X6_slipsPleasing, (Mw_at 396 (by decide +kernel) (by decide +kernel)), (Mw_at 397 (by decide +kernel) (by decide +kernel)), (Mw_at 398 (by decide +kernel) (by decide +kernel))⟩
theorem gb_X6_pickOf : OKB yX6_pickOf cX6_pickOf 5 (some .int) 1 := ⟨Mw_at 403 (by decide +kernel) (by decide +kernel), Mw_at 69 (by decide +kernel) (by decide +kernel), by decide +kernel, by decide +kernel, by decide +kernel⟩
theorem gv_X11_159 : OKV RX11 159 RX6 yX6_pickOf cX6_pickOf 5 (some .int) 1 := ⟨gb_X6_pickOf, (Mw_at 400 (by decide +kernel) (by decide +kernel)), (Mw_at 401 (by decide +kernel) (by decide +kernel)), (Mw_at 402 (by decide +kernel) (by decide +kernel))⟩
theorem gb_X4_mayTouch : OKB yX4_mayTouch cX4_mayTouch 4 (some .boolean) 3 := ⟨Mw_at 424 (by decide +kernel) (by decide +kernel), Mw_at 63 (by decide +kernel) (by decide +kernel), by decide +kernel, by decide +kernel, by decide +kernel⟩
theorem gv_X6_90 : OKV RX6 90 RX4 yX4_mayTouch cX4_mayTouch 4 (some .boolean) 3 := ⟨gb_X4_mayTouch, (Mw_at 404 (by decide +kernel) (by decide +kernel)), (Mw_at 405 (by decide +kernel) (by decide +kernel)), (Mw_at 406 (by decide +kernel) (by decide +kernel))⟩
theorem gb_X2_mayTouch : OKB yX2_mayTouch cX2_mayTouch 4 (some .boolean) 3 := ⟨Mw_at 413 (by decide +kernel) (by decide +kernel), Mw_at 64 (by decide +kernel) (by decide +kernel), by decide +kernel, by decide +kernel, by decide +kernel⟩
theorem go_X6_90_X2 : OKO RX6 90 RX2 yX4_mayTouch yX2_mayTouch cX2_mayTouch 4 (some .boolean) 3 := ⟨gb_X2_mayTouch, (Mw_at 404 (by decide +kernel) (by decide +kernel)), (Mw_at 407 (by decide +kernel) (by decide +kernel)), (Mw_at 405 (by decide +kernel) (by decide +kernel)), (Mw_at 411 (by decide +kernel) (by decide +kernel)), (Mw_at 412 (by decide +kernel) (by decide +kernel)), ⟨_, _, _, gb_X4_mayTouch.1⟩, by decide +kernel, by decide +kernel, by decide +kernel⟩
theorem gb_X8_mayTouch : OKB yX8_mayTouch cX8_mayTouch 4 (some .boolean) 3 := ⟨Mw_at 421 (by decide +kernel) (by decide +kernel), Mw_at 65 (by decide +kernel) (by decide +kernel), by decide +kernel, by decide +kernel, by decide +kernel⟩
theorem go_X6_90_X8 : OKO RX6 90 RX8 yX4_mayTouch yX8_mayTouch cX8_mayTouch 4 (some .boolean) 3 := ⟨gb_X8_mayTouch, (Mw_at 404 (by decide +kernel) (by decide +kernel)), (Mw_at 407 (by decide +kernel) (by decide +kernel)), (Mw_at 405 (by decide +kernel) (by decide +kernel)), (Mw_at 423 (by decide +kernel) (by decide +kernel)), (Mw_at 420 (by decide +kernel) (by decide +kernel)), ⟨_, _, _, gb_X4_mayTouch.1⟩, by decide +kernel, by decide +kernel, by decide +kernel⟩
theorem gb_X1_mayTouch : OKB yX1_mayTouch cX1_mayTouch 4 (some .boolean) 3 := ⟨Mw_at 410 (by decide +kernel) (by decide +kernel), Mw_at 66 (by decide +kernel) (by decide +kernel), by decide +kernel, by decide +kernel, by decide +kernel⟩
theorem go_X6_90_X1 : OKO RX6 90 RX1 yX4_mayTouch yX1_mayTouch cX1_mayTouch 4 (some .boolean) 3 := ⟨gb_X1_mayTouch, (Mw_at 404 (by decide +kernel) (by decide +kernel)), (Mw_at 407 (by decide +kernel) (by decide +kernel)), (Mw_at 405 (by decide +kernel) (by decide +kernel)), (Mw_at 408 (by decide +kernel) (by decide +kernel)), (Mw_at 409 (by decide +kernel) (by decide +kernel)), ⟨_, _, _, gb_X4_mayTouch.1⟩, by decide +kernel, by decide +kernel, by decide +kernel⟩
theorem go_X6_90_X3 : OKO RX6 90 RX3 yX4_mayTouch yX2_mayTouch cX2_mayTouch 4 (some .boolean) 3 := ⟨gb_X2_mayTouch, (Mw_at 404 (by decide +kernel) (by decide +kernel)), (Mw_at 407 (by decide +kernel) (by decide +kernel)), (Mw_at 405 (by decide +kernel) (by decide +kernel)), (Mw_at 415 (by decide +kernel) (by decide +kernel)), (Mw_at 412 (by decide +kernel) (by decide +kernel)), ⟨_, _, _, gb_X4_mayTouch.1⟩, by decide +kernel, by decide +kernel, by decide +kernel⟩
theorem gb_X5_mayTouch : OKB yX5_mayTouch cX5_mayTouch 4 (some .boolean) 3 := ⟨Mw_at 418 (by decide +kernel) (by decide +kernel), Mw_at 68 (by decide +kernel) (by decide +kernel), by decide +kernel, by decide +kernel, by decide +kernel⟩
theorem go_X6_90_X5 : OKO RX6 90 RX5 yX4_mayTouch yX5_mayTouch cX5_mayTouch 4 (some .boolean) 3 := ⟨gb_X5_mayTouch, (Mw_at 404 (by decide +kernel) (by decide +kernel)), (Mw_at 407 (by decide +kernel) (by decide +kernel)), (Mw_at 405 (by decide +kernel) (by decide +kernel)), (Mw_at 416 (by decide +kernel) (by decide +kernel)), (Mw_at 417 (by decide +kernel) (by decide +kernel)), ⟨_, _, _, gb_X4_mayTouch.1⟩, by decide +kernel, by decide +kernel, by decide +kernel⟩
theorem gu_X2_11 : OKU RX2 11 yX4_mayTouch cX4_mayTouch 4 (some .boolean) 3 := ⟨gb_X4_mayTouch, (Mw_at 414 (by decide +kernel) (by decide +kernel)), (Mw_at 407 (by decide +kernel) (by decide +kernel)), (Mw_at 104 (by decide +kernel) (by decide +kernel)), (Mw_at 405 (by decide +kernel) (by decide +kernel)), by decide +kernel⟩
theorem gu_X5_11 : OKU RX5 11 yX8_mayTouch cX8_mayTouch 4 (some .boolean) 3 := ⟨gb_X8_mayTouch, (Mw_at 419 (by decide +kernel) (by decide +kernel)), (Mw_at 1251 (by decide +kernel) (by decide +kernel)), (Mw_at 132 (by decide +kernel) (by decide +kernel)), (Mw_at 420 (by decide +kernel) (by decide +kernel)), by decide +kernel⟩
theorem gu_X8_11 : OKU RX8 11 yX4_mayTouch cX4_mayTouch 4 (some .boolean) 3 := ⟨gb_X4_mayTouch, (Mw_at 422 (by decide +kernel) (by decide +kernel)), (Mw_at 407 (by decide +kernel) (by decide +kernel)), (Mw_at 111 (by decide +kernel) (by decide +kernel)), (Mw_at 405 (by decide +kernel) (by decide +kernel)), by decide +kernel⟩
theorem gb_X4_prefers : OKB yX4_prefers cX4_prefers 3 (some .boolean) 2 := ⟨Mw_at 438 (by decide +kernel) (by decide +kernel), Mw_at 63 (by decide +kernel) (by decide +kernel), by decide +kernel, by decide +kernel, by decide +kernel⟩
theorem gv_X6_94 : OKV RX6 94 RX4 yX4_prefers cX4_prefers 3 (some .boolean) 2 := ⟨gb_X4_prefers, (Mw_at 425 (by decide +kernel) (by decide +kernel)), (Mw_at 426 (by decide +kernel) (by decide +kernel)), (Mw_at 427 (by decide +kernel) (by decide +kernel))⟩
theorem gb_X2_prefers : OKB yX2_prefers cX2_prefers 3 (some .boolean) 2 := ⟨Mw_at 434 (by decide +kernel) (by decide +kernel), Mw_at 64 (by decide +kernel) (by decide +kernel), by decide +kernel, by decide +kernel, by decide +kernel⟩
theorem go_X6_94_X2 : OKO RX6 94 RX2 yX4_prefers yX2_prefers cX2_prefers 3 (some .boolean) 2 := ⟨gb_X2_prefers, (Mw_at 425 (by decide +kernel) (by decide +kernel)), (Mw_at 428 (by decide +kernel) (by decide +kernel)), (Mw_at 426 (by decide +kernel) (by decide +kernel)), (Mw_at 432 (by decide +kernel) (by decide +kernel)), (Mw_at 433 (by decide +kernel) (by decide +kernel)), ⟨_, _, _, gb_X4_prefers.1⟩, by decide +kernel, by decide +kernel, by decide +kernel⟩
theorem go_X6_94_X8 : OKO RX6 94 RX8 yX4_prefers yX4_prefers cX4_prefers 3 (some .boolean) 2 := ⟨gb_X4_prefers, (Mw_at 425 (by decide +kernel) (by decide +kernel)), (Mw_at 428 (by decide +kernel) (by decide +kernel)), (Mw_at 426 (by decide +kernel) (by decide +kernel)), (Mw_at 437 (by decide +kernel) (by decide +kernel)), (Mw_at 426 (by decide +kernel) (by decide +kernel)), ⟨_, _, _, gb_X4_prefers.1⟩, by decide +kernel, by decide +kernel, by decide +kernel⟩
theorem gb_X1_prefers : OKB yX1_prefers cX1_prefers 3 (some .boolean) 2 := ⟨Mw_at 431 (by decide +kernel) (by decide +kernel), Mw_at 66 (by decide +kernel) (by decide +kernel), by decide +kernel, by decide +kernel, by decide +kernel⟩
theorem go_X6_94_X1 : OKO RX6 94 RX1 yX4_prefers yX1_prefers cX1_prefers 3 (some .boolean) 2 := ⟨gb_X1_prefers, (Mw_at 425 (by decide +kernel) (by decide +kernel)), (Mw_at 428 (by decide +kernel) (by decide +kernel)), (Mw_at 426 (by decide +kernel) (by decide +kernel)), (Mw_at 429 (by decide +kernel) (by decide +kernel)), (Mw_at 430 (by decide +kernel) (by decide +kernel)), ⟨_, _, _, gb_X4_prefers.1⟩, by decide +kernel, by decide +kernel, by decide +kernel⟩
theorem go_X6_94_X3 : OKO RX6 94 RX3 yX4_prefers yX2_prefers cX2_prefers 3 (some .boolean) 2 := ⟨gb_X2_prefers, (Mw_at 425 (by decide +kernel) (by decide +kernel)), (Mw_at 428 (by decide +kernel) (by decide +kernel)), (Mw_at 426 (by decide +kernel) (by decide +kernel)), (Mw_at 435 (by decide +kernel) (by decide +kernel)), (Mw_at 433 (by decide +kernel) (by decide +kernel)), ⟨_, _, _, gb_X4_prefers.1⟩, by decide +kernel, by decide +kernel, by decide +kernel⟩
theorem go_X6_94_X5 : OKO RX6 94 RX5 yX4_prefers yX4_prefers cX4_prefers 3 (some .boolean) 2 := ⟨gb_X4_prefers, (Mw_at 425 (by decide +kernel) (by decide +kernel)), (Mw_at 428 (by decide +kernel) (by decide +kernel)), (Mw_at 426 (by decide +kernel) (by decide +kernel)), (Mw_at 436 (by decide +kernel) (by decide +kernel)), (Mw_at 426 (by decide +kernel) (by decide +kernel)), ⟨_, _, _, gb_X4_prefers.1⟩, by decide +kernel, by decide +kernel, by decide +kernel⟩
theorem gb_X6_turnsOf : OKB yX6_turnsOf cX6_turnsOf 2 (some .int) 1 := ⟨Mw_at 442 (by decide +kernel) (by decide +kernel), Mw_at 69 (by decide +kernel) (by decide +kernel), by decide +kernel, by decide +kernel, by decide +kernel⟩
theorem gv_X11_162 : OKV RX11 162 RX6 yX6_turnsOf cX6_turnsOf 2 (some .int) 1 := ⟨gb_X6_turnsOf, (Mw_at 439 (by decide +kernel) (by decide +kernel)), (Mw_at 440 (by decide +kernel) (by decide +kernel)), (Mw_at 441 (by decide +kernel) (by decide +kernel))⟩
theorem gb_X4_turns : OKB yX4_turns cX4_turns 1 (some .int) 0 := ⟨Mw_at 458 (by decide +kernel) (by decide +kernel), Mw_at 63 (by decide +kernel) (by decide +kernel), by decide +kernel, by decide +kernel, by decide +kernel⟩
theorem gv_X6_97 : OKV RX6 97 RX4 yX4_turns cX4_turns 1 (some .int) 0 := ⟨gb_X4_turns, (Mw_at 443 (by decide +kernel) (by decide +kernel)), (Mw_at 444 (by decide +kernel) (by decide +kernel)), (Mw_at 445 (by decide +kernel) (by decide +kernel))⟩
theorem gb_X2_turns : OKB yX2_turns cX2_turns 1 (some .int) 0 := ⟨Mw_at 450 (by decide +kernel) (by decide +kernel), Mw_at 64 (by decide +kernel) (by decide +kernel), by decide +kernel, by decide +kernel, by decide +kernel⟩
theorem go_X6_97_X2 : OKO RX6 97 RX2 yX4_turns yX2_turns cX2_turns 1 (some .int) 0 := ⟨gb_X2_turns, (Mw_at 443 (by decide +kernel) (by decide +kernel)), (Mw_at 446 (by decide +kernel) (by decide +kernel)), (Mw_at 444 (by decide +kernel) (by decide +kernel)), (Mw_at 448 (by decide +kernel) (by decide +kernel)), (Mw_at 449 (by decide +kernel) (by decide +kernel)), ⟨_, _, _, gb_X4_turns.1⟩, by decide +kernel, by decide +kernel, by decide +kernel⟩
theorem go_X6_97_X8 : OKO RX6 97 RX8 yX4_turns yX4_turns cX4_turns 1 (some .int) 0 := ⟨gb_X4_turns, (Mw_at 443 (by decide +kernel) (by decide +kernel)), (Mw_at 446 (by decide +kernel) (by decide +kernel)), (Mw_at 444 (by decide +kernel) (by decide +kernel)), (Mw_at 457 (by decide +kernel) (by decide +kernel)), (Mw_at 444 (by decide +kernel) (by decide +kernel)), ⟨_, _, _, gb_X4_turns.1⟩, by decide +kernel, by decide +kernel, by decide +kernel⟩
theorem go_X6_97_X1 : OKO RX6 97 RX1 yX4_turns yX4_turns cX4_turns 1 (some .int) 0 := ⟨gb_X4_turns, (Mw_at 443 (by decide +kernel) (by decide +kernel)), (Mw_at 446 (by decide +kernel) (by decide +kernel)), (Mw_at 444 (by decide +kernel) (by decide +kernel)), (Mw_at 447 (by decide +kernel) (by decide +kernel)), (Mw_at 444 (by decide +kernel) (by decide +kernel)), ⟨_, _, _, gb_X4_turns.1⟩, by decide +kernel, by decide +kernel, by decide +kernel⟩
theorem gb_X3_turns : OKB yX3_turns cX3_turns 1 (some .int) 0 := ⟨Mw_at 454 (by decide +kernel) (by decide +kernel), Mw_at 67 (by decide +kernel) (by decide +kernel), by decide +kernel, by decide +kernel, by decide +kernel⟩
theorem go_X6_97_X3 : OKO RX6 97 RX3 yX4_turns yX3_turns cX3_turns 1 (some .int) 0 := ⟨gb_X3_turns, (Mw_at 443 (by decide +kernel) (by decide +kernel)), (Mw_at 446 (by decide +kernel) (by decide +kernel)), (Mw_at 444 (by decide +kernel) (by decide +kernel)), (Mw_at 452 (by decide +kernel) (by decide +kernel)), (Mw_at 453 (by decide +kernel) (by decide +kernel)), ⟨_, _, _, gb_X4_turns.1⟩, by decide +kernel, by decide +kernel, by decide +kernel⟩
theorem go_X6_97_X5 : OKO RX6 97 RX5 yX4_turns yX4_turns cX4_turns 1 (some .int) 0 := ⟨gb_X4_turns, (Mw_at 443 (by decide +kernel) (by decide +kernel)), (Mw_at 446 (by decide +kernel) (by decide +kernel)), (Mw_at 444 (by decide +kernel) (by decide +kernel)), (Mw_at 456 (by decide +kernel) (by decide +kernel)), (Mw_at 444 (by decide +kernel) (by decide +kernel)), ⟨_, _, _, gb_X4_turns.1⟩, by decide +kernel, by decide +kernel, by decide +kernel⟩
theorem gu_X2_15 : OKU RX2 15 yX4_turns cX4_turns 1 (some .int) 0 := ⟨gb_X4_turns, (Mw_at 451 (by decide +kernel) (by decide +kernel)), (Mw_at 446 (by decide +kernel) (by decide +kernel)), (Mw_at 104 (by decide +kernel) (by decide +kernel)), (Mw_at 444 (by decide +kernel) (by decide +kernel)), by decide +kernel⟩
theorem gu_X3_11 : OKU RX3 11 yX2_turns cX2_turns 1 (some .int) 0 := ⟨gb_X2_turns, (Mw_at 455 (by decide +kernel) (by decide +kernel)), (Mw_at 1252 (by decide +kernel) (by decide +kernel)), (Mw_at 125 (by decide +kernel) (by decide +kernel)), (Mw_at 449 (by decide +kernel) (by decide +kernel)), by decide +kernel⟩
theorem gb_X11_wants : OKB yX11_wants cX11_wants 4 (some .int) 3 := ⟨Mw_at 462 (by decide +kernel) (by decide +kernel), Mw_at 62 (by decide +kernel) (by decide +kernel), by decide +kernel, by decide +kernel, by decide +kernel⟩
theorem gv_L_48 : OKV RL 48 RX11 yX11_wants cX11_wants 4 (some .int) 3 := ⟨gb_X11_wants, (Mw_at 459 (by decide +kernel) (by decide +kernel)), (Mw_at 460 (by decide +kernel) (by decide +kernel)), (Mw_at 461 (by decide +kernel) (by decide +kernel))⟩
theorem gs_X11_168 : OKS RX11 168 yX6_wish cX6_wish 2 (some .int) 2 := ⟨gb_X6_wish, (Mw_at 463 (by decide +kernel) (by decide +kernel)), (Mw_at 326 (by decide +kernel) (by decide +kernel))⟩
theorem gb_X11_out : OKB yX11_out cX11_out 3 (some .int) 2 := ⟨Mw_at 467 (by decide +kernel) (by decide +kernel), Mw_at 62 (by decide +kernel) (by decide +kernel), by decide +kernel, by decide +kernel, by decide +kernel⟩
theorem gv_L_52 : OKV RL 52 RX11 yX11_out cX11_out 3 (some .int) 2 := ⟨gb_X11_out, (Mw_at 464 (by decide +kernel) (by decide +kernel)), (Mw_at 465 (by decide +kernel) (by decide +kernel)), (Mw_at 466 (by decide +kernel) (by decide +kernel))⟩
theorem gb_X11_turn : OKB yX11_turn cX11_turn 3 (some .int) 2 := ⟨Mw_at 471 (by decide +kernel) (by decide +kernel), Mw_at 62 (by decide +kernel) (by decide +kernel), by decide +kernel, by decide +kernel, by decide +kernel⟩
theorem gv_L_56 : OKV RL 56 RX11 yX11_turn cX11_turn 3 (some .int) 2 := ⟨gb_X11_turn, (Mw_at 468 (by decide +kernel) (by decide +kernel)), (Mw_at 469 (by decide +kernel) (by decide +kernel)), (Mw_at 470 (by decide +kernel) (by decide +kernel))⟩
theorem gb_X11_as : OKB yX11_as cX11_as 3 (some .int) 2 := ⟨Mw_at 475 (by decide +kernel) (by decide +kernel), Mw_at 62 (by decide +kernel) (by decide +kernel), by decide +kernel, by decide +kernel, by decide +kernel⟩
theorem gv_L_60 : OKV RL 60 RX11 yX11_as cX11_as 3 (some .int) 2 := ⟨gb_X11_as, (Mw_at 472 (by decide +kernel) (by decide +kernel)), (Mw_at 473 (by decide +kernel) (by decide +kernel)), (Mw_at 474 (by decide +kernel) (by decide +kernel))⟩
theorem gb_X6_isOfKind : OKB yX6_isOfKind cX6_isOfKind 3 (some .boolean) 2 := ⟨Mw_at 479 (by decide +kernel) (by decide +kernel), Mw_at 69 (by decide +kernel) (by decide +kernel), by decide +kernel, by decide +kernel, by decide +kernel⟩
theorem gv_X11_171 : OKV RX11 171 RX6 yX6_isOfKind cX6_isOfKind 3 (some .boolean) 2 := ⟨gb_X6_isOfKind, (Mw_at 476 (by decide +kernel) (by decide +kernel)), (Mw_at 477 (by decide +kernel) (by decide +kernel)), (Mw_at 478 (by decide +kernel) (by decide +kernel))⟩
theorem gb_X4_isKind : OKB yX4_isKind cX4_isKind 2 (some .boolean) 1 := ⟨Mw_at 504 (by decide +kernel) (by decide +kernel), Mw_at 63 (by decide +kernel) (by decide +kernel), by decide +kernel, by decide +kernel, by decide +kernel⟩
theorem gv_X6_100 : OKV RX6 100 RX4 yX4_isKind cX4_isKind 2 (some .boolean) 1 := ⟨gb_X4_isKind, (Mw_at 480 (by decide +kernel) (by decide +kernel)), (Mw_at 481 (by decide +kernel) (by decide +kernel)), (Mw_at 482 (by decide +kernel) (by decide +kernel))⟩
theorem gb_X2_isKind : OKB yX2_isKind cX2_isKind 2 (some .boolean) 1 := ⟨Mw_at 490 (by decide +kernel) (by decide +kernel), Mw_at 64 (by decide +kernel) (by decide +kernel), by decide +kernel, by decide +kernel, by decide +kernel⟩
theorem go_X6_100_X2 : OKO RX6 100 RX2 yX4_isKind yX2_isKind cX2_isKind 2 (some .boolean) 1 := ⟨gb_X2_isKind, (Mw_at 480 (by decide +kernel) (by decide +kernel)), (Mw_at 483 (by decide +kernel) (by decide +kernel)), (Mw_at 481 (by decide +kernel) (by decide +kernel)), (Mw_at 488 (by decide +kernel) (by decide +kernel)), (Mw_at 489 (by decide +kernel) (by decide +kernel)), ⟨_, _, _, gb_X4_isKind.1⟩, by decide +kernel, by decide +kernel, by decide +kernel⟩
theorem gb_X8_isKind : OKB yX8_isKind cX8_isKind 2 (some .boolean) 1 := ⟨Mw_at 501 (by decide +kernel) (by decide +kernel), Mw_at 65 (by decide +kernel) (by decide +kernel), by decide +kernel, by decide +kernel, by decide +kernel⟩
theorem go_X6_100_X8 : OKO RX6 100 RX8 yX4_isKind yX8_isKind cX8_isKind 2 (some .boolean) 1 := ⟨gb_X8_isKind, (Mw_at 480 (by decide +kernel) (by decide +kernel)), (Mw_at 483 (by decide +kernel) (by decide +kernel)), (Mw_at 481 (by decide +kernel) (by decide +kernel)), (Mw_at 503 (by decide +kernel) (by decide +kernel)), (Mw_at 500 (by decide +kernel) (by decide +kernel)), ⟨_, _, _, gb_X4_isKind.1⟩, by decide +kernel, by decide +kernel, by decide +kernel⟩
theorem gb_X1_isKind : OKB yX1_isKind cX1_isKind 2 (some .boolean) 1 := ⟨Mw_at 486 (by decide +kernel) (by decide +kernel), Mw_at 66 (by decide +kernel) (by decide +kernel), by decide +kernel, by decide +kernel, by decide +kernel⟩
theorem go_X6_100_X1 : OKO RX6 100 RX1 yX4_isKind yX1_isKind cX1_isKind 2 (some .boolean) 1 := ⟨gb_X1_isKind, (Mw_at 480 (by decide +kernel) (by decide +kernel)), (Mw_at 483 (by decide +kernel) (by decide +kernel)), (Mw_at 481 (by decide +kernel) (by decide +kernel)), (Mw_at 484 (by decide +kernel) (by decide +kernel)), (Mw_at 485 (by decide +kernel) (by decide +kernel)), ⟨_, _, _, gb_X4_isKind.1⟩, by decide +kernel, by decide +kernel, by decide +kernel⟩
theorem gb_X3_isKind : OKB yX3_isKind cX3_isKind 2 (some .boolean) 1 := ⟨Mw_at 494 (by decide +kernel) (by decide +kernel), Mw_at 67 (by decide +kernel) (by decide +kernel), by decide +kernel, by decide +kernel, by decide +kernel⟩
theorem go_X6_100_X3 : OKO RX6 100 RX3 yX4_isKind yX3_isKind cX3_isKind 2 (some .boolean) 1 := ⟨gb_X3_isKind, (Mw_at 480 (by decide +kernel) (by decide +kernel)), (Mw_at 483 (by decide +kernel) (by decide +kernel)), (Mw_at 481 (by decide +kernel) (by decide +kernel)), (Mw_at 492 (by decide +kernel) (by decide +kernel)), (Mw_at 493 (by decide +kernel) (by decide +kernel)), ⟨_, _, _, gb_X4_isKind.1⟩, by decide +kernel, by decide +kernel, by decide +kernel⟩
theorem gb_X5_isKind : OKB yX5_isKind cX5_isKind 2 (some .boolean) 1 := ⟨Mw_at 498 (by decide +kernel) (by decide +kernel), Mw_at 68 (by decide +kernel) (by decide +kernel), by decide +kernel, by decide +kernel, by decide +kernel⟩
theorem go_X6_100_X5 : OKO RX6 100 RX5 yX4_isKind yX5_isKind cX5_isKind 2 (some .boolean) 1 := ⟨gb_X5_isKind, (Mw_at 480 (by decide +kernel) (by decide +kernel)), (Mw_at 483 (by decide +kernel) (by decide +kernel)), (Mw_at 481 (by decide +kernel) (by decide +kernel)), (Mw_at 496 (by decide +kernel) (by decide +kernel)), (Mw_at 497 (by decide +kernel) (by decide +kernel)), ⟨_, _, _, gb_X4_isKind.1⟩, by decide +kernel, by decide +kernel, by decide +kernel⟩
theorem gu_X1_7 : OKU RX1 7 yX4_isKind cX4_isKind 2 (some .boolean) 1 := ⟨gb_X4_isKind, (Mw_at 487 (by decide +kernel) (by decide +kernel)), (Mw_at 483 (by decide +kernel) (by decide +kernel)), (Mw_at 118 (by decide +kernel) (by decide +kernel)), (Mw_at 481 (by decide +kernel) (by decide +kernel)), by decide +kernel⟩
theorem gu_X2_7 : OKU RX2 7 yX4_isKind cX4_isKind 2 (some .boolean) 1 := ⟨gb_X4_isKind, (Mw_at 491 (by decide +kernel) (by decide +kernel)), (Mw_at 483 (by decide +kernel) (by decide +kernel)), (Mw_at 104 (by decide +kernel) (by decide +kernel)), (Mw_at 481 (by decide +kernel) (by decide +kernel)), by decide +kernel⟩
theorem gu_X3_7 : OKU RX3 7 yX2_isKind cX2_isKind 2 (some .boolean) 1 := ⟨gb_X2_isKind, (Mw_at 495 (by decide +kernel) (by decide +kernel)), (Mw_at 1253 (by decide +kernel) (by decide +kernel)), (Mw_at 125 (by decide +kernel) (by decide +kernel)), (Mw_at 489 (by decide +kernel) (by decide +kernel)), by decide +kernel⟩
theorem gu_X5_7 : OKU RX5 7 yX8_isKind cX8_isKind 2 (some .boolean) 1 := ⟨gb_X8_isKind, (Mw_at 499 (by decide +kernel) (by decide +kernel)), (Mw_at 1254 (by decide +kernel) (by decide +kernel)), (Mw_at 132 (by decide +kernel) (by decide +kernel)), (Mw_at 500 (by decide +kernel) (by decide +kernel)), by decide +kernel⟩
theorem gu_X8_7 : OKU RX8 7 yX4_isKind cX4_isKind 2 (some .boolean) 1 := ⟨gb_X4_isKind, (Mw_at 502 (by decide +kernel) (by decide +kernel)), (Mw_at 483 (by decide +kernel) (by decide +kernel)), (Mw_at 111 (by decide +kernel) (by decide +kernel)), (Mw_at 481 (by decide +kernel) (by decide +kernel)), by decide +kernel⟩
theorem gb_X6_wayCount : OKB yX6_wayCount cX6_wayCount 2 (some .int) 1 := ⟨Mw_at 508 (by decide +kernel) (by decide +kernel), Mw_at 69 (by decide +kernel) (by decide +kernel), by decide +kernel, by decide +kernel, by decide +kernel⟩
theorem gv_X11_175 : OKV RX11 175 RX6 yX6_wayCount cX6_wayCount 2 (some .int) 1 := ⟨gb_X6_wayCount, (Mw_at 505 (by decide +kernel) (by decide +kernel)), (Mw_at 506 (by decide +kernel) (by decide +kernel)), (Mw_at 507 (by decide +kernel) (by decide +kernel))⟩
theorem gv_X6_103 : OKV RX6 103 RX6 yX6_slipsPleasing cX6_slipsPleasing 4 (some .int) 1 := ⟨gb_X6_slipsPleasing, (Mw_at 509 (by decide +kernel) (by decide +kernel)), (Mw_at 397 (by decide +kernel) (by decide +kernel)), (Mw_at 398 (by decide +kernel) (by decide +kernel))⟩
theorem gb_J6_bitCount_0f7a4 : OKB yJ6_bitCount_0f7a4 cJ6_bitCount_0f7a4 1 (some .int) 1 := ⟨Mw_at 512 (by decide +kernel) (by decide +kernel), Mw_at 75 (by decide +kernel) (by decide +kernel), by decide +kernel, by decide +kernel, by decide +kernel⟩
theorem gs_X6_106 : OKS RX6 106 yJ6_bitCount_0f7a4 cJ6_bitCount_0f7a4 1 (some .int) 1 := ⟨gb_J6_bitCount_0f7a4, (Mw_at 510 (by decide +kernel) (by decide +kernel)), (Mw_at 511 (by decide +kernel) (by decide +kernel))⟩
theorem gb_X11_alike : OKB yX11_alike cX11_alike 3 (some .int) 2 := ⟨Mw_at 519 (by decide +kernel) (by decide +kernel), Mw_at 62 (by decide +kernel) (by decide +kernel), by decide +kernel, by decide +kernel, by decide +kernel⟩
theorem gv_L_64 : OKV RL 64 RX11 yX11_alike cX11_alike 3 (some .int) 2 := ⟨gb_X11_alike, (Mw_at 516 (by decide +kernel) (by decide +kernel)), (Mw_at 517 (by decide +kernel) (by decide +kernel)), (Mw_at 518 (by decide +kernel) (by decide +kernel))⟩
theorem gb_X6_sameWishes : OKB yX6_sameWishes cX6_sameWishes 5 (some .int) 2 := ⟨Mw_at 523 (by decide +kernel) (by decide +kernel), Mw_at 69 (by decide +kernel) (by decide +kernel), by decide +kernel, by decide +kernel, by decide +kernel⟩
theorem gv_X11_178 : OKV RX11 178 RX6 yX6_sameWishes cX6_sameWishes 5 (some .int) 2 := ⟨gb_X6_sameWishes, (Mw_at 520 (by decide +kernel) (by decide +kernel)), (Mw_at 521 (by decide +kernel) (by decide +kernel)), (Mw_at 522 (by decide +kernel) (by decide +kernel))⟩
theorem gb_X11_minutes : OKB yX11_minutes cX11_minutes 2 (some .int) 1 := ⟨Mw_at 527 (by decide +kernel) (by decide +kernel), Mw_at 62 (by decide +kernel) (by decide +kernel), by decide +kernel, by decide +kernel, by decide +kernel⟩
theorem gv_L_68 : OKV RL 68 RX11 yX11_minutes cX11_minutes 2 (some .int) 1 := ⟨gb_X11_minutes, (Mw_at 524 (by decide +kernel) (by decide +kernel)), (Mw_at 525 (by decide +kernel) (by decide +kernel)), (Mw_at 526 (by decide +kernel) (by decide +kernel))⟩
theorem gb_X6_passMinutes : OKB yX6_passMinutes cX6_passMinutes 3 none 1 := ⟨Mw_at 532 (by decide +kernel) (by decide +kernel), Mw_at 69 (by decide +kernel) (by decide +kernel), by decide +kernel, by decide +kernel, by decide +kernel⟩
theorem gv_X11_182 : OKV RX11 182 RX6 yX6_passMinutes cX6_passMinutes 3 none 1 := ⟨gb_X6_passMinutes, (Mw_at 529 (by decide +kernel) (by decide +kernel)), (Mw_at 530 (by decide +kernel) (by decide +kernel)), (Mw_at 531 (by decide +kernel) (by decide +kernel))⟩
theorem gb_X6_passMinute : OKB yX6_passMinute cX6_passMinute 6 (some .int) 0 := ⟨Mw_at 536 (by decide +kernel) (by decide +kernel), Mw_at 69 (by decide +kernel) (by decide +kernel), by decide +kernel, by decide +kernel, by decide +kernel⟩
theorem gv_X6_57 : OKV RX6 57 RX6 yX6_passMinute cX6_passMinute 6 (some .int) 0 := ⟨gb_X6_passMinute, (Mw_at 533 (by decide +kernel) (by decide +kernel)), (Mw_at 534 (by decide +kernel) (by decide +kernel)), (Mw_at 535 (by decide +kernel) (by decide +kernel))⟩
theorem gv_X6_61 : OKV RX6 61 RX6 yX6_whoseTurn cX6_whoseTurn 1 (some .int) 0 := ⟨gb_X6_whoseTurn, (Mw_at 537 (by decide +kernel) (by decide +kernel)), (Mw_at 365 (by decide +kernel) (by decide +kernel)), (Mw_at 366 (by decide +kernel) (by decide +kernel))⟩
theorem gv_X6_64 : OKV RX6 64 RX6 yX6_turnsOf cX6_turnsOf 2 (some .int) 1 := ⟨gb_X6_turnsOf, (Mw_at 538 (by decide +kernel) (by decide +kernel)), (Mw_at 440 (by decide +kernel) (by decide +kernel)), (Mw_at 441 (by decide +kernel) (by decide +kernel))⟩
theorem gv_X6_68 : OKV RX6 68 RX6 yX6_pickOf cX6_pickOf 5 (some .int) 1 := ⟨gb_X6_pickOf, (Mw_at 539 (by decide +kernel) (by decide +kernel)), (Mw_at 401 (by decide +kernel) (by decide +kernel)), (Mw_at 402 (by decide +kernel) (by decide +kernel))⟩
theorem gb_X6_shift : OKB yX6_shift cX6_shift 3 none 2 := ⟨Mw_at 543 (by decide +kernel) (by decide +kernel), Mw_at 69 (by decide +kernel) (by decide +kernel), by decide +kernel, by decide +kernel, by decide +kernel⟩
theorem gv_X6_71 : OKV RX6 71 RX6 yX6_shift cX6_shift 3 none 2 := ⟨gb_X6_shift, (Mw_at 540 (by decide +kernel) (by decide +kernel)), (Mw_at 542 (by decide +kernel) (by decide +kernel)), (Mw_at 6 (by decide +kernel) (by decide +kernel))⟩
theorem gb_J9_min_7cf53 : OKB yJ9_min_7cf53 cJ9_min_7cf53 2 (some .int) 2 := ⟨Mw_at 546 (by decide +kernel) (by decide +kernel), Mw_at 76 (by decide +kernel) (by decide +kernel), by decide +kernel, by decide +kernel, by decide +kernel⟩
theorem gs_X6_75 : OKS RX6 75 yJ9_min_7cf53 cJ9_min_7cf53 2 (some .int) 2 := ⟨gb_J9_min_7cf53, (Mw_at 544 (by decide +kernel) (by decide +kernel)), (Mw_at 545 (by decide +kernel) (by decide +kernel))⟩
theorem gb_X4_fixes : OKB yX4_fixes cX4_fixes 2 (some .boolean) 1 := ⟨Mw_at 560 (by decide +kernel) (by decide +kernel), Mw_at 63 (by decide +kernel) (by decide +kernel), by decide +kernel, by decide +kernel, by decide +kernel⟩
theorem gv_X6_80 : OKV RX6 80 RX4 yX4_fixes cX4_fixes 2 (some .boolean) 1 := ⟨gb_X4_fixes, (Mw_at 547 (by decide +kernel) (by decide +kernel)), (Mw_at 548 (by decide +kernel) (by decide +kernel)), (Mw_at 549 (by decide +kernel) (by decide +kernel))⟩
theorem go_X6_80_X2 : OKO RX6 80 RX2 yX4_fixes yX4_fixes cX4_fixes 2 (some .boolean) 1 := ⟨gb_X4_fixes, (Mw_at 547 (by decide +kernel) (by decide +kernel)), (Mw_at 550 (by decide +kernel) (by decide +kernel)), (Mw_at 548 (by decide +kernel) (by decide +kernel)), (Mw_at 554 (by decide +kernel) (by decide +kernel)), (Mw_at 548 (by decide +kernel) (by decide +kernel)), ⟨_, _, _, gb_X4_fixes.1⟩, by decide +kernel, by decide +kernel, by decide +kernel⟩
theorem go_X6_80_X8 : OKO RX6 80 RX8 yX4_fixes yX4_fixes cX4_fixes 2 (some .boolean) 1 := ⟨gb_X4_fixes, (Mw_at 547 (by decide +kernel) (by decide +kernel)), (Mw_at 550 (by decide +kernel) (by decide +kernel)), (Mw_at 548 (by decide +kernel) (by decide +kernel)), (Mw_at 559 (by decide +kernel) (by decide +kernel)), (Mw_at 548 (by decide +kernel) (by decide +kernel)), ⟨_, _, _, gb_X4_fixes.1⟩, by decide +kernel, by decide +kernel, by decide +kernel⟩
theorem gb_X1_fixes : OKB yX1_fixes cX1_fixes 2 (some .boolean) 1 := ⟨Mw_at 553 (by decide +kernel) (by decide +kernel), Mw_at 66 (by decide +kernel) (by decide +kernel), by decide +kernel, by decide +kernel, by decide +kernel⟩
theorem go_X6_80_X1 : OKO RX6 80 RX1 yX4_fixes yX1_fixes cX1_fixes 2 (some .boolean) 1 := ⟨gb_X1_fixes, (Mw_at 547 (by decide +kernel) (by decide +kernel)), (Mw_at 550 (by decide +kernel) (by decide +kernel)), (Mw_at 548 (by decide +kernel) (by decide +kernel)), (Mw_at 551 (by decide +kernel) (by decide +kernel)), (Mw_at 552 (by decide +kernel) (by decide +kernel)), ⟨_, _, _, gb_X4_fixes.1⟩, by decide +kernel, by decide +kernel, by decide +kernel⟩
theorem gb_X3_fixes : OKB yX3_fixes cX3_fixes 2 (some .boolean) 1 := ⟨Mw_at 557 (by decide +kernel) (by decide +kernel), Mw_at 67 (by decide +kernel) (by decide +kernel), by decide +kernel, by decide +kernel, by decide +kernel⟩
theorem go_X6_80_X3 : OKO RX6 80 RX3 yX4_fixes yX3_fixes cX3_fixes 2 (some .boolean) 1 := ⟨gb_X3_fixes, (Mw_at 547 (by decide +kernel) (by decide +kernel)), (Mw_at 550 (by decide +kernel) (by decide +kernel)), (Mw_at 548 (by decide +kernel) (by decide +kernel)), (Mw_at 555 (by decide +kernel) (by decide +kernel)), (Mw_at 556 (by decide +kernel) (by decide +kernel)), ⟨_, _, _, gb_X4_fixes.1⟩, by decide +kernel, by decide +kernel, by decide +kernel⟩
theorem go_X6_80_X5 : OKO RX6 80 RX5 yX4_fixes yX4_fixes cX4_fixes 2 (some .boolean) 1 := ⟨gb_X4_fixes, (Mw_at 547 (by decide +kernel) (by decide +kernel)), (Mw_at 550 (by decide +kernel) (by decide +kernel)), (Mw_at 548 (by decide +kernel) (by decide +kernel)), (Mw_at 558 (by decide +kernel) (by decide +kernel)), (Mw_at 548 (by decide +kernel) (by decide +kernel)), ⟨_, _, _, gb_X4_fixes.1⟩, by decide +kernel, by decide +kernel, by decide +kernel⟩
theorem gb_X11_on : OKB yX11_on cX11_on 4 (some .int) 3 := ⟨Mw_at 564 (by decide +kernel) (by decide +kernel), Mw_at 62 (by decide +kernel) (by decide +kernel), by decide +kernel, by decide +kernel, by decide +kernel⟩
theorem gv_L_72 : OKV RL 72 RX11 yX11_on cX11_on 4 (some .int) 3 := ⟨gb_X11_on, (Mw_at 561 (by decide +kernel) (by decide +kernel)), (Mw_at 562 (by decide +kernel) (by decide +kernel)), (Mw_at 563 (by decide +kernel) (by decide +kernel))⟩
theorem gb_X11_tryOn : OKB yX11_tryOn cX11_tryOn 2 none 1 := ⟨Mw_at 568 (by decide +kernel) (by decide +kernel), Mw_at 62 (by decide +kernel) (by decide +kernel), by decide +kernel, by decide +kernel, by decide +kernel⟩
theorem gv_X11_186 : OKV RX11 186 RX11 yX11_tryOn cX11_tryOn 2 none 1 := ⟨gb_X11_tryOn, (Mw_at 565 (by decide +kernel) (by decide +kernel)), (Mw_at 567 (by decide +kernel) (by decide +kernel)), (Mw_at 7 (by decide +kernel) (by decide +kernel))⟩
theorem gb_X6_copyFrom : OKB yX6_copyFrom cX6_copyFrom 2 none 1 := ⟨Mw_at 572 (by decide +kernel) (by decide +kernel), Mw_at 69 (by decide +kernel) (by decide +kernel), by decide +kernel, by decide +kernel, by decide +kernel⟩
theorem gv_X11_189 : OKV RX11 189 RX6 yX6_copyFrom cX6_copyFrom 2 none 1 := ⟨gb_X6_copyFrom, (Mw_at 569 (by decide +kernel) (by decide +kernel)), (Mw_at 570 (by decide +kernel) (by decide +kernel)), (Mw_at 571 (by decide +kernel) (by decide +kernel))⟩
theorem gb_X11_way : OKB yX11_way cX11_way 3 (some .int) 2 := ⟨Mw_at 579 (by decide +kernel) (by decide +kernel), Mw_at 62 (by decide +kernel) (by decide +kernel), by decide +kernel, by decide +kernel, by decide +kernel⟩
theorem gv_L_76 : OKV RL 76 RX11 yX11_way cX11_way 3 (some .int) 2 := ⟨gb_X11_way, (Mw_at 576 (by decide +kernel) (by decide +kernel)), (Mw_at 577 (by decide +kernel) (by decide +kernel)), (Mw_at 578 (by decide +kernel) (by decide +kernel))⟩
theorem gb_X11_wayOfTrial : OKB yX11_wayOfTrial cX11_wayOfTrial 3 (some .int) 2 := ⟨Mw_at 583 (by decide +kernel) (by decide +kernel), Mw_at 62 (by decide +kernel) (by decide +kernel), by decide +kernel, by decide +kernel, by decide +kernel⟩
theorem gv_X11_193 : OKV RX11 193 RX11 yX11_wayOfTrial cX11_wayOfTrial 3 (some .int) 2 := ⟨gb_X11_wayOfTrial, (Mw_at 580 (by decide +kernel) (by decide +kernel)), (Mw_at 582 (by decide +kernel) (by decide +kernel)), (Mw_at 8 (by decide +kernel) (by decide +kernel))⟩
theorem gb_X11_done : OKB yX11_done cX11_done 3 (some .int) 0 := ⟨Mw_at 587 (by decide +kernel) (by decide +kernel), Mw_at 62 (by decide +kernel) (by decide +kernel), by decide +kernel, by decide +kernel, by decide +kernel⟩
theorem gv_L_80 : OKV RL 80 RX11 yX11_done cX11_done 3 (some .int) 0 := ⟨gb_X11_done, (Mw_at 584 (by decide +kernel) (by decide +kernel)), (Mw_at 585 (by decide +kernel) (by decide +kernel)), (Mw_at 586 (by decide +kernel) (by decide +kernel))⟩
theorem gv_X11_196 : OKV RX11 196 RX6 yX6_passMinute cX6_passMinute 6 (some .int) 0 := ⟨gb_X6_passMinute, (Mw_at 588 (by decide +kernel) (by decide +kernel)), (Mw_at 534 (by decide +kernel) (by decide +kernel)), (Mw_at 535 (by decide +kernel) (by decide +kernel))⟩
theorem gb_X11_moved : OKB yX11_moved cX11_moved 3 (some .int) 1 := ⟨Mw_at 592 (by decide +kernel) (by decide +kernel), Mw_at 62 (by decide +kernel) (by decide +kernel), by decide +kernel, by decide +kernel, by decide +kernel⟩
theorem gv_L_85 : OKV RL 85 RX11 yX11_moved cX11_moved 3 (some .int) 1 := ⟨gb_X11_moved, (Mw_at 589 (by decide +kernel) (by decide +kernel)), (Mw_at 590 (by decide +kernel) (by decide +kernel)), (Mw_at 591 (by decide +kernel) (by decide +kernel))⟩
theorem gb_X11_rule : OKB yX11_rule cX11_rule 4 (some .int) 2 := ⟨Mw_at 596 (by decide +kernel) (by decide +kernel), Mw_at 62 (by decide +kernel) (by decide +kernel), by decide +kernel, by decide +kernel, by decide +kernel⟩
theorem gv_L_89 : OKV RL 89 RX11 yX11_rule cX11_rule 4 (some .int) 2 := ⟨gb_X11_rule, (Mw_at 593 (by decide +kernel) (by decide +kernel)), (Mw_at 594 (by decide +kernel) (by decide +kernel)), (Mw_at 595 (by decide +kernel) (by decide +kernel))⟩
theorem gb_X11_send : OKB yX11_send cX11_send 4 (some .int) 2 := ⟨Mw_at 600 (by decide +kernel) (by decide +kernel), Mw_at 62 (by decide +kernel) (by decide +kernel), by decide +kernel, by decide +kernel, by decide +kernel⟩
theorem gv_L_93 : OKV RL 93 RX11 yX11_send cX11_send 4 (some .int) 2 := ⟨gb_X11_send, (Mw_at 597 (by decide +kernel) (by decide +kernel)), (Mw_at 598 (by decide +kernel) (by decide +kernel)), (Mw_at 599 (by decide +kernel) (by decide +kernel))⟩
theorem gb_X11_bestOrNone : OKB yX11_bestOrNone cX11_bestOrNone 1 (some .int) 0 := ⟨Mw_at 604 (by decide +kernel) (by decide +kernel), Mw_at 62 (by decide +kernel) (by decide +kernel), by decide +kernel, by decide +kernel, by decide +kernel⟩
theorem gv_X11_209 : OKV RX11 209 RX11 yX11_bestOrNone cX11_bestOrNone 1 (some .int) 0 := ⟨gb_X11_bestOrNone, (Mw_at 601 (by decide +kernel) (by decide +kernel)), (Mw_at 603 (by decide +kernel) (by decide +kernel)), (Mw_at 9 (by decide +kernel) (by decide +kernel))⟩
theorem gb_X11_kind : OKB yX11_kind cX11_kind 4 (some .int) 2 := ⟨Mw_at 608 (by decide +kernel) (by decide +kernel), Mw_at 62 (by decide +kernel) (by decide +kernel), by decide +kernel, by decide +kernel, by decide +kernel⟩
theorem gv_L_97 : OKV RL 97 RX11 yX11_kind cX11_kind 4 (some .int) 2 := ⟨gb_X11_kind, (Mw_at 605 (by decide +kernel) (by decide +kernel)), (Mw_at 606 (by decide +kernel) (by decide +kernel)), (Mw_at 607 (by decide +kernel) (by decide +kernel))⟩
theorem gb_X11_pair : OKB yX11_pair cX11_pair 3 (some .int) 0 := ⟨Mw_at 612 (by decide +kernel) (by decide +kernel), Mw_at 62 (by decide +kernel) (by decide +kernel), by decide +kernel, by decide +kernel, by decide +kernel⟩
theorem gv_L_101 : OKV RL 101 RX11 yX11_pair cX11_pair 3 (some .int) 0 := ⟨gb_X11_pair, (Mw_at 609 (by decide +kernel) (by decide +kernel)), (Mw_at 610 (by decide +kernel) (by decide +kernel)), (Mw_at 611 (by decide +kernel) (by decide +kernel))⟩
theorem gb_X11_fix : OKB yX11_fix cX11_fix 3 (some .int) 1 := ⟨Mw_at 616 (by decide +kernel) (by decide +kernel), Mw_at 62 (by decide +kernel) (by decide +kernel), by decide +kernel, by decide +kernel, by decide +kernel⟩
theorem gv_L_105 : OKV RL 105 RX11 yX11_fix cX11_fix 3 (some .int) 1 := ⟨gb_X11_fix, (Mw_at 613 (by decide +kernel) (by decide +kernel)), (Mw_at 614 (by decide +kernel) (by decide +kernel)), (Mw_at 615 (by decide +kernel) (by decide +kernel))⟩
theorem gb_X11_winner : OKB yX11_winner cX11_winner 3 (some .int) 1 := ⟨Mw_at 620 (by decide +kernel) (by decide +kernel), Mw_at 62 (by decide +kernel) (by decide +kernel), by decide +kernel, by decide +kernel, by decide +kernel⟩
theorem gv_L_109 : OKV RL 109 RX11 yX11_winner cX11_winner 3 (some .int) 1 := ⟨gb_X11_winner, (Mw_at 617 (by decide +kernel) (by decide +kernel)), (Mw_at 618 (by decide +kernel) (by decide +kernel)), (Mw_at 619 (by decide +kernel) (by decide +kernel))⟩
theorem gb_X11_largest : OKB yX11_largest cX11_largest 3 (some .int) 1 := ⟨Mw_at 624 (by decide +kernel) (by decide +kernel), Mw_at 62 (by decide +kernel) (by decide +kernel), by decide +kernel, by decide +kernel, by decide +kernel⟩
theorem gv_L_113 : OKV RL 113 RX11 yX11_largest cX11_largest 3 (some .int) 1 := ⟨gb_X11_largest, (Mw_at 621 (by decide +kernel) (by decide +kernel)), (Mw_at 622 (by decide +kernel) (by decide +kernel)), (Mw_at 623 (by decide +kernel) (by decide +kernel))⟩
theorem gs_X11_212 : OKS RX11 212 yJ6_bitCount_0f7a4 cJ6_bitCount_0f7a4 1 (some .int) 1 := ⟨gb_J6_bitCount_0f7a4, (Mw_at 625 (by decide +kernel) (by decide +kernel)), (Mw_at 511 (by decide +kernel) (by decide +kernel))⟩
theorem gb_X11_feed : OKB yX11_feed cX11_feed 4 (some .int) 2 := ⟨Mw_at 629 (by decide +kernel) (by decide +kernel), Mw_at 62 (by decide +kernel) (by decide +kernel), by decide +kernel, by decide +kernel, by decide +kernel⟩
theorem gv_L_117 : OKV RL 117 RX11 yX11_feed cX11_feed 4 (some .int) 2 := ⟨gb_X11_feed, (Mw_at 626 (by decide +kernel) (by decide +kernel)), (Mw_at 627 (by decide +kernel) (by decide +kernel)), (Mw_at 628 (by decide +kernel) (by decide +kernel))⟩
theorem gb_X9_append : OKB yX9_append cX9_append 2 none 1 := ⟨Mw_at 633 (by decide +kernel) (by decide +kernel), Mw_at 71 (by decide +kernel) (by decide +kernel), by decide +kernel, by decide +kernel, by decide +kernel⟩
theorem gv_X11_220 : OKV RX11 220 RX9 yX9_append cX9_append 2 none 1 := ⟨gb_X9_append, (Mw_at 630 (by decide +kernel) (by decide +kernel)), (Mw_at 631 (by decide +kernel) (by decide +kernel)), (Mw_at 632 (by decide +kernel) (by decide +kernel))⟩
theorem gb_X11_wipe : OKB yX11_wipe cX11_wipe 2 (some .int) 0 := ⟨Mw_at 637 (by decide +kernel) (by decide +kernel), Mw_at 62 (by decide +kernel) (by decide +kernel), by decide +kernel, by decide +kernel, by decide +kernel⟩
theorem gv_L_121 : OKV RL 121 RX11 yX11_wipe cX11_wipe 2 (some .int) 0 := ⟨gb_X11_wipe, (Mw_at 634 (by decide +kernel) (by decide +kernel)), (Mw_at 635 (by decide +kernel) (by decide +kernel)), (Mw_at 636 (by decide +kernel) (by decide +kernel))⟩
theorem gb_X11_wall : OKB yX11_wall cX11_wall 2 (some .int) 0 := ⟨Mw_at 641 (by decide +kernel) (by decide +kernel), Mw_at 62 (by decide +kernel) (by decide +kernel), by decide +kernel, by decide +kernel, by decide +kernel⟩
theorem gv_L_125 : OKV RL 125 RX11 yX11_wall cX11_wall 2 (some .int) 0 := ⟨gb_X11_wall, (Mw_at 638 (by decide +kernel) (by decide +kernel)), (Mw_at 639 (by decide +kernel) (by decide +kernel)), (Mw_at 640 (by decide +kernel) (by decide +kernel))⟩
theorem gb_X10_tellTo : OKB yX10_tellTo cX10_tellTo 3 (some .int) 1 := ⟨Mw_at 645 (by decide +kernel) (by decide +kernel), Mw_at 72 (by decide +kernel) (by decide +kernel), by decide +kernel, by decide +kernel, by decide +kernel⟩
theorem gv_X11_223 : OKV RX11 223 RX10 yX10_tellTo cX10_tellTo 3 (some .int) 1 := ⟨gb_X10_tellTo, (Mw_at 642 (by decide +kernel) (by decide +kernel)), (Mw_at 643 (by decide +kernel) (by decide +kernel)), (Mw_at 644 (by decide +kernel) (by decide +kernel))⟩
theorem gb_X9_firstToken : OKB yX9_firstToken cX9_firstToken 1 none 0 := ⟨Mw_at 649 (by decide +kernel) (by decide +kernel), Mw_at 71 (by decide +kernel) (by decide +kernel), by decide +kernel, by decide +kernel, by decide +kernel⟩
theorem gv_X10_15 : OKV RX10 15 RX9 yX9_firstToken cX9_firstToken 1 none 0 := ⟨gb_X9_firstToken, (Mw_at 646 (by decide +kernel) (by decide +kernel)), (Mw_at 647 (by decide +kernel) (by decide +kernel)), (Mw_at 648 (by decide +kernel) (by decide +kernel))⟩
theorem gb_X9_nextToken : OKB yX9_nextToken cX9_nextToken 1 none 0 := ⟨Mw_at 653 (by decide +kernel) (by decide +kernel), Mw_at 71 (by decide +kernel) (by decide +kernel), by decide +kernel, by decide +kernel, by decide +kernel⟩
theorem gv_X9_31 : OKV RX9 31 RX9 yX9_nextToken cX9_nextToken 1 none 0 := ⟨gb_X9_nextToken, (Mw_at 650 (by decide +kernel) (by decide +kernel)), (Mw_at 651 (by decide +kernel) (by decide +kernel)), (Mw_at 652 (by decide +kernel) (by decide +kernel))⟩
theorem gb_X9_isLetter : OKB yX9_isLetter cX9_isLetter 1 (some .boolean) 1 := ⟨Mw_at 656 (by decide +kernel) (by decide +kernel), Mw_at 71 (by decide +kernel) (by decide +kernel), by decide +kernel, by decide +kernel, by decide +kernel⟩
theorem gs_X9_34 : OKS RX9 34 yX9_isLetter cX9_isLetter 1 (some .boolean) 1 := ⟨gb_X9_isLetter, (Mw_at 654 (by decide +kernel) (by decide +kernel)), (Mw_at 655 (by decide +kernel) (by decide +kernel))⟩
theorem gs_X9_53 : OKSN RX9 53 yX11_within cX11_within 3 (some .boolean) 3 := ⟨gb_X11_within, ⟨"SlipWall", Nw_at 657 (by decide +kernel) (by decide +kernel)⟩, (Mw_at 294 (by decide +kernel) (by decide +kernel))⟩
theorem gb_X9_takeWord : OKB yX9_takeWord cX9_takeWord 1 none 0 := ⟨Mw_at 661 (by decide +kernel) (by decide +kernel), Mw_at 71 (by decide +kernel) (by decide +kernel), by decide +kernel, by decide +kernel, by decide +kernel⟩
theorem gv_X9_38 : OKV RX9 38 RX9 yX9_takeWord cX9_takeWord 1 none 0 := ⟨gb_X9_takeWord, (Mw_at 658 (by decide +kernel) (by decide +kernel)), (Mw_at 660 (by decide +kernel) (by decide +kernel)), (Mw_at 10 (by decide +kernel) (by decide +kernel))⟩
theorem gb_X9_isDigit : OKB yX9_isDigit cX9_isDigit 1 (some .boolean) 1 := ⟨Mw_at 664 (by decide +kernel) (by decide +kernel), Mw_at 71 (by decide +kernel) (by decide +kernel), by decide +kernel, by decide +kernel, by decide +kernel⟩
theorem gs_X9_41 : OKS RX9 41 yX9_isDigit cX9_isDigit 1 (some .boolean) 1 := ⟨gb_X9_isDigit, (Mw_at 662 (by decide +kernel) (by decide +kernel)), (Mw_at 663 (by decide +kernel) (by decide +kernel))⟩
theorem gb_X9_takeNumber : OKB yX9_takeNumber cX9_takeNumber 1 none 0 := ⟨Mw_at 668 (by decide +kernel) (by decide +kernel), Mw_at 71 (by decide +kernel) (by decide +kernel), by decide +kernel, by decide +kernel, by decide +kernel⟩
theorem gv_X9_44 : OKV RX9 44 RX9 yX9_takeNumber cX9_takeNumber 1 none 0 := ⟨gb_X9_takeNumber, (Mw_at 665 (by decide +kernel) (by decide +kernel)), (Mw_at 667 (by decide +kernel) (by decide +kernel)), (Mw_at 11 (by decide +kernel) (by decide +kernel))⟩
theorem gs_X9_47 : OKS RX9 47 yJ9_min_7cf53 cJ9_min_7cf53 2 (some .int) 2 := ⟨gb_J9_min_7cf53, (Mw_at 669 (by decide +kernel) (by decide +kernel)), (Mw_at 545 (by decide +kernel) (by decide +kernel))⟩
theorem gb_X10_takeItem : OKB yX10_takeItem cX10_takeItem 3 (some .boolean) 1 := ⟨Mw_at 673 (by decide +kernel) (by decide +kernel), Mw_at 72 (by decide +kernel) (by decide +kernel), by decide +kernel, by decide +kernel, by decide +kernel⟩
theorem gv_X10_20 : OKV RX10 20 RX10 yX10_takeItem cX10_takeItem 3 (some .boolean) 1 := ⟨gb_X10_takeItem, (Mw_at 670 (by decide +kernel) (by decide +kernel)), (Mw_at 672 (by decide +kernel) (by decide +kernel)), (Mw_at 12 (by decide +kernel) (by decide +kernel))⟩
theorem gb_X9_isWord : OKB yX9_isWord cX9_isWord 3 (some .boolean) 1 := ⟨Mw_at 678 (by decide +kernel) (by decide +kernel), Mw_at 71 (by decide +kernel) (by decide +kernel), by decide +kernel, by decide +kernel, by decide +kernel⟩
theorem gv_X10_40 : OKV RX10 40 RX9 yX9_isWord cX9_isWord 3 (some .boolean) 1 := ⟨gb_X9_isWord, (Mw_at 675 (by decide +kernel) (by decide +kernel)), (Mw_at 676 (by decide +kernel) (by decide +kernel)), (Mw_at 677 (by decide +kernel) (by decide +kernel))⟩
theorem gb_J0_length_8abf5 : OKB yJ0_length_8abf5 cJ0_length_8abf5 1 (some .int) 0 := ⟨Mw_at 682 (by decide +kernel) (by decide +kernel), Mw_at 78 (by decide +kernel) (by decide +kernel), by decide +kernel, by decide +kernel, by decide +kernel⟩
theorem gv_X9_57 : OKV RX9 57 RJ0 yJ0_length_8abf5 cJ0_length_8abf5 1 (some .int) 0 := ⟨gb_J0_length_8abf5, (Mw_at 679 (by decide +kernel) (by decide +kernel)), (Mw_at 680 (by decide +kernel) (by decide +kernel)), (Mw_at 681 (by decide +kernel) (by decide +kernel))⟩
theorem gb_J0_coder_7d493 : OKB yJ0_coder_7d493 cJ0_coder_7d493 1 (some .byte) 0 := ⟨Mw_at 686 (by decide +kernel) (by decide +kernel), Mw_at 78 (by decide +kernel) (by decide +kernel), by decide +kernel, by decide +kernel, by decide +kernel⟩
theorem gv_J0_335 : OKV RJ0 335 RJ0 yJ0_coder_7d493 cJ0_coder_7d493 1 (some .byte) 0 := ⟨gb_J0_coder_7d493, (Mw_at 683 (by decide +kernel) (by decide +kernel)), (Mw_at 684 (by decide +kernel) (by decide +kernel)), (Mw_at 685 (by decide +kernel) (by decide +kernel))⟩
theorem gb_J0_charAt_5068e : OKB yJ0_charAt_5068e cJ0_charAt_5068e 2 (some .char) 1 := ⟨Mw_at 692 (by decide +kernel) (by decide +kernel), Mw_at 78 (by decide +kernel) (by decide +kernel), by decide +kernel, by decide +kernel, by decide +kernel⟩
theorem gv_X9_62 : OKV RX9 62 RJ0 yJ0_charAt_5068e cJ0_charAt_5068e 2 (some .char) 1 := ⟨gb_J0_charAt_5068e, (Mw_at 689 (by decide +kernel) (by decide +kernel)), (Mw_at 690 (by decide +kernel) (by decide +kernel)), (Mw_at 691 (by decide +kernel) (by decide +kernel))⟩
theorem gb_J0_isLatin1_aae02 : OKB yJ0_isLatin1_aae02 cJ0_isLatin1_aae02 1 (some .boolean) 0 := ⟨Mw_at 696 (by decide +kernel) (by decide +kernel), Mw_at 78 (by decide +kernel) (by decide +kernel), by decide +kernel, by decide +kernel, by decide +kernel⟩
theorem gv_J0_492 : OKV RJ0 492 RJ0 yJ0_isLatin1_aae02 cJ0_isLatin1_aae02 1 (some .boolean) 0 := ⟨gb_J0_isLatin1_aae02, (Mw_at 693 (by decide +kernel) (by decide +kernel)), (Mw_at 694 (by decide +kernel) (by decide +kernel)), (Mw_at 695 (by decide +kernel) (by decide +kernel))⟩
theorem gb_J1_charAt_3b067 : OKB yJ1_charAt_3b067 cJ1_charAt_3b067 2 (some .char) 2 := ⟨Mw_at 699 (by decide +kernel) (by decide +kernel), Mw_at 79 (by decide +kernel) (by decide +kernel), by decide +kernel, by decide +kernel, by decide +kernel⟩
theorem gs_J0_495 : OKS RJ0 495 yJ1_charAt_3b067 cJ1_charAt_3b067 2 (some .char) 2 := ⟨gb_J1_charAt_3b067, (Mw_at 697 (by decide +kernel) (by decide +kernel)), (Mw_at 698 (by decide +kernel) (by decide +kernel))⟩
theorem gb_J0_checkIndex_df160 : OKB yJ0_checkIndex_df160 cJ0_checkIndex_df160 2 none 2 := ⟨Mw_at 702 (by decide +kernel) (by decide +kernel), Mw_at 78 (by decide +kernel) (by decide +kernel), by decide +kernel, by decide +kernel, by decide +kernel⟩
theorem gs_J1_9 : OKS RJ1 9 yJ0_checkIndex_df160 cJ0_checkIndex_df160 2 none 2 := ⟨gb_J0_checkIndex_df160, (Mw_at 700 (by decide +kernel) (by decide +kernel)), (Mw_at 701 (by decide +kernel) (by decide +kernel))⟩
theorem gb_J3_checkIndex_8e157 : OKB yJ3_checkIndex_8e157 cJ3_checkIndex_8e157 3 (some .int) 3 := ⟨Mw_at 707 (by decide +kernel) (by decide +kernel), Mw_at 80 (by decide +kernel) (by decide +kernel), by decide +kernel, by decide +kernel, by decide +kernel⟩
theorem gs_J0_1059 : OKS RJ0 1059 yJ3_checkIndex_8e157 cJ3_checkIndex_8e157 3 (some .int) 3 := ⟨gb_J3_checkIndex_8e157, (Mw_at 705 (by decide +kernel) (by decide +kernel)), (Mw_at 706 (by decide +kernel) (by decide +kernel))⟩
theorem gb_J2_charAt_3b067 : OKB yJ2_charAt_3b067 cJ2_charAt_3b067 2 (some .char) 2 := ⟨Mw_at 710 (by decide +kernel) (by decide +kernel), Mw_at 81 (by decide +kernel) (by decide +kernel), by decide +kernel, by decide +kernel, by decide +kernel⟩
theorem gs_J0_498 : OKS RJ0 498 yJ2_charAt_3b067 cJ2_charAt_3b067 2 (some .char) 2 := ⟨gb_J2_charAt_3b067, (Mw_at 708 (by decide +kernel) (by decide +kernel)), (Mw_at 709 (by decide +kernel) (by decide +kernel))⟩
theorem gb_J2_checkIndex_2214a : OKB yJ2_checkIndex_2214a cJ2_checkIndex_2214a 2 none 2 := ⟨Mw_at 713 (by decide +kernel) (by decide +kernel), Mw_at 81 (by decide +kernel) (by decide +kernel), by decide +kernel, by decide +kernel, by decide +kernel⟩
theorem gs_J2_67 : OKS RJ2 67 yJ2_checkIndex_2214a cJ2_checkIndex_2214a 2 none 2 := ⟨gb_J2_checkIndex_2214a, (Mw_at 711 (by decide +kernel) (by decide +kernel)), (Mw_at 712 (by decide +kernel) (by decide +kernel))⟩
theorem gb_J2_length_9d52b : OKB yJ2_length_9d52b cJ2_length_9d52b 1 (some .int) 1 := ⟨Mw_at 716 (by decide +kernel) (by decide +kernel), Mw_at 81 (by decide +kernel) (by decide +kernel), by decide +kernel, by decide +kernel, by decide +kernel⟩
theorem gs_J2_48 : OKS RJ2 48 yJ2_length_9d52b cJ2_length_9d52b 1 (some .int) 1 := ⟨gb_J2_length_9d52b, (Mw_at 714 (by decide +kernel) (by decide +kernel)), (Mw_at 715 (by decide +kernel) (by decide +kernel))⟩
theorem gs_J2_414 : OKS RJ2 414 yJ0_checkIndex_df160 cJ0_checkIndex_df160 2 none 2 := ⟨gb_J0_checkIndex_df160, (Mw_at 717 (by decide +kernel) (by decide +kernel)), (Mw_at 701 (by decide +kernel) (by decide +kernel))⟩
theorem gb_J2_getChar_3b067 : OKB yJ2_getChar_3b067 cJ2_getChar_3b067 2 (some .char) 2 := ⟨Mw_at 720 (by decide +kernel) (by decide +kernel), Mw_at 81 (by decide +kernel) (by decide +kernel), by decide +kernel, by decide +kernel, by decide +kernel⟩
theorem gs_J2_71 : OKS RJ2 71 yJ2_getChar_3b067 cJ2_getChar_3b067 2 (some .char) 2 := ⟨gb_J2_getChar_3b067, (Mw_at 718 (by decide +kernel) (by decide +kernel)), (Mw_at 719 (by decide +kernel) (by decide +kernel))⟩
theorem gb_X10_takeSlip : OKB yX10_takeSlip cX10_takeSlip 4 (some .boolean) 1 := ⟨Mw_at 730 (by decide +kernel) (by decide +kernel), Mw_at 72 (by decide +kernel) (by decide +kernel), by decide +kernel, by decide +kernel, by decide +kernel⟩
theorem gv_X10_44 : OKV RX10 44 RX10 yX10_takeSlip cX10_takeSlip 4 (some .boolean) 1 := ⟨gb_X10_takeSlip, (Mw_at 727 (by decide +kernel) (by decide +kernel)), (Mw_at 729 (by decide +kernel) (by decide +kernel)), (Mw_at 13 (by decide +kernel) (by decide +kernel))⟩
theorem gv_X10_31 : OKV RX10 31 RX9 yX9_nextToken cX9_nextToken 1 none 0 := ⟨gb_X9_nextToken, (Mw_at 731 (by decide +kernel) (by decide +kernel)), (Mw_at 651 (by decide +kernel) (by decide +kernel)), (Mw_at 652 (by decide +kernel) (by decide +kernel))⟩
theorem gb_X9_isNumberUpTo : OKB yX9_isNumberUpTo cX9_isNumberUpTo 2 (some .boolean) 1 := ⟨Mw_at 735 (by decide +kernel) (by decide +kernel), Mw_at 71 (by decide +kernel) (by decide +kernel), by decide +kernel, by decide +kernel, by decide +kernel⟩
theorem gv_X10_65 : OKV RX10 65 RX9 yX9_isNumberUpTo cX9_isNumberUpTo 2 (some .boolean) 1 := ⟨gb_X9_isNumberUpTo, (Mw_at 732 (by decide +kernel) (by decide +kernel)), (Mw_at 733 (by decide +kernel) (by decide +kernel)), (Mw_at 734 (by decide +kernel) (by decide +kernel))⟩
theorem gv_X10_76 : OKV RX10 76 RX6 yX6_addSlip cX6_addSlip 3 (some .int) 2 := ⟨gb_X6_addSlip, (Mw_at 738 (by decide +kernel) (by decide +kernel)), (Mw_at 306 (by decide +kernel) (by decide +kernel)), (Mw_at 307 (by decide +kernel) (by decide +kernel))⟩
theorem gb_X10_takeMoves : OKB yX10_takeMoves cX10_takeMoves 2 (some .boolean) 1 := ⟨Mw_at 743 (by decide +kernel) (by decide +kernel), Mw_at 72 (by decide +kernel) (by decide +kernel), by decide +kernel, by decide +kernel, by decide +kernel⟩
theorem gv_X10_49 : OKV RX10 49 RX10 yX10_takeMoves cX10_takeMoves 2 (some .boolean) 1 := ⟨gb_X10_takeMoves, (Mw_at 740 (by decide +kernel) (by decide +kernel)), (Mw_at 742 (by decide +kernel) (by decide +kernel)), (Mw_at 14 (by decide +kernel) (by decide +kernel))⟩
theorem gb_X10_kindNamed : OKB yX10_kindNamed cX10_kindNamed 1 (some .int) 0 := ⟨Mw_at 747 (by decide +kernel) (by decide +kernel), Mw_at 72 (by decide +kernel) (by decide +kernel), by decide +kernel, by decide +kernel, by decide +kernel⟩
theorem gv_X10_52 : OKV RX10 52 RX10 yX10_kindNamed cX10_kindNamed 1 (some .int) 0 := ⟨gb_X10_kindNamed, (Mw_at 744 (by decide +kernel) (by decide +kernel)), (Mw_at 746 (by decide +kernel) (by decide +kernel)), (Mw_at 15 (by decide +kernel) (by decide +kernel))⟩
theorem gb_X10_takePerson : OKB yX10_takePerson cX10_takePerson 5 (some .boolean) 2 := ⟨Mw_at 757 (by decide +kernel) (by decide +kernel), Mw_at 72 (by decide +kernel) (by decide +kernel), by decide +kernel, by decide +kernel, by decide +kernel⟩
theorem gv_X10_56 : OKV RX10 56 RX10 yX10_takePerson cX10_takePerson 5 (some .boolean) 2 := ⟨gb_X10_takePerson, (Mw_at 754 (by decide +kernel) (by decide +kernel)), (Mw_at 756 (by decide +kernel) (by decide +kernel)), (Mw_at 16 (by decide +kernel) (by decide +kernel))⟩
theorem gv_X10_85 : OKV RX10 85 RX6 yX6_addPerson cX6_addPerson 3 (some .int) 1 := ⟨gb_X6_addPerson, (Mw_at 758 (by decide +kernel) (by decide +kernel)), (Mw_at 385 (by decide +kernel) (by decide +kernel)), (Mw_at 386 (by decide +kernel) (by decide +kernel))⟩
theorem gs_X10_95 : OKS RX10 95 yX6_wish cX6_wish 2 (some .int) 2 := ⟨gb_X6_wish, (Mw_at 760 (by decide +kernel) (by decide +kernel)), (Mw_at 326 (by decide +kernel) (by decide +kernel))⟩
theorem gb_X9_isAtEnd : OKB yX9_isAtEnd cX9_isAtEnd 1 (some .boolean) 0 := ⟨Mw_at 764 (by decide +kernel) (by decide +kernel), Mw_at 71 (by decide +kernel) (by decide +kernel), by decide +kernel, by decide +kernel, by decide +kernel⟩
theorem gv_X10_24 : OKV RX10 24 RX9 yX9_isAtEnd cX9_isAtEnd 1 (some .boolean) 0 := ⟨gb_X9_isAtEnd, (Mw_at 761 (by decide +kernel) (by decide +kernel)), (Mw_at 762 (by decide +kernel) (by decide +kernel)), (Mw_at 763 (by decide +kernel) (by decide +kernel))⟩
theorem gb_X9_isSign : OKB yX9_isSign cX9_isSign 1 (some .boolean) 0 := ⟨Mw_at 768 (by decide +kernel) (by decide +kernel), Mw_at 71 (by decide +kernel) (by decide +kernel), by decide +kernel, by decide +kernel, by decide +kernel⟩
theorem gv_X10_28 : OKV RX10 28 RX9 yX9_isSign cX9_isSign 1 (some .boolean) 0 := ⟨gb_X9_isSign, (Mw_at 765 (by decide +kernel) (by decide +kernel)), (Mw_at 766 (by decide +kernel) (by decide +kernel)), (Mw_at 767 (by decide +kernel) (by decide +kernel))⟩
theorem gb_X11_sheet : OKB yX11_sheet cX11_sheet 4 (some .int) 3 := ⟨Mw_at 773 (by decide +kernel) (by decide +kernel), Mw_at 62 (by decide +kernel) (by decide +kernel), by decide +kernel, by decide +kernel, by decide +kernel⟩
theorem gv_L_129 : OKV RL 129 RX11 yX11_sheet cX11_sheet 4 (some .int) 3 := ⟨gb_X11_sheet, (Mw_at 770 (by decide +kernel) (by decide +kernel)), (Mw_at 771 (by decide +kernel) (by decide +kernel)), (Mw_at 772 (by decide +kernel) (by decide +kernel))⟩
theorem gb_X11_noSheet : OKB yX11_noSheet cX11_noSheet 1 (some .boolean) 1 := ⟨Mw_at 776 (by decide +kernel) (by decide +kernel), Mw_at 62 (by decide +kernel) (by decide +kernel), by decide +kernel, by decide +kernel, by decide +kernel⟩
theorem gs_X11_227 : OKS RX11 227 yX11_noSheet cX11_noSheet 1 (some .boolean) 1 := ⟨gb_X11_noSheet, (Mw_at 774 (by decide +kernel) (by decide +kernel)), (Mw_at 775 (by decide +kernel) (by decide +kernel))⟩
theorem gb_X7_become : OKB yX7_become cX7_become 4 none 2 := ⟨Mw_at 780 (by decide +kernel) (by decide +kernel), Mw_at 73 (by decide +kernel) (by decide +kernel), by decide +kernel, by decide +kernel, by decide +kernel⟩
theorem gv_X11_230 : OKV RX11 230 RX7 yX7_become cX7_become 4 none 2 := ⟨gb_X7_become, (Mw_at 777 (by decide +kernel) (by decide +kernel)), (Mw_at 778 (by decide +kernel) (by decide +kernel)), (Mw_at 779 (by decide +kernel) (by decide +kernel))⟩
theorem gb_X11_write : OKB yX11_write cX11_write 7 (some .long) 3 := ⟨Mw_at 784 (by decide +kernel) (by decide +kernel), Mw_at 62 (by decide +kernel) (by decide +kernel), by decide +kernel, by decide +kernel, by decide +kernel⟩
theorem gv_L_135 : OKV RL 135 RX11 yX11_write cX11_write 7 (some .long) 3 := ⟨gb_X11_write, (Mw_at 781 (by decide +kernel) (by decide +kernel)), (Mw_at 782 (by decide +kernel) (by decide +kernel)), (Mw_at 783 (by decide +kernel) (by decide +kernel))⟩
theorem gb_X7_isMissing : OKB yX7_isMissing cX7_isMissing 1 (some .boolean) 0 := ⟨Mw_at 788 (by decide +kernel) (by decide +kernel), Mw_at 73 (by decide +kernel) (by decide +kernel), by decide +kernel, by decide +kernel, by decide +kernel⟩
theorem gv_X11_236 : OKV RX11 236 RX7 yX7_isMissing cX7_isMissing 1 (some .boolean) 0 := ⟨gb_X7_isMissing, (Mw_at 785 (by decide +kernel) (by decide +kernel)), (Mw_at 786 (by decide +kernel) (by decide +kernel)), (Mw_at 787 (by decide +kernel) (by decide +kernel))⟩
theorem gb_X7_put : OKB yX7_put cX7_put 4 none 2 := ⟨Mw_at 792 (by decide +kernel) (by decide +kernel), Mw_at 73 (by decide +kernel) (by decide +kernel), by decide +kernel, by decide +kernel, by decide +kernel⟩
theorem gv_X11_244 : OKV RX11 244 RX7 yX7_put cX7_put 4 none 2 := ⟨gb_X7_put, (Mw_at 789 (by decide +kernel) (by decide +kernel)), (Mw_at 790 (by decide +kernel) (by decide +kernel)), (Mw_at 791 (by decide +kernel) (by decide +kernel))⟩
theorem gb_X11_copy : OKB yX11_copy cX11_copy 6 (some .int) 5 := ⟨Mw_at 796 (by decide +kernel) (by decide +kernel), Mw_at 62 (by decide +kernel) (by decide +kernel), by decide +kernel, by decide +kernel, by decide +kernel⟩
theorem gv_L_140 : OKV RL 140 RX11 yX11_copy cX11_copy 6 (some .int) 5 := ⟨gb_X11_copy, (Mw_at 793 (by decide +kernel) (by decide +kernel)), (Mw_at 794 (by decide +kernel) (by decide +kernel)), (Mw_at 795 (by decide +kernel) (by decide +kernel))⟩
theorem gb_X7_hasFrom : OKB yX7_hasFrom cX7_hasFrom 3 (some .boolean) 2 := ⟨Mw_at 800 (by decide +kernel) (by decide +kernel), Mw_at 73 (by decide +kernel) (by decide +kernel), by decide +kernel, by decide +kernel, by decide +kernel⟩
theorem gv_X11_250 : OKV RX11 250 RX7 yX7_hasFrom cX7_hasFrom 3 (some .boolean) 2 := ⟨gb_X7_hasFrom, (Mw_at 797 (by decide +kernel) (by decide +kernel)), (Mw_at 798 (by decide +kernel) (by decide +kernel)), (Mw_at 799 (by decide +kernel) (by decide +kernel))⟩
theorem gb_X11_lays : OKB yX11_lays cX11_lays 7 (some .int) 2 := ⟨Mw_at 805 (by decide +kernel) (by decide +kernel), Mw_at 62 (by decide +kernel) (by decide +kernel), by decide +kernel, by decide +kernel, by decide +kernel⟩
theorem gv_L_145 : OKV RL 145 RX11 yX11_lays cX11_lays 7 (some .int) 2 := ⟨gb_X11_lays, (Mw_at 802 (by decide +kernel) (by decide +kernel)), (Mw_at 803 (by decide +kernel) (by decide +kernel)), (Mw_at 804 (by decide +kernel) (by decide +kernel))⟩
theorem gb_X11_book : OKB yX11_book cX11_book 4 (some .int) 2 := ⟨Mw_at 810 (by decide +kernel) (by decide +kernel), Mw_at 62 (by decide +kernel) (by decide +kernel), by decide +kernel, by decide +kernel, by decide +kernel⟩
theorem gv_L_149 : OKV RL 149 RX11 yX11_book cX11_book 4 (some .int) 2 := ⟨gb_X11_book, (Mw_at 807 (by decide +kernel) (by decide +kernel)), (Mw_at 808 (by decide +kernel) (by decide +kernel)), (Mw_at 809 (by decide +kernel) (by decide +kernel))⟩
theorem gb_X11_read : OKB yX11_read cX11_read 7 (some .int) 3 := ⟨Mw_at 814 (by decide +kernel) (by decide +kernel), Mw_at 62 (by decide +kernel) (by decide +kernel), by decide +kernel, by decide +kernel, by decide +kernel⟩
theorem gv_L_153 : OKV RL 153 RX11 yX11_read cX11_read 7 (some .int) 3 := ⟨gb_X11_read, (Mw_at 811 (by decide +kernel) (by decide +kernel)), (Mw_at 812 (by decide +kernel) (by decide +kernel)), (Mw_at 813 (by decide +kernel) (by decide +kernel))⟩
theorem gb_X11_trialGoesAs : OKB yX11_trialGoesAs cX11_trialGoesAs 4 (some .boolean) 2 := ⟨Mw_at 818 (by decide +kernel) (by decide +kernel), Mw_at 62 (by decide +kernel) (by decide +kernel), by decide +kernel, by decide +kernel, by decide +kernel⟩
theorem gv_X11_261 : OKV RX11 261 RX11 yX11_trialGoesAs cX11_trialGoesAs 4 (some .boolean) 2 := ⟨gb_X11_trialGoesAs, (Mw_at 815 (by decide +kernel) (by decide +kernel)), (Mw_at 817 (by decide +kernel) (by decide +kernel)), (Mw_at 17 (by decide +kernel) (by decide +kernel))⟩
theorem gb_X11_image : OKB yX11_image cX11_image 1 (some .int) 0 := ⟨Mw_at 822 (by decide +kernel) (by decide +kernel), Mw_at 62 (by decide +kernel) (by decide +kernel), by decide +kernel, by decide +kernel, by decide +kernel⟩
theorem gv_L_157 : OKV RL 157 RX11 yX11_image cX11_image 1 (some .int) 0 := ⟨gb_X11_image, (Mw_at 819 (by decide +kernel) (by decide +kernel)), (Mw_at 820 (by decide +kernel) (by decide +kernel)), (Mw_at 821 (by decide +kernel) (by decide +kernel))⟩
theorem gb_X11_undo : OKB yX11_undo cX11_undo 1 (some .int) 0 := ⟨Mw_at 826 (by decide +kernel) (by decide +kernel), Mw_at 62 (by decide +kernel) (by decide +kernel), by decide +kernel, by decide +kernel, by decide +kernel⟩
theorem gv_L_161 : OKV RL 161 RX11 yX11_undo cX11_undo 1 (some .int) 0 := ⟨gb_X11_undo, (Mw_at 823 (by decide +kernel) (by decide +kernel)), (Mw_at 824 (by decide +kernel) (by decide +kernel)), (Mw_at 825 (by decide +kernel) (by decide +kernel))⟩
theorem gb_X11_tear : OKB yX11_tear cX11_tear 2 (some .int) 0 := ⟨Mw_at 830 (by decide +kernel) (by decide +kernel), Mw_at 62 (by decide +kernel) (by decide +kernel), by decide +kernel, by decide +kernel, by decide +kernel⟩
theorem gv_L_165 : OKV RL 165 RX11 yX11_tear cX11_tear 2 (some .int) 0 := ⟨gb_X11_tear, (Mw_at 827 (by decide +kernel) (by decide +kernel)), (Mw_at 828 (by decide +kernel) (by decide +kernel)), (Mw_at 829 (by decide +kernel) (by decide +kernel))⟩
theorem gb_X11_count : OKB yX11_count cX11_count 2 (some .int) 1 := ⟨Mw_at 834 (by decide +kernel) (by decide +kernel), Mw_at 62 (by decide +kernel) (by decide +kernel), by decide +kernel, by decide +kernel, by decide +kernel⟩
theorem gv_L_169 : OKV RL 169 RX11 yX11_count cX11_count 2 (some .int) 1 := ⟨gb_X11_count, (Mw_at 831 (by decide +kernel) (by decide +kernel)), (Mw_at 832 (by decide +kernel) (by decide +kernel)), (Mw_at 833 (by decide +kernel) (by decide +kernel))⟩
theorem gb_X11_status : OKB yX11_status cX11_status 4 (some .int) 1 := ⟨Mw_at 838 (by decide +kernel) (by decide +kernel), Mw_at 62 (by decide +kernel) (by decide +kernel), by decide +kernel, by decide +kernel, by decide +kernel⟩
theorem gv_L_173 : OKV RL 173 RX11 yX11_status cX11_status 4 (some .int) 1 := ⟨gb_X11_status, (Mw_at 835 (by decide +kernel) (by decide +kernel)), (Mw_at 836 (by decide +kernel) (by decide +kernel)), (Mw_at 837 (by decide +kernel) (by decide +kernel))⟩
theorem gb_X12_moves : OKB yX12_moves cX12_moves 2 (some .int) 1 := ⟨Mw_at 897 (by decide +kernel) (by decide +kernel), Mw_at 74 (by decide +kernel) (by decide +kernel), by decide +kernel, by decide +kernel, by decide +kernel⟩
theorem gv_L_17 : OKV RL 17 RX12 yX12_moves cX12_moves 2 (some .int) 1 := ⟨gb_X12_moves, (Mw_at 894 (by decide +kernel) (by decide +kernel)), (Mw_at 895 (by decide +kernel) (by decide +kernel)), (Mw_at 896 (by decide +kernel) (by decide +kernel))⟩
theorem gb_X12_in : OKB yX12_in cX12_in 4 (some .boolean) 3 := ⟨Mw_at 900 (by decide +kernel) (by decide +kernel), Mw_at 74 (by decide +kernel) (by decide +kernel), by decide +kernel, by decide +kernel, by decide +kernel⟩
theorem gs_X12_41 : OKS RX12 41 yX12_in cX12_in 4 (some .boolean) 3 := ⟨gb_X12_in, (Mw_at 898 (by decide +kernel) (by decide +kernel)), (Mw_at 899 (by decide +kernel) (by decide +kernel))⟩
theorem gb_X12_becomes : OKB yX12_becomes cX12_becomes 4 (some .int) 2 := ⟨Mw_at 904 (by decide +kernel) (by decide +kernel), Mw_at 74 (by decide +kernel) (by decide +kernel), by decide +kernel, by decide +kernel, by decide +kernel⟩
theorem gv_X12_63 : OKV RX12 63 RX12 yX12_becomes cX12_becomes 4 (some .int) 2 := ⟨gb_X12_becomes, (Mw_at 901 (by decide +kernel) (by decide +kernel)), (Mw_at 903 (by decide +kernel) (by decide +kernel)), (Mw_at 18 (by decide +kernel) (by decide +kernel))⟩
theorem gb_X12_finds : OKB yX12_finds cX12_finds 2 (some .int) 1 := ⟨Mw_at 909 (by decide +kernel) (by decide +kernel), Mw_at 74 (by decide +kernel) (by decide +kernel), by decide +kernel, by decide +kernel, by decide +kernel⟩
theorem gv_X12_37 : OKV RX12 37 RX12 yX12_finds cX12_finds 2 (some .int) 1 := ⟨gb_X12_finds, (Mw_at 906 (by decide +kernel) (by decide +kernel)), (Mw_at 908 (by decide +kernel) (by decide +kernel)), (Mw_at 19 (by decide +kernel) (by decide +kernel))⟩
theorem gb_X12_slip : OKB yX12_slip cX12_slip 2 (some .int) 1 := ⟨Mw_at 913 (by decide +kernel) (by decide +kernel), Mw_at 74 (by decide +kernel) (by decide +kernel), by decide +kernel, by decide +kernel, by decide +kernel⟩
theorem gv_L_21 : OKV RL 21 RX12 yX12_slip cX12_slip 2 (some .int) 1 := ⟨gb_X12_slip, (Mw_at 910 (by decide +kernel) (by decide +kernel)), (Mw_at 911 (by decide +kernel) (by decide +kernel)), (Mw_at 912 (by decide +kernel) (by decide +kernel))⟩
theorem gb_X12_comesTo : OKB yX12_comesTo cX12_comesTo 4 (some .int) 2 := ⟨Mw_at 918 (by decide +kernel) (by decide +kernel), Mw_at 74 (by decide +kernel) (by decide +kernel), by decide +kernel, by decide +kernel, by decide +kernel⟩
theorem gv_X12_71 : OKV RX12 71 RX12 yX12_comesTo cX12_comesTo 4 (some .int) 2 := ⟨gb_X12_comesTo, (Mw_at 915 (by decide +kernel) (by decide +kernel)), (Mw_at 917 (by decide +kernel) (by decide +kernel)), (Mw_at 20 (by decide +kernel) (by decide +kernel))⟩
theorem gb_X12_put : OKB yX12_put cX12_put 4 none 3 := ⟨Mw_at 922 (by decide +kernel) (by decide +kernel), Mw_at 74 (by decide +kernel) (by decide +kernel), by decide +kernel, by decide +kernel, by decide +kernel⟩
theorem gv_X12_66 : OKV RX12 66 RX12 yX12_put cX12_put 4 none 3 := ⟨gb_X12_put, (Mw_at 919 (by decide +kernel) (by decide +kernel)), (Mw_at 921 (by decide +kernel) (by decide +kernel)), (Mw_at 21 (by decide +kernel) (by decide +kernel))⟩
theorem gb_X12_slipOf : OKB yX12_slipOf cX12_slipOf 3 (some .int) 2 := ⟨Mw_at 926 (by decide +kernel) (by decide +kernel), Mw_at 74 (by decide +kernel) (by decide +kernel), by decide +kernel, by decide +kernel, by decide +kernel⟩
theorem gv_L_26 : OKV RL 26 RX12 yX12_slipOf cX12_slipOf 3 (some .int) 2 := ⟨gb_X12_slipOf, (Mw_at 923 (by decide +kernel) (by decide +kernel)), (Mw_at 924 (by decide +kernel) (by decide +kernel)), (Mw_at 925 (by decide +kernel) (by decide +kernel))⟩
theorem gb_X12_isSlip : OKB yX12_isSlip cX12_isSlip 2 (some .boolean) 1 := ⟨Mw_at 930 (by decide +kernel) (by decide +kernel), Mw_at 74 (by decide +kernel) (by decide +kernel), by decide +kernel, by decide +kernel, by decide +kernel⟩
theorem gv_X12_74 : OKV RX12 74 RX12 yX12_isSlip cX12_isSlip 2 (some .boolean) 1 := ⟨gb_X12_isSlip, (Mw_at 927 (by decide +kernel) (by decide +kernel)), (Mw_at 929 (by decide +kernel) (by decide +kernel)), (Mw_at 22 (by decide +kernel) (by decide +kernel))⟩
theorem gb_X12_it : OKB yX12_it cX12_it 3 (some .int) 2 := ⟨Mw_at 934 (by decide +kernel) (by decide +kernel), Mw_at 74 (by decide +kernel) (by decide +kernel), by decide +kernel, by decide +kernel, by decide +kernel⟩
theorem gv_X12_49 : OKV RX12 49 RX12 yX12_it cX12_it 3 (some .int) 2 := ⟨gb_X12_it, (Mw_at 931 (by decide +kernel) (by decide +kernel)), (Mw_at 933 (by decide +kernel) (by decide +kernel)), (Mw_at 23 (by decide +kernel) (by decide +kernel))⟩
theorem gb_X12_happyWith : OKB yX12_happyWith cX12_happyWith 4 (some .int) 1 := ⟨Mw_at 938 (by decide +kernel) (by decide +kernel), Mw_at 74 (by decide +kernel) (by decide +kernel), by decide +kernel, by decide +kernel, by decide +kernel⟩
theorem gv_X12_78 : OKV RX12 78 RX12 yX12_happyWith cX12_happyWith 4 (some .int) 1 := ⟨gb_X12_happyWith, (Mw_at 935 (by decide +kernel) (by decide +kernel)), (Mw_at 937 (by decide +kernel) (by decide +kernel)), (Mw_at 24 (by decide +kernel) (by decide +kernel))⟩
theorem gb_X12_wish : OKB yX12_wish cX12_wish 3 (some .int) 2 := ⟨Mw_at 942 (by decide +kernel) (by decide +kernel), Mw_at 74 (by decide +kernel) (by decide +kernel), by decide +kernel, by decide +kernel, by decide +kernel⟩
theorem gv_X12_52 : OKV RX12 52 RX12 yX12_wish cX12_wish 3 (some .int) 2 := ⟨gb_X12_wish, (Mw_at 939 (by decide +kernel) (by decide +kernel)), (Mw_at 941 (by decide +kernel) (by decide +kernel)), (Mw_at 25 (by decide +kernel) (by decide +kernel))⟩
theorem gb_X12_who : OKB yX12_who cX12_who 3 (some .int) 2 := ⟨Mw_at 946 (by decide +kernel) (by decide +kernel), Mw_at 74 (by decide +kernel) (by decide +kernel), by decide +kernel, by decide +kernel, by decide +kernel⟩
theorem gv_X12_45 : OKV RX12 45 RX12 yX12_who cX12_who 3 (some .int) 2 := ⟨gb_X12_who, (Mw_at 943 (by decide +kernel) (by decide +kernel)), (Mw_at 945 (by decide +kernel) (by decide +kernel)), (Mw_at 26 (by decide +kernel) (by decide +kernel))⟩
theorem gb_X12_wantMost : OKB yX12_wantMost cX12_wantMost 7 (some .int) 1 := ⟨Mw_at 950 (by decide +kernel) (by decide +kernel), Mw_at 74 (by decide +kernel) (by decide +kernel), by decide +kernel, by decide +kernel, by decide +kernel⟩
theorem gv_X12_81 : OKV RX12 81 RX12 yX12_wantMost cX12_wantMost 7 (some .int) 1 := ⟨gb_X12_wantMost, (Mw_at 947 (by decide +kernel) (by decide +kernel)), (Mw_at 949 (by decide +kernel) (by decide +kernel)), (Mw_at 27 (by decide +kernel) (by decide +kernel))⟩
theorem gb_X12_stick : OKB yX12_stick cX12_stick 5 (some .int) 3 := ⟨Mw_at 954 (by decide +kernel) (by decide +kernel), Mw_at 74 (by decide +kernel) (by decide +kernel), by decide +kernel, by decide +kernel, by decide +kernel⟩
theorem gv_L_31 : OKV RL 31 RX12 yX12_stick cX12_stick 5 (some .int) 3 := ⟨gb_X12_stick, (Mw_at 951 (by decide +kernel) (by decide +kernel)), (Mw_at 952 (by decide +kernel) (by decide +kernel)), (Mw_at 953 (by decide +kernel) (by decide +kernel))⟩
theorem gb_X12_group : OKB yX12_group cX12_group 2 (some .int) 1 := ⟨Mw_at 958 (by decide +kernel) (by decide +kernel), Mw_at 74 (by decide +kernel) (by decide +kernel), by decide +kernel, by decide +kernel, by decide +kernel⟩
theorem gv_L_35 : OKV RL 35 RX12 yX12_group cX12_group 2 (some .int) 1 := ⟨gb_X12_group, (Mw_at 955 (by decide +kernel) (by decide +kernel)), (Mw_at 956 (by decide +kernel) (by decide +kernel)), (Mw_at 957 (by decide +kernel) (by decide +kernel))⟩
theorem gb_X12_slipsIn : OKB yX12_slipsIn cX12_slipsIn 4 (some .int) 1 := ⟨Mw_at 962 (by decide +kernel) (by decide +kernel), Mw_at 74 (by decide +kernel) (by decide +kernel), by decide +kernel, by decide +kernel, by decide +kernel⟩
theorem gv_X12_84 : OKV RX12 84 RX12 yX12_slipsIn cX12_slipsIn 4 (some .int) 1 := ⟨gb_X12_slipsIn, (Mw_at 959 (by decide +kernel) (by decide +kernel)), (Mw_at 961 (by decide +kernel) (by decide +kernel)), (Mw_at 28 (by decide +kernel) (by decide +kernel))⟩
theorem gb_X12_now : OKB yX12_now cX12_now 2 (some .int) 1 := ⟨Mw_at 966 (by decide +kernel) (by decide +kernel), Mw_at 74 (by decide +kernel) (by decide +kernel), by decide +kernel, by decide +kernel, by decide +kernel⟩
theorem gv_L_39 : OKV RL 39 RX12 yX12_now cX12_now 2 (some .int) 1 := ⟨gb_X12_now, (Mw_at 963 (by decide +kernel) (by decide +kernel)), (Mw_at 964 (by decide +kernel) (by decide +kernel)), (Mw_at 965 (by decide +kernel) (by decide +kernel))⟩
theorem gb_X12_groupsHad : OKB yX12_groupsHad cX12_groupsHad 3 (some .int) 0 := ⟨Mw_at 970 (by decide +kernel) (by decide +kernel), Mw_at 74 (by decide +kernel) (by decide +kernel), by decide +kernel, by decide +kernel, by decide +kernel⟩
theorem gv_X12_87 : OKV RX12 87 RX12 yX12_groupsHad cX12_groupsHad 3 (some .int) 0 := ⟨gb_X12_groupsHad, (Mw_at 967 (by decide +kernel) (by decide +kernel)), (Mw_at 969 (by decide +kernel) (by decide +kernel)), (Mw_at 29 (by decide +kernel) (by decide +kernel))⟩
theorem gb_X12_fixedOnes : OKB yX12_fixedOnes cX12_fixedOnes 3 (some .int) 0 := ⟨Mw_at 974 (by decide +kernel) (by decide +kernel), Mw_at 74 (by decide +kernel) (by decide +kernel), by decide +kernel, by decide +kernel, by decide +kernel⟩
theorem gv_X12_91 : OKV RX12 91 RX12 yX12_fixedOnes cX12_fixedOnes 3 (some .int) 0 := ⟨gb_X12_fixedOnes, (Mw_at 971 (by decide +kernel) (by decide +kernel)), (Mw_at 973 (by decide +kernel) (by decide +kernel)), (Mw_at 30 (by decide +kernel) (by decide +kernel))⟩
theorem gb_X12_allMoved : OKB yX12_allMoved cX12_allMoved 3 (some .int) 0 := ⟨Mw_at 978 (by decide +kernel) (by decide +kernel), Mw_at 74 (by decide +kernel) (by decide +kernel), by decide +kernel, by decide +kernel, by decide +kernel⟩
theorem gv_X12_94 : OKV RX12 94 RX12 yX12_allMoved cX12_allMoved 3 (some .int) 0 := ⟨gb_X12_allMoved, (Mw_at 975 (by decide +kernel) (by decide +kernel)), (Mw_at 977 (by decide +kernel) (by decide +kernel)), (Mw_at 31 (by decide +kernel) (by decide +kernel))⟩
theorem gb_X12_person : OKB yX12_person cX12_person 2 (some .int) 1 := ⟨Mw_at 982 (by decide +kernel) (by decide +kernel), Mw_at 74 (by decide +kernel) (by decide +kernel), by decide +kernel, by decide +kernel, by decide +kernel⟩
theorem gv_L_43 : OKV RL 43 RX12 yX12_person cX12_person 2 (some .int) 1 := ⟨gb_X12_person, (Mw_at 979 (by decide +kernel) (by decide +kernel)), (Mw_at 980 (by decide +kernel) (by decide +kernel)), (Mw_at 981 (by decide +kernel) (by decide +kernel))⟩
theorem gb_X12_comesAs : OKB yX12_comesAs cX12_comesAs 4 (some .int) 1 := ⟨Mw_at 986 (by decide +kernel) (by decide +kernel), Mw_at 74 (by decide +kernel) (by decide +kernel), by decide +kernel, by decide +kernel, by decide +kernel⟩
theorem gv_X12_97 : OKV RX12 97 RX12 yX12_comesAs cX12_comesAs 4 (some .int) 1 := ⟨gb_X12_comesAs, (Mw_at 983 (by decide +kernel) (by decide +kernel)), (Mw_at 985 (by decide +kernel) (by decide +kernel)), (Mw_at 32 (by decide +kernel) (by decide +kernel))⟩
theorem gb_X12_of : OKB yX12_of cX12_of 3 (some .int) 2 := ⟨Mw_at 990 (by decide +kernel) (by decide +kernel), Mw_at 74 (by decide +kernel) (by decide +kernel), by decide +kernel, by decide +kernel, by decide +kernel⟩
theorem gv_L_47 : OKV RL 47 RX12 yX12_of cX12_of 3 (some .int) 2 := ⟨gb_X12_of, (Mw_at 987 (by decide +kernel) (by decide +kernel)), (Mw_at 988 (by decide +kernel) (by decide +kernel)), (Mw_at 989 (by decide +kernel) (by decide +kernel))⟩
theorem gb_X12_isPerson : OKB yX12_isPerson cX12_isPerson 2 (some .boolean) 1 := ⟨Mw_at 994 (by decide +kernel) (by decide +kernel), Mw_at 74 (by decide +kernel) (by decide +kernel), by decide +kernel, by decide +kernel, by decide +kernel⟩
theorem gv_X12_100 : OKV RX12 100 RX12 yX12_isPerson cX12_isPerson 2 (some .boolean) 1 := ⟨gb_X12_isPerson, (Mw_at 991 (by decide +kernel) (by decide +kernel)), (Mw_at 993 (by decide +kernel) (by decide +kernel)), (Mw_at 33 (by decide +kernel) (by decide +kernel))⟩
theorem gb_X12_wayOf : OKB yX12_wayOf cX12_wayOf 4 (some .int) 1 := ⟨Mw_at 998 (by decide +kernel) (by decide +kernel), Mw_at 74 (by decide +kernel) (by decide +kernel), by decide +kernel, by decide +kernel, by decide +kernel⟩
theorem gv_X12_103 : OKV RX12 103 RX12 yX12_wayOf cX12_wayOf 4 (some .int) 1 := ⟨gb_X12_wayOf, (Mw_at 995 (by decide +kernel) (by decide +kernel)), (Mw_at 997 (by decide +kernel) (by decide +kernel)), (Mw_at 34 (by decide +kernel) (by decide +kernel))⟩
theorem gb_X12_picked : OKB yX12_picked cX12_picked 5 (some .int) 1 := ⟨Mw_at 1002 (by decide +kernel) (by decide +kernel), Mw_at 74 (by decide +kernel) (by decide +kernel), by decide +kernel, by decide +kernel, by decide +kernel⟩
theorem gv_X12_106 : OKV RX12 106 RX12 yX12_picked cX12_picked 5 (some .int) 1 := ⟨gb_X12_picked, (Mw_at 999 (by decide +kernel) (by decide +kernel)), (Mw_at 1001 (by decide +kernel) (by decide +kernel)), (Mw_at 35 (by decide +kernel) (by decide +kernel))⟩
theorem gb_X12_mayTouch : OKB yX12_mayTouch cX12_mayTouch 6 (some .boolean) 2 := ⟨Mw_at 1006 (by decide +kernel) (by decide +kernel), Mw_at 74 (by decide +kernel) (by decide +kernel), by decide +kernel, by decide +kernel, by decide +kernel⟩
theorem gv_X12_55 : OKV RX12 55 RX12 yX12_mayTouch cX12_mayTouch 6 (some .boolean) 2 := ⟨gb_X12_mayTouch, (Mw_at 1003 (by decide +kernel) (by decide +kernel)), (Mw_at 1005 (by decide +kernel) (by decide +kernel)), (Mw_at 36 (by decide +kernel) (by decide +kernel))⟩
theorem gb_X12_prefers : OKB yX12_prefers cX12_prefers 4 (some .boolean) 3 := ⟨Mw_at 1010 (by decide +kernel) (by decide +kernel), Mw_at 74 (by decide +kernel) (by decide +kernel), by decide +kernel, by decide +kernel, by decide +kernel⟩
theorem gv_X12_59 : OKV RX12 59 RX12 yX12_prefers cX12_prefers 4 (some .boolean) 3 := ⟨gb_X12_prefers, (Mw_at 1007 (by decide +kernel) (by decide +kernel)), (Mw_at 1009 (by decide +kernel) (by decide +kernel)), (Mw_at 37 (by decide +kernel) (by decide +kernel))⟩
theorem gb_X12_turnsOf : OKB yX12_turnsOf cX12_turnsOf 2 (some .int) 1 := ⟨Mw_at 1014 (by decide +kernel) (by decide +kernel), Mw_at 74 (by decide +kernel) (by decide +kernel), by decide +kernel, by decide +kernel, by decide +kernel⟩
theorem gv_X12_109 : OKV RX12 109 RX12 yX12_turnsOf cX12_turnsOf 2 (some .int) 1 := ⟨gb_X12_turnsOf, (Mw_at 1011 (by decide +kernel) (by decide +kernel)), (Mw_at 1013 (by decide +kernel) (by decide +kernel)), (Mw_at 38 (by decide +kernel) (by decide +kernel))⟩
theorem gb_X12_wants : OKB yX12_wants cX12_wants 5 (some .int) 3 := ⟨Mw_at 1018 (by decide +kernel) (by decide +kernel), Mw_at 74 (by decide +kernel) (by decide +kernel), by decide +kernel, by decide +kernel, by decide +kernel⟩
theorem gv_L_51 : OKV RL 51 RX12 yX12_wants cX12_wants 5 (some .int) 3 := ⟨gb_X12_wants, (Mw_at 1015 (by decide +kernel) (by decide +kernel)), (Mw_at 1016 (by decide +kernel) (by decide +kernel)), (Mw_at 1017 (by decide +kernel) (by decide +kernel))⟩
theorem gb_X12_out : OKB yX12_out cX12_out 3 (some .int) 2 := ⟨Mw_at 1022 (by decide +kernel) (by decide +kernel), Mw_at 74 (by decide +kernel) (by decide +kernel), by decide +kernel, by decide +kernel, by decide +kernel⟩
theorem gv_L_55 : OKV RL 55 RX12 yX12_out cX12_out 3 (some .int) 2 := ⟨gb_X12_out, (Mw_at 1019 (by decide +kernel) (by decide +kernel)), (Mw_at 1020 (by decide +kernel) (by decide +kernel)), (Mw_at 1021 (by decide +kernel) (by decide +kernel))⟩
theorem gb_X12_turn : OKB yX12_turn cX12_turn 3 (some .int) 2 := ⟨Mw_at 1026 (by decide +kernel) (by decide +kernel), Mw_at 74 (by decide +kernel) (by decide +kernel), by decide +kernel, by decide +kernel, by decide +kernel⟩
theorem gv_L_59 : OKV RL 59 RX12 yX12_turn cX12_turn 3 (some .int) 2 := ⟨gb_X12_turn, (Mw_at 1023 (by decide +kernel) (by decide +kernel)), (Mw_at 1024 (by decide +kernel) (by decide +kernel)), (Mw_at 1025 (by decide +kernel) (by decide +kernel))⟩
theorem gb_X12_as : OKB yX12_as cX12_as 5 (some .int) 2 := ⟨Mw_at 1030 (by decide +kernel) (by decide +kernel), Mw_at 74 (by decide +kernel) (by decide +kernel), by decide +kernel, by decide +kernel, by decide +kernel⟩
theorem gv_L_63 : OKV RL 63 RX12 yX12_as cX12_as 5 (some .int) 2 := ⟨gb_X12_as, (Mw_at 1027 (by decide +kernel) (by decide +kernel)), (Mw_at 1028 (by decide +kernel) (by decide +kernel)), (Mw_at 1029 (by decide +kernel) (by decide +kernel))⟩
theorem gb_X12_bits : OKB yX12_bits cX12_bits 3 (some .int) 1 := ⟨Mw_at 1033 (by decide +kernel) (by decide +kernel), Mw_at 74 (by decide +kernel) (by decide +kernel), by decide +kernel, by decide +kernel, by decide +kernel⟩
theorem gs_X12_112 : OKS RX12 112 yX12_bits cX12_bits 3 (some .int) 1 := ⟨gb_X12_bits, (Mw_at 1031 (by decide +kernel) (by decide +kernel)), (Mw_at 1032 (by decide +kernel) (by decide +kernel))⟩
theorem gb_X12_alike : OKB yX12_alike cX12_alike 3 (some .int) 2 := ⟨Mw_at 1038 (by decide +kernel) (by decide +kernel), Mw_at 74 (by decide +kernel) (by decide +kernel), by decide +kernel, by decide +kernel, by decide +kernel⟩
theorem gv_L_67 : OKV RL 67 RX12 yX12_alike cX12_alike 3 (some .int) 2 := ⟨gb_X12_alike, (Mw_at 1035 (by decide +kernel) (by decide +kernel)), (Mw_at 1036 (by decide +kernel) (by decide +kernel)), (Mw_at 1037 (by decide +kernel) (by decide +kernel))⟩
theorem gb_X12_sameOf : OKB yX12_sameOf cX12_sameOf 5 (some .int) 2 := ⟨Mw_at 1042 (by decide +kernel) (by decide +kernel), Mw_at 74 (by decide +kernel) (by decide +kernel), by decide +kernel, by decide +kernel, by decide +kernel⟩
theorem gv_X12_116 : OKV RX12 116 RX12 yX12_sameOf cX12_sameOf 5 (some .int) 2 := ⟨gb_X12_sameOf, (Mw_at 1039 (by decide +kernel) (by decide +kernel)), (Mw_at 1041 (by decide +kernel) (by decide +kernel)), (Mw_at 39 (by decide +kernel) (by decide +kernel))⟩
theorem gb_X12_minutes : OKB yX12_minutes cX12_minutes 2 (some .int) 1 := ⟨Mw_at 1046 (by decide +kernel) (by decide +kernel), Mw_at 74 (by decide +kernel) (by decide +kernel), by decide +kernel, by decide +kernel, by decide +kernel⟩
theorem gv_L_71 : OKV RL 71 RX12 yX12_minutes cX12_minutes 2 (some .int) 1 := ⟨gb_X12_minutes, (Mw_at 1043 (by decide +kernel) (by decide +kernel)), (Mw_at 1044 (by decide +kernel) (by decide +kernel)), (Mw_at 1045 (by decide +kernel) (by decide +kernel))⟩
theorem gb_X12_goesFor : OKB yX12_goesFor cX12_goesFor 3 none 1 := ⟨Mw_at 1052 (by decide +kernel) (by decide +kernel), Mw_at 74 (by decide +kernel) (by decide +kernel), by decide +kernel, by decide +kernel, by decide +kernel⟩
theorem gv_X12_139 : OKV RX12 139 RX12 yX12_goesFor cX12_goesFor 3 none 1 := ⟨gb_X12_goesFor, (Mw_at 1049 (by decide +kernel) (by decide +kernel)), (Mw_at 1051 (by decide +kernel) (by decide +kernel)), (Mw_at 40 (by decide +kernel) (by decide +kernel))⟩
theorem gb_X12_goes : OKB yX12_goes cX12_goes 3 none 0 := ⟨Mw_at 1056 (by decide +kernel) (by decide +kernel), Mw_at 74 (by decide +kernel) (by decide +kernel), by decide +kernel, by decide +kernel, by decide +kernel⟩
theorem gv_X12_134 : OKV RX12 134 RX12 yX12_goes cX12_goes 3 none 0 := ⟨gb_X12_goes, (Mw_at 1053 (by decide +kernel) (by decide +kernel)), (Mw_at 1055 (by decide +kernel) (by decide +kernel)), (Mw_at 41 (by decide +kernel) (by decide +kernel))⟩
theorem gb_X12_movesOne : OKB yX12_movesOne cX12_movesOne 3 none 1 := ⟨Mw_at 1060 (by decide +kernel) (by decide +kernel), Mw_at 74 (by decide +kernel) (by decide +kernel), by decide +kernel, by decide +kernel, by decide +kernel⟩
theorem gv_X12_130 : OKV RX12 130 RX12 yX12_movesOne cX12_movesOne 3 none 1 := ⟨gb_X12_movesOne, (Mw_at 1057 (by decide +kernel) (by decide +kernel)), (Mw_at 1059 (by decide +kernel) (by decide +kernel)), (Mw_at 42 (by decide +kernel) (by decide +kernel))⟩
theorem gb_X12_held : OKB yX12_held cX12_held 3 (some .int) 3 := ⟨Mw_at 1063 (by decide +kernel) (by decide +kernel), Mw_at 74 (by decide +kernel) (by decide +kernel), by decide +kernel, by decide +kernel, by decide +kernel⟩
theorem gs_X12_119 : OKS RX12 119 yX12_held cX12_held 3 (some .int) 3 := ⟨gb_X12_held, (Mw_at 1061 (by decide +kernel) (by decide +kernel)), (Mw_at 1062 (by decide +kernel) (by decide +kernel))⟩
theorem gb_X12_doesFix : OKB yX12_doesFix cX12_doesFix 3 (some .boolean) 2 := ⟨Mw_at 1067 (by decide +kernel) (by decide +kernel), Mw_at 74 (by decide +kernel) (by decide +kernel), by decide +kernel, by decide +kernel, by decide +kernel⟩
theorem gv_X12_123 : OKV RX12 123 RX12 yX12_doesFix cX12_doesFix 3 (some .boolean) 2 := ⟨gb_X12_doesFix, (Mw_at 1064 (by decide +kernel) (by decide +kernel)), (Mw_at 1066 (by decide +kernel) (by decide +kernel)), (Mw_at 43 (by decide +kernel) (by decide +kernel))⟩
theorem gb_X12_on : OKB yX12_on cX12_on 5 (some .int) 3 := ⟨Mw_at 1071 (by decide +kernel) (by decide +kernel), Mw_at 74 (by decide +kernel) (by decide +kernel), by decide +kernel, by decide +kernel, by decide +kernel⟩
theorem gv_L_75 : OKV RL 75 RX12 yX12_on cX12_on 5 (some .int) 3 := ⟨gb_X12_on, (Mw_at 1068 (by decide +kernel) (by decide +kernel)), (Mw_at 1069 (by decide +kernel) (by decide +kernel)), (Mw_at 1070 (by decide +kernel) (by decide +kernel))⟩
theorem gb_X12_thinks : OKB yX12_thinks cX12_thinks 1 none 0 := ⟨Mw_at 1075 (by decide +kernel) (by decide +kernel), Mw_at 74 (by decide +kernel) (by decide +kernel), by decide +kernel, by decide +kernel, by decide +kernel⟩
theorem gv_X12_146 : OKV RX12 146 RX12 yX12_thinks cX12_thinks 1 none 0 := ⟨gb_X12_thinks, (Mw_at 1072 (by decide +kernel) (by decide +kernel)), (Mw_at 1074 (by decide +kernel) (by decide +kernel)), (Mw_at 44 (by decide +kernel) (by decide +kernel))⟩
theorem gb_X12_copyAll : OKB yX12_copyAll cX12_copyAll 3 none 2 := ⟨Mw_at 1078 (by decide +kernel) (by decide +kernel), Mw_at 74 (by decide +kernel) (by decide +kernel), by decide +kernel, by decide +kernel, by decide +kernel⟩
theorem gs_X12_142 : OKS RX12 142 yX12_copyAll cX12_copyAll 3 none 2 := ⟨gb_X12_copyAll, (Mw_at 1076 (by decide +kernel) (by decide +kernel)), (Mw_at 1077 (by decide +kernel) (by decide +kernel))⟩
theorem gb_X12_putsBack : OKB yX12_putsBack cX12_putsBack 1 none 0 := ⟨Mw_at 1082 (by decide +kernel) (by decide +kernel), Mw_at 74 (by decide +kernel) (by decide +kernel), by decide +kernel, by decide +kernel, by decide +kernel⟩
theorem gv_X12_149 : OKV RX12 149 RX12 yX12_putsBack cX12_putsBack 1 none 0 := ⟨gb_X12_putsBack, (Mw_at 1079 (by decide +kernel) (by decide +kernel)), (Mw_at 1081 (by decide +kernel) (by decide +kernel)), (Mw_at 45 (by decide +kernel) (by decide +kernel))⟩
theorem gb_X12_way : OKB yX12_way cX12_way 3 (some .int) 2 := ⟨Mw_at 1086 (by decide +kernel) (by decide +kernel), Mw_at 74 (by decide +kernel) (by decide +kernel), by decide +kernel, by decide +kernel, by decide +kernel⟩
theorem gv_L_79 : OKV RL 79 RX12 yX12_way cX12_way 3 (some .int) 2 := ⟨gb_X12_way, (Mw_at 1083 (by decide +kernel) (by decide +kernel)), (Mw_at 1084 (by decide +kernel) (by decide +kernel)), (Mw_at 1085 (by decide +kernel) (by decide +kernel))⟩
theorem gb_X12_wayOn : OKB yX12_wayOn cX12_wayOn 4 (some .int) 2 := ⟨Mw_at 1090 (by decide +kernel) (by decide +kernel), Mw_at 74 (by decide +kernel) (by decide +kernel), by decide +kernel, by decide +kernel, by decide +kernel⟩
theorem gv_X12_152 : OKV RX12 152 RX12 yX12_wayOn cX12_wayOn 4 (some .int) 2 := ⟨gb_X12_wayOn, (Mw_at 1087 (by decide +kernel) (by decide +kernel)), (Mw_at 1089 (by decide +kernel) (by decide +kernel)), (Mw_at 46 (by decide +kernel) (by decide +kernel))⟩
theorem gb_X12_done : OKB yX12_done cX12_done 3 (some .int) 0 := ⟨Mw_at 1094 (by decide +kernel) (by decide +kernel), Mw_at 74 (by decide +kernel) (by decide +kernel), by decide +kernel, by decide +kernel, by decide +kernel⟩
theorem gv_L_84 : OKV RL 84 RX12 yX12_done cX12_done 3 (some .int) 0 := ⟨gb_X12_done, (Mw_at 1091 (by decide +kernel) (by decide +kernel)), (Mw_at 1092 (by decide +kernel) (by decide +kernel)), (Mw_at 1093 (by decide +kernel) (by decide +kernel))⟩
theorem gb_X12_moved : OKB yX12_moved cX12_moved 3 (some .int) 1 := ⟨Mw_at 1099 (by decide +kernel) (by decide +kernel), Mw_at 74 (by decide +kernel) (by decide +kernel), by decide +kernel, by decide +kernel, by decide +kernel⟩
theorem gv_L_88 : OKV RL 88 RX12 yX12_moved cX12_moved 3 (some .int) 1 := ⟨gb_X12_moved, (Mw_at 1096 (by decide +kernel) (by decide +kernel)), (Mw_at 1097 (by decide +kernel) (by decide +kernel)), (Mw_at 1098 (by decide +kernel) (by decide +kernel))⟩
theorem gb_X12_rule : OKB yX12_rule cX12_rule 3 (some .int) 2 := ⟨Mw_at 1103 (by decide +kernel) (by decide +kernel), Mw_at 74 (by decide +kernel) (by decide +kernel), by decide +kernel, by decide +kernel, by decide +kernel⟩
theorem gv_L_92 : OKV RL 92 RX12 yX12_rule cX12_rule 3 (some .int) 2 := ⟨gb_X12_rule, (Mw_at 1100 (by decide +kernel) (by decide +kernel)), (Mw_at 1101 (by decide +kernel) (by decide +kernel)), (Mw_at 1102 (by decide +kernel) (by decide +kernel))⟩
theorem gb_X12_bestAt : OKB yX12_bestAt cX12_bestAt 9 (some .int) 4 := ⟨Mw_at 1107 (by decide +kernel) (by decide +kernel), Mw_at 74 (by decide +kernel) (by decide +kernel), by decide +kernel, by decide +kernel, by decide +kernel⟩
theorem gv_X12_155 : OKV RX12 155 RX12 yX12_bestAt cX12_bestAt 9 (some .int) 4 := ⟨gb_X12_bestAt, (Mw_at 1104 (by decide +kernel) (by decide +kernel)), (Mw_at 1106 (by decide +kernel) (by decide +kernel)), (Mw_at 47 (by decide +kernel) (by decide +kernel))⟩
theorem gb_X12_send : OKB yX12_send cX12_send 7 (some .int) 2 := ⟨Mw_at 1111 (by decide +kernel) (by decide +kernel), Mw_at 74 (by decide +kernel) (by decide +kernel), by decide +kernel, by decide +kernel, by decide +kernel⟩
theorem gv_L_96 : OKV RL 96 RX12 yX12_send cX12_send 7 (some .int) 2 := ⟨gb_X12_send, (Mw_at 1108 (by decide +kernel) (by decide +kernel)), (Mw_at 1109 (by decide +kernel) (by decide +kernel)), (Mw_at 1110 (by decide +kernel) (by decide +kernel))⟩
theorem gb_X12_orNone : OKB yX12_orNone cX12_orNone 2 (some .int) 1 := ⟨Mw_at 1115 (by decide +kernel) (by decide +kernel), Mw_at 74 (by decide +kernel) (by decide +kernel), by decide +kernel, by decide +kernel, by decide +kernel⟩
theorem gv_X12_159 : OKV RX12 159 RX12 yX12_orNone cX12_orNone 2 (some .int) 1 := ⟨gb_X12_orNone, (Mw_at 1112 (by decide +kernel) (by decide +kernel)), (Mw_at 1114 (by decide +kernel) (by decide +kernel)), (Mw_at 48 (by decide +kernel) (by decide +kernel))⟩
theorem gb_X12_kind : OKB yX12_kind cX12_kind 3 (some .int) 2 := ⟨Mw_at 1119 (by decide +kernel) (by decide +kernel), Mw_at 74 (by decide +kernel) (by decide +kernel), by decide +kernel, by decide +kernel, by decide +kernel⟩
theorem gv_L_100 : OKV RL 100 RX12 yX12_kind cX12_kind 3 (some .int) 2 := ⟨gb_X12_kind, (Mw_at 1116 (by decide +kernel) (by decide +kernel)), (Mw_at 1117 (by decide +kernel) (by decide +kernel)), (Mw_at 1118 (by decide +kernel) (by decide +kernel))⟩
theorem gb_X12_pair : OKB yX12_pair cX12_pair 6 (some .int) 0 := ⟨Mw_at 1123 (by decide +kernel) (by decide +kernel), Mw_at 74 (by decide +kernel) (by decide +kernel), by decide +kernel, by decide +kernel, by decide +kernel⟩
theorem gv_L_104 : OKV RL 104 RX12 yX12_pair cX12_pair 6 (some .int) 0 := ⟨gb_X12_pair, (Mw_at 1120 (by decide +kernel) (by decide +kernel)), (Mw_at 1121 (by decide +kernel) (by decide +kernel)), (Mw_at 1122 (by decide +kernel) (by decide +kernel))⟩
theorem gb_X12_fix : OKB yX12_fix cX12_fix 7 (some .int) 1 := ⟨Mw_at 1127 (by decide +kernel) (by decide +kernel), Mw_at 74 (by decide +kernel) (by decide +kernel), by decide +kernel, by decide +kernel, by decide +kernel⟩
theorem gv_L_108 : OKV RL 108 RX12 yX12_fix cX12_fix 7 (some .int) 1 := ⟨gb_X12_fix, (Mw_at 1124 (by decide +kernel) (by decide +kernel)), (Mw_at 1125 (by decide +kernel) (by decide +kernel)), (Mw_at 1126 (by decide +kernel) (by decide +kernel))⟩
theorem gb_X12_winner : OKB yX12_winner cX12_winner 4 (some .int) 1 := ⟨Mw_at 1131 (by decide +kernel) (by decide +kernel), Mw_at 74 (by decide +kernel) (by decide +kernel), by decide +kernel, by decide +kernel, by decide +kernel⟩
theorem gv_L_112 : OKV RL 112 RX12 yX12_winner cX12_winner 4 (some .int) 1 := ⟨gb_X12_winner, (Mw_at 1128 (by decide +kernel) (by decide +kernel)), (Mw_at 1129 (by decide +kernel) (by decide +kernel)), (Mw_at 1130 (by decide +kernel) (by decide +kernel))⟩
theorem gb_X12_largest : OKB yX12_largest cX12_largest 4 (some .int) 1 := ⟨Mw_at 1135 (by decide +kernel) (by decide +kernel), Mw_at 74 (by decide +kernel) (by decide +kernel), by decide +kernel, by decide +kernel, by decide +kernel⟩
theorem gv_L_116 : OKV RL 116 RX12 yX12_largest cX12_largest 4 (some .int) 1 := ⟨gb_X12_largest, (Mw_at 1132 (by decide +kernel) (by decide +kernel)), (Mw_at 1133 (by decide +kernel) (by decide +kernel)), (Mw_at 1134 (by decide +kernel) (by decide +kernel))⟩
theorem gb_X12_feed : OKB yX12_feed cX12_feed 4 (some .int) 2 := ⟨Mw_at 1139 (by decide +kernel) (by decide +kernel), Mw_at 74 (by decide +kernel) (by decide +kernel), by decide +kernel, by decide +kernel, by decide +kernel⟩
theorem gv_L_120 : OKV RL 120 RX12 yX12_feed cX12_feed 4 (some .int) 2 := ⟨gb_X12_feed, (Mw_at 1136 (by decide +kernel) (by decide +kernel)), (Mw_at 1137 (by decide +kernel) (by decide +kernel)), (Mw_at 1138 (by decide +kernel) (by decide +kernel))⟩
theorem gb_X12_wipe : OKB yX12_wipe cX12_wipe 2 (some .int) 0 := ⟨Mw_at 1143 (by decide +kernel) (by decide +kernel), Mw_at 74 (by decide +kernel) (by decide +kernel), by decide +kernel, by decide +kernel, by decide +kernel⟩
theorem gv_L_124 : OKV RL 124 RX12 yX12_wipe cX12_wipe 2 (some .int) 0 := ⟨gb_X12_wipe, (Mw_at 1140 (by decide +kernel) (by decide +kernel)), (Mw_at 1141 (by decide +kernel) (by decide +kernel)), (Mw_at 1142 (by decide +kernel) (by decide +kernel))⟩
theorem gb_X12_wall : OKB yX12_wall cX12_wall 2 (some .int) 0 := ⟨Mw_at 1147 (by decide +kernel) (by decide +kernel), Mw_at 74 (by decide +kernel) (by decide +kernel), by decide +kernel, by decide +kernel, by decide +kernel⟩
theorem gv_L_128 : OKV RL 128 RX12 yX12_wall cX12_wall 2 (some .int) 0 := ⟨gb_X12_wall, (Mw_at 1144 (by decide +kernel) (by decide +kernel)), (Mw_at 1145 (by decide +kernel) (by decide +kernel)), (Mw_at 1146 (by decide +kernel) (by decide +kernel))⟩
theorem gb_X12_reads : OKB yX12_reads cX12_reads 1 none 0 := ⟨Mw_at 1151 (by decide +kernel) (by decide +kernel), Mw_at 74 (by decide +kernel) (by decide +kernel), by decide +kernel, by decide +kernel, by decide +kernel⟩
theorem gv_X12_193 : OKV RX12 193 RX12 yX12_reads cX12_reads 1 none 0 := ⟨gb_X12_reads, (Mw_at 1148 (by decide +kernel) (by decide +kernel)), (Mw_at 1150 (by decide +kernel) (by decide +kernel)), (Mw_at 49 (by decide +kernel) (by decide +kernel))⟩
theorem gb_X12_isByte : OKB yX12_isByte cX12_isByte 4 (some .boolean) 3 := ⟨Mw_at 1155 (by decide +kernel) (by decide +kernel), Mw_at 74 (by decide +kernel) (by decide +kernel), by decide +kernel, by decide +kernel, by decide +kernel⟩
theorem gv_X12_177 : OKV RX12 177 RX12 yX12_isByte cX12_isByte 4 (some .boolean) 3 := ⟨gb_X12_isByte, (Mw_at 1152 (by decide +kernel) (by decide +kernel)), (Mw_at 1154 (by decide +kernel) (by decide +kernel)), (Mw_at 50 (by decide +kernel) (by decide +kernel))⟩
theorem gb_X12_wordHere : OKB yX12_wordHere cX12_wordHere 2 (some .int) 0 := ⟨Mw_at 1159 (by decide +kernel) (by decide +kernel), Mw_at 74 (by decide +kernel) (by decide +kernel), by decide +kernel, by decide +kernel, by decide +kernel⟩
theorem gv_X12_186 : OKV RX12 186 RX12 yX12_wordHere cX12_wordHere 2 (some .int) 0 := ⟨gb_X12_wordHere, (Mw_at 1156 (by decide +kernel) (by decide +kernel)), (Mw_at 1158 (by decide +kernel) (by decide +kernel)), (Mw_at 51 (by decide +kernel) (by decide +kernel))⟩
theorem gb_X12_isName : OKB yX12_isName cX12_isName 5 (some .boolean) 2 := ⟨Mw_at 1163 (by decide +kernel) (by decide +kernel), Mw_at 74 (by decide +kernel) (by decide +kernel), by decide +kernel, by decide +kernel, by decide +kernel⟩
theorem gv_X12_174 : OKV RX12 174 RX12 yX12_isName cX12_isName 5 (some .boolean) 2 := ⟨gb_X12_isName, (Mw_at 1160 (by decide +kernel) (by decide +kernel)), (Mw_at 1162 (by decide +kernel) (by decide +kernel)), (Mw_at 52 (by decide +kernel) (by decide +kernel))⟩
theorem gb_X12_item : OKB yX12_item cX12_item 1 none 0 := ⟨Mw_at 1169 (by decide +kernel) (by decide +kernel), Mw_at 74 (by decide +kernel) (by decide +kernel), by decide +kernel, by decide +kernel, by decide +kernel⟩
theorem gv_X12_208 : OKV RX12 208 RX12 yX12_item cX12_item 1 none 0 := ⟨gb_X12_item, (Mw_at 1166 (by decide +kernel) (by decide +kernel)), (Mw_at 1168 (by decide +kernel) (by decide +kernel)), (Mw_at 53 (by decide +kernel) (by decide +kernel))⟩
theorem gb_X12_personItem : OKB yX12_personItem cX12_personItem 5 none 0 := ⟨Mw_at 1173 (by decide +kernel) (by decide +kernel), Mw_at 74 (by decide +kernel) (by decide +kernel), by decide +kernel, by decide +kernel, by decide +kernel⟩
theorem gv_X12_202 : OKV RX12 202 RX12 yX12_personItem cX12_personItem 5 none 0 := ⟨gb_X12_personItem, (Mw_at 1170 (by decide +kernel) (by decide +kernel)), (Mw_at 1172 (by decide +kernel) (by decide +kernel)), (Mw_at 54 (by decide +kernel) (by decide +kernel))⟩
theorem gb_X12_passes : OKB yX12_passes cX12_passes 2 (some .boolean) 1 := ⟨Mw_at 1177 (by decide +kernel) (by decide +kernel), Mw_at 74 (by decide +kernel) (by decide +kernel), by decide +kernel, by decide +kernel, by decide +kernel⟩
theorem gv_X12_196 : OKV RX12 196 RX12 yX12_passes cX12_passes 2 (some .boolean) 1 := ⟨gb_X12_passes, (Mw_at 1174 (by decide +kernel) (by decide +kernel)), (Mw_at 1176 (by decide +kernel) (by decide +kernel)), (Mw_at 55 (by decide +kernel) (by decide +kernel))⟩
theorem gb_X12_number : OKB yX12_number cX12_number 4 (some .int) 2 := ⟨Mw_at 1181 (by decide +kernel) (by decide +kernel), Mw_at 74 (by decide +kernel) (by decide +kernel), by decide +kernel, by decide +kernel, by decide +kernel⟩
theorem gv_X12_199 : OKV RX12 199 RX12 yX12_number cX12_number 4 (some .int) 2 := ⟨gb_X12_number, (Mw_at 1178 (by decide +kernel) (by decide +kernel)), (Mw_at 1180 (by decide +kernel) (by decide +kernel)), (Mw_at 56 (by decide +kernel) (by decide +kernel))⟩
theorem gb_X12_slipItem : OKB yX12_slipItem cX12_slipItem 4 none 0 := ⟨Mw_at 1185 (by decide +kernel) (by decide +kernel), Mw_at 74 (by decide +kernel) (by decide +kernel), by decide +kernel, by decide +kernel, by decide +kernel⟩
theorem gv_X12_205 : OKV RX12 205 RX12 yX12_slipItem cX12_slipItem 4 none 0 := ⟨gb_X12_slipItem, (Mw_at 1182 (by decide +kernel) (by decide +kernel)), (Mw_at 1184 (by decide +kernel) (by decide +kernel)), (Mw_at 57 (by decide +kernel) (by decide +kernel))⟩
theorem gb_X12_sheet : OKB yX12_sheet cX12_sheet 5 (some .int) 3 := ⟨Mw_at 1189 (by decide +kernel) (by decide +kernel), Mw_at 74 (by decide +kernel) (by decide +kernel), by decide +kernel, by decide +kernel, by decide +kernel⟩
theorem gv_L_132 : OKV RL 132 RX12 yX12_sheet cX12_sheet 5 (some .int) 3 := ⟨gb_X12_sheet, (Mw_at 1186 (by decide +kernel) (by decide +kernel)), (Mw_at 1187 (by decide +kernel) (by decide +kernel)), (Mw_at 1188 (by decide +kernel) (by decide +kernel))⟩
theorem gb_X12_isSheet : OKB yX12_isSheet cX12_isSheet 1 (some .boolean) 1 := ⟨Mw_at 1192 (by decide +kernel) (by decide +kernel), Mw_at 74 (by decide +kernel) (by decide +kernel), by decide +kernel, by decide +kernel, by decide +kernel⟩
theorem gs_X12_211 : OKS RX12 211 yX12_isSheet cX12_isSheet 1 (some .boolean) 1 := ⟨gb_X12_isSheet, (Mw_at 1190 (by decide +kernel) (by decide +kernel)), (Mw_at 1191 (by decide +kernel) (by decide +kernel))⟩
theorem gb_X12_write : OKB yX12_write cX12_write 8 (some .long) 3 := ⟨Mw_at 1197 (by decide +kernel) (by decide +kernel), Mw_at 74 (by decide +kernel) (by decide +kernel), by decide +kernel, by decide +kernel, by decide +kernel⟩
theorem gv_L_139 : OKV RL 139 RX12 yX12_write cX12_write 8 (some .long) 3 := ⟨gb_X12_write, (Mw_at 1194 (by decide +kernel) (by decide +kernel)), (Mw_at 1195 (by decide +kernel) (by decide +kernel)), (Mw_at 1196 (by decide +kernel) (by decide +kernel))⟩
theorem gb_X12_notThere : OKB yX12_notThere cX12_notThere 2 (some .int) 1 := ⟨Mw_at 1201 (by decide +kernel) (by decide +kernel), Mw_at 74 (by decide +kernel) (by decide +kernel), by decide +kernel, by decide +kernel, by decide +kernel⟩
theorem gv_X12_216 : OKV RX12 216 RX12 yX12_notThere cX12_notThere 2 (some .int) 1 := ⟨gb_X12_notThere, (Mw_at 1198 (by decide +kernel) (by decide +kernel)), (Mw_at 1200 (by decide +kernel) (by decide +kernel)), (Mw_at 58 (by decide +kernel) (by decide +kernel))⟩
theorem gb_X12_cutTo : OKB yX12_cutTo cX12_cutTo 3 (some .long) 2 := ⟨Mw_at 1205 (by decide +kernel) (by decide +kernel), Mw_at 74 (by decide +kernel) (by decide +kernel), by decide +kernel, by decide +kernel, by decide +kernel⟩
theorem gs_X12_219 : OKS RX12 219 yX12_cutTo cX12_cutTo 3 (some .long) 2 := ⟨gb_X12_cutTo, (Mw_at 1203 (by decide +kernel) (by decide +kernel)), (Mw_at 1204 (by decide +kernel) (by decide +kernel))⟩
theorem gb_X12_copy : OKB yX12_copy cX12_copy 9 (some .int) 5 := ⟨Mw_at 1209 (by decide +kernel) (by decide +kernel), Mw_at 74 (by decide +kernel) (by decide +kernel), by decide +kernel, by decide +kernel, by decide +kernel⟩
theorem gv_L_144 : OKV RL 144 RX12 yX12_copy cX12_copy 9 (some .int) 5 := ⟨gb_X12_copy, (Mw_at 1206 (by decide +kernel) (by decide +kernel)), (Mw_at 1207 (by decide +kernel) (by decide +kernel)), (Mw_at 1208 (by decide +kernel) (by decide +kernel))⟩
theorem gb_X12_notCopied : OKB yX12_notCopied cX12_notCopied 7 (some .int) 5 := ⟨Mw_at 1213 (by decide +kernel) (by decide +kernel), Mw_at 74 (by decide +kernel) (by decide +kernel), by decide +kernel, by decide +kernel, by decide +kernel⟩
theorem gv_X12_223 : OKV RX12 223 RX12 yX12_notCopied cX12_notCopied 7 (some .int) 5 := ⟨gb_X12_notCopied, (Mw_at 1210 (by decide +kernel) (by decide +kernel)), (Mw_at 1212 (by decide +kernel) (by decide +kernel)), (Mw_at 59 (by decide +kernel) (by decide +kernel))⟩
theorem gb_X12_lays : OKB yX12_lays cX12_lays 6 (some .int) 2 := ⟨Mw_at 1217 (by decide +kernel) (by decide +kernel), Mw_at 74 (by decide +kernel) (by decide +kernel), by decide +kernel, by decide +kernel, by decide +kernel⟩
theorem gv_L_148 : OKV RL 148 RX12 yX12_lays cX12_lays 6 (some .int) 2 := ⟨gb_X12_lays, (Mw_at 1214 (by decide +kernel) (by decide +kernel)), (Mw_at 1215 (by decide +kernel) (by decide +kernel)), (Mw_at 1216 (by decide +kernel) (by decide +kernel))⟩
theorem gb_X12_book : OKB yX12_book cX12_book 5 (some .int) 2 := ⟨Mw_at 1221 (by decide +kernel) (by decide +kernel), Mw_at 74 (by decide +kernel) (by decide +kernel), by decide +kernel, by decide +kernel, by decide +kernel⟩
theorem gv_L_152 : OKV RL 152 RX12 yX12_book cX12_book 5 (some .int) 2 := ⟨gb_X12_book, (Mw_at 1218 (by decide +kernel) (by decide +kernel)), (Mw_at 1219 (by decide +kernel) (by decide +kernel)), (Mw_at 1220 (by decide +kernel) (by decide +kernel))⟩
theorem gb_X12_read : OKB yX12_read cX12_read 7 (some .int) 3 := ⟨Mw_at 1225 (by decide +kernel) (by decide +kernel), Mw_at 74 (by decide +kernel) (by decide +kernel), by decide +kernel, by decide +kernel, by decide +kernel⟩
theorem gv_L_156 : OKV RL 156 RX12 yX12_read cX12_read 7 (some .int) 3 := ⟨gb_X12_read, (Mw_at 1222 (by decide +kernel) (by decide +kernel)), (Mw_at 1223 (by decide +kernel) (by decide +kernel)), (Mw_at 1224 (by decide +kernel) (by decide +kernel))⟩
theorem gb_X12_isBook : OKB yX12_isBook cX12_isBook 5 (some .boolean) 2 := ⟨Mw_at 1229 (by decide +kernel) (by decide +kernel), Mw_at 74 (by decide +kernel) (by decide +kernel), by decide +kernel, by decide +kernel, by decide +kernel⟩
theorem gv_X12_227 : OKV RX12 227 RX12 yX12_isBook cX12_isBook 5 (some .boolean) 2 := ⟨gb_X12_isBook, (Mw_at 1226 (by decide +kernel) (by decide +kernel)), (Mw_at 1228 (by decide +kernel) (by decide +kernel)), (Mw_at 60 (by decide +kernel) (by decide +kernel))⟩
theorem gb_X12_image : OKB yX12_image cX12_image 1 (some .int) 0 := ⟨Mw_at 1233 (by decide +kernel) (by decide +kernel), Mw_at 74 (by decide +kernel) (by decide +kernel), by decide +kernel, by decide +kernel, by decide +kernel⟩
theorem gv_L_160 : OKV RL 160 RX12 yX12_image cX12_image 1 (some .int) 0 := ⟨gb_X12_image, (Mw_at 1230 (by decide +kernel) (by decide +kernel)), (Mw_at 1231 (by decide +kernel) (by decide +kernel)), (Mw_at 1232 (by decide +kernel) (by decide +kernel))⟩
theorem gb_X12_undo : OKB yX12_undo cX12_undo 1 (some .int) 0 := ⟨Mw_at 1237 (by decide +kernel) (by decide +kernel), Mw_at 74 (by decide +kernel) (by decide +kernel), by decide +kernel, by decide +kernel, by decide +kernel⟩
theorem gv_L_164 : OKV RL 164 RX12 yX12_undo cX12_undo 1 (some .int) 0 := ⟨gb_X12_undo, (Mw_at 1234 (by decide +kernel) (by decide +kernel)), (Mw_at 1235 (by decide +kernel) (by decide +kernel)), (Mw_at 1236 (by decide +kernel) (by decide +kernel))⟩
theorem gb_X12_tear : OKB yX12_tear cX12_tear 2 (some .int) 0 := ⟨Mw_at 1241 (by decide +kernel) (by decide +kernel), Mw_at 74 (by decide +kernel) (by decide +kernel), by decide +kernel, by decide +kernel, by decide +kernel⟩
theorem gv_L_168 : OKV RL 168 RX12 yX12_tear cX12_tear 2 (some .int) 0 := ⟨gb_X12_tear, (Mw_at 1238 (by decide +kernel) (by decide +kernel)), (Mw_at 1239 (by decide +kernel) (by decide +kernel)), (Mw_at 1240 (by decide +kernel) (by decide +kernel))⟩
theorem gb_X12_count : OKB yX12_count cX12_count 2 (some .int) 1 := ⟨Mw_at 1245 (by decide +kernel) (by decide +kernel), Mw_at 74 (by decide +kernel) (by decide +kernel), by decide +kernel, by decide +kernel, by decide +kernel⟩
theorem gv_L_172 : OKV RL 172 RX12 yX12_count cX12_count 2 (some .int) 1 := ⟨gb_X12_count, (Mw_at 1242 (by decide +kernel) (by decide +kernel)), (Mw_at 1243 (by decide +kernel) (by decide +kernel)), (Mw_at 1244 (by decide +kernel) (by decide +kernel))⟩
theorem gb_X12_status : OKB yX12_status cX12_status 4 (some .int) 1 := ⟨Mw_at 1249 (by decide +kernel) (by decide +kernel), Mw_at 74 (by decide +kernel) (by decide +kernel), by decide +kernel, by decide +kernel, by decide +kernel⟩
theorem gv_L_176 : OKV RL 176 RX12 yX12_status cX12_status 4 (some .int) 1 := ⟨gb_X12_status, (Mw_at 1246 (by decide +kernel) (by decide +kernel)), (Mw_at 1247 (by decide +kernel) (by decide +kernel)), (Mw_at 1248 (by decide +kernel) (by decide +kernel))⟩
end
section
def b2i (b : Bool) : Int32 := cond b 1 0
theorem b2i_t {b : Bool} (h : b = true) : b2i b = 1 := by rw [h]; rfl
theorem b2i_f {b : Bool} (h : b = false) : b2i b = 0 := by rw [h]; rfl
theorem b2i_z (b : Bool) : b2i b = 0 ↔ b = false := by cases b <;> decide
theorem b2i_nz (b : Bool) : ¬ b2i b = 0 ↔ b = true := by cases b <;> decide
theorem b2i_nar (b : Bool) : narrow .boolean (.int (b2i b)) = .int (b2i b) := by cases b <;> rfl
theorem b2i_fit (b : Bool) : fits .boolean (.int (b2i b)) = true := by cases b <;> rfl
theorem t31 : (2 : Nat) ^ 31 = 2147483648 := rfl
section KQ
variable {p : Program} {l : Launch} {e : Env} {R : Room} {s : State} {m : MethodId} {args : Array Value} {below : List Frame} {meth : Method} {c : Code} {H : Heap} {locs : List Loc} {cells slots : Nat} {Q : State → Prop}
variable {cc : ByteArray} {pc nL : Nat} {own : String} {E : EE} {ls : Array Slot} {rest : List Value} {A : Nat → Prop} {a : Nat} {ws : va_W}
theorem k_topi {x x' : Int32} (h : x = x') (k : W p l e R s m args below meth c H locs cells slots Q (F0 m pc ls (.int x' :: rest))) : W p l e R s m args below meth c H locs cells slots Q (F0 m pc ls (.int x :: rest)) := h ▸ k
theorem k_topl {x x' : Int64} (h : x = x') (k : W p l e R s m args below meth c H locs cells slots Q (F0 m pc ls (.long x' :: rest))) : W p l e R s m args below meth c H locs cells slots Q (F0 m pc ls (.long x :: rest)) := h ▸ k
theorem k_ifeqB (hx : p.tables.exec = Jvm.exec) (hb : c.code = cc) {B : Bool} {off : Int} (tgt : Nat) (hdg : decode cc pc = .ok (.ifCond .eq off, 3)) (ht : (pc : Int) + off = (tgt : Int))
    (kt : B = false → W p l e R s m args below meth c H locs cells slots Q (F0 m tgt ls rest)) (kf : B = true → W p l e R s m args below meth c H locs cells slots Q (F0 m (pc + 3) ls rest)) : W p l e R s m args below meth c H locs cells slots Q (F0 m pc ls (.int (b2i B) :: rest)) :=
  lv_if_eq hx hb hdg ht (fun h => kt ((b2i_z B).mp h)) (fun h => kf ((b2i_nz B).mp h))
theorem k_ifneB (hx : p.tables.exec = Jvm.exec) (hb : c.code = cc) {B : Bool} {off : Int} (tgt : Nat) (hdg : decode cc pc = .ok (.ifCond .ne off, 3)) (ht : (pc : Int) + off = (tgt : Int))
    (kt : B = true → W p l e R s m args below meth c H locs cells slots Q (F0 m tgt ls rest)) (kf : B = false → W p l e R s m args below meth c H locs cells slots Q (F0 m (pc + 3) ls rest)) : W p l e R s m args below meth c H locs cells slots Q (F0 m pc ls (.int (b2i B) :: rest)) :=
  lv_if_ne hx hb hdg ht (fun h => kt ((b2i_nz B).mp h)) (fun h => kf ((b2i_z B).mp h))
/-! a known number on the stack -/
theorem k_if0eq (hx : p.tables.exec = Jvm.exec) (hb : c.code = cc) {off : Int} (tgt : Nat) (hdg : decode cc pc = .ok (.ifCond .eq off, 3)) (ht : (pc : Int) + off = (tgt : Int)) (kt : W p l e R s m args below meth c H locs cells slots Q (F0 m tgt ls rest)) : W p l e R s m args below meth c H locs cells slots Q (F0 m pc ls (.int 0 :: rest)) :=
  lv_if_eq hx hb hdg ht (fun _ => kt) (fun h => absurd rfl h)
theorem k_if0ne (hx : p.tables.exec = Jvm.exec) (hb : c.code = cc) {off : Int} (hdg : decode cc pc = .ok (.ifCond .ne off, 3)) (ht : ∃ tgt : Nat, (pc : Int) + off = (tgt : Int)) (kt : W p l e R s m args below meth c H locs cells slots Q (F0 m (pc + 3) ls rest)) : W p l e R s m args below meth c H locs cells slots Q (F0 m pc ls (.int 0 :: rest)) := by
  obtain ⟨tgt, ht⟩ := ht
  exact lv_if_ne hx hb hdg ht (fun h => absurd rfl h) (fun _ => kt)
theorem k_if1eq (hx : p.tables.exec = Jvm.exec) (hb : c.code = cc) {off : Int} (hdg : decode cc pc = .ok (.ifCond .eq off, 3)) (ht : ∃ tgt : Nat, (pc : Int) + off = (tgt : Int)) (kt : W p l e R s m args below meth c H locs cells slots Q (F0 m (pc + 3) ls rest)) : W p l e R s m args below meth c H locs cells slots Q (F0 m pc ls (.int 1 :: rest)) := by
  obtain ⟨tgt, ht⟩ := ht
  exact lv_if_eq hx hb hdg ht (fun h => absurd h (by decide)) (fun _ => kt)
theorem k_if1ne (hx : p.tables.exec = Jvm.exec) (hb : c.code = cc) {off : Int} (tgt : Nat) (hdg : decode cc pc = .ok (.ifCond .ne off, 3)) (ht : (pc : Int) + off = (tgt : Int)) (kt : W p l e R s m args below meth c H locs cells slots Q (F0 m tgt ls rest)) : W p l e R s m args below meth c H locs cells slots Q (F0 m pc ls (.int 1 :: rest)) :=
  lv_if_ne hx hb hdg ht (fun _ => kt) (fun h => absurd h (by decide))
/-! compares, told by < and = alone -/
theorem k_icmp_ge (hx : p.tables.exec = Jvm.exec) (hb : c.code = cc) {x y : Int32} {off : Int} (tgt : Nat) (hdg : decode cc pc = .ok (.if_icmp .ge off, 3)) (ht : (pc : Int) + off = (tgt : Int))
    (kt : ¬ x < y → W p l e R s m args below meth c H locs cells slots Q (F0 m tgt ls rest)) (kf : x < y → W p l e R s m args below meth c H locs cells slots Q (F0 m (pc + 3) ls rest)) : W p l e R s m args below meth c H locs cells slots Q (F0 m pc ls (.int y :: .int x :: rest)) :=
  lv_icmp_ge hx hb hdg ht (fun h => kt (Int32.not_lt.mpr h)) (fun h => kf (Int32.not_le.mp h))
theorem k_icmp_le (hx : p.tables.exec = Jvm.exec) (hb : c.code = cc) {x y : Int32} {off : Int} (tgt : Nat) (hdg : decode cc pc = .ok (.if_icmp .le off, 3)) (ht : (pc : Int) + off = (tgt : Int))
    (kt : ¬ y < x → W p l e R s m args below meth c H locs cells slots Q (F0 m tgt ls rest)) (kf : y < x → W p l e R s m args below meth c H locs cells slots Q (F0 m (pc + 3) ls rest)) : W p l e R s m args below meth c H locs cells slots Q (F0 m pc ls (.int y :: .int x :: rest)) :=
  lv_icmp_le hx hb hdg ht (fun h => kt (Int32.not_lt.mpr h)) (fun h => kf (Int32.not_le.mp h))
theorem k_icmp_lt (hx : p.tables.exec = Jvm.exec) (hb : c.code = cc) {x y : Int32} {off : Int} (tgt : Nat) (hdg : decode cc pc = .ok (.if_icmp .lt off, 3)) (ht : (pc : Int) + off = (tgt : Int))
    (kt : x < y → W p l e R s m args below meth c H locs cells slots Q (F0 m tgt ls rest)) (kf : ¬ x < y → W p l e R s m args below meth c H locs cells slots Q (F0 m (pc + 3) ls rest)) : W p l e R s m args below meth c H locs cells slots Q (F0 m pc ls (.int y :: .int x :: rest)) := lv_icmp_lt hx hb hdg ht kt kf
theorem k_icmp_gt (hx : p.tables.exec = Jvm.exec) (hb : c.code = cc) {x y : Int32} {off : Int} (tgt : Nat) (hdg : decode cc pc = .ok (.if_icmp .gt off, 3)) (ht : (pc : Int) + off = (tgt : Int))
    (kt : y < x → W p l e R s m args below meth c H locs cells slots Q (F0 m tgt ls rest)) (kf : ¬ y < x → W p l e R s m args below meth c H locs cells slots Q (F0 m (pc + 3) ls rest)) : W p l e R s m args below meth c H locs cells slots Q (F0 m pc ls (.int y :: .int x :: rest)) := lv_icmp_gt hx hb hdg ht kt kf
theorem k_icmp_eq (hx : p.tables.exec = Jvm.exec) (hb : c.code = cc) {x y : Int32} {off : Int} (tgt : Nat) (hdg : decode cc pc = .ok (.if_icmp .eq off, 3)) (ht : (pc : Int) + off = (tgt : Int))
    (kt : x = y → W p l e R s m args below meth c H locs cells slots Q (F0 m tgt ls rest)) (kf : ¬ x = y → W p l e R s m args below meth c H locs cells slots Q (F0 m (pc + 3) ls rest)) : W p l e R s m args below meth c H locs cells slots Q (F0 m pc ls (.int y :: .int x :: rest)) := lv_icmp_eq hx hb hdg ht kt kf
theorem k_icmp_ne (hx : p.tables.exec = Jvm.exec) (hb : c.code = cc) {x y : Int32} {off : Int} (tgt : Nat) (hdg : decode cc pc = .ok (.if_icmp .ne off, 3)) (ht : (pc : Int) + off = (tgt : Int))
    (kt : ¬ x = y → W p l e R s m args below meth c H locs cells slots Q (F0 m tgt ls rest)) (kf : x = y → W p l e R s m args below meth c H locs cells slots Q (F0 m (pc + 3) ls rest)) : W p l e R s m args below meth c H locs cells slots Q (F0 m pc ls (.int y :: .int x :: rest)) := lv_icmp_ne hx hb hdg ht kt kf
theorem k_if_eq (hx : p.tables.exec = Jvm.exec) (hb : c.code = cc) {x : Int32} {off : Int} (tgt : Nat) (hdg : decode cc pc = .ok (.ifCond .eq off, 3)) (ht : (pc : Int) + off = (tgt : Int))
    (kt : x = 0 → W p l e R s m args below meth c H locs cells slots Q (F0 m tgt ls rest)) (kf : ¬ x = 0 → W p l e R s m args below meth c H locs cells slots Q (F0 m (pc + 3) ls rest)) : W p l e R s m args below meth c H locs cells slots Q (F0 m pc ls (.int x :: rest)) := lv_if_eq hx hb hdg ht kt kf
theorem k_if_ne (hx : p.tables.exec = Jvm.exec) (hb : c.code = cc) {x : Int32} {off : Int} (tgt : Nat) (hdg : decode cc pc = .ok (.ifCond .ne off, 3)) (ht : (pc : Int) + off = (tgt : Int))
    (kt : ¬ x = 0 → W p l e R s m args below meth c H locs cells slots Q (F0 m tgt ls rest)) (kf : x = 0 → W p l e R s m args below meth c H locs cells slots Q (F0 m (pc + 3) ls rest)) : W p l e R s m args below meth c H locs cells slots Q (F0 m pc ls (.int x :: rest)) := lv_if_ne hx hb hdg ht kt kf
theorem k_if_lt (hx : p.tables.exec = Jvm.exec) (hb : c.code = cc) {x : Int32} {off : Int} (tgt : Nat) (hdg : decode cc pc = .ok (.ifCond .lt off, 3)) (ht : (pc : Int) + off = (tgt : Int))
    (kt : x < 0 → W p l e R s m args below meth c H locs cells slots Q (F0 m tgt ls rest)) (kf : ¬ x < 0 → W p l e R s m args below meth c H locs cells slots Q (F0 m (pc + 3) ls rest)) : W p l e R s m args below meth c H locs cells slots Q (F0 m pc ls (.int x :: rest)) := lv_if_lt hx hb hdg ht kt kf
theorem k_if_ge (hx : p.tables.exec = Jvm.exec) (hb : c.code = cc) {x : Int32} {off : Int} (tgt : Nat) (hdg : decode cc pc = .ok (.ifCond .ge off, 3)) (ht : (pc : Int) + off = (tgt : Int))
    (kt : ¬ x < 0 → W p l e R s m args below meth c H locs cells slots Q (F0 m tgt ls rest)) (kf : x < 0 → W p l e R s m args below meth c H locs cells slots Q (F0 m (pc + 3) ls rest)) : W p l e R s m args below meth c H locs cells slots Q (F0 m pc ls (.int x :: rest)) :=
  lv_if_ge hx hb hdg ht (fun h => kt (Int32.not_lt.mpr h)) (fun h => kf (Int32.not_le.mp h))
theorem k_if_gt (hx : p.tables.exec = Jvm.exec) (hb : c.code = cc) {x : Int32} {off : Int} (tgt : Nat) (hdg : decode cc pc = .ok (.ifCond .gt off, 3)) (ht : (pc : Int) + off = (tgt : Int))
    (kt : 0 < x → W p l e R s m args below meth c H locs cells slots Q (F0 m tgt ls rest)) (kf : ¬ 0 < x → W p l e R s m args below meth c H locs cells slots Q (F0 m (pc + 3) ls rest)) : W p l e R s m args below meth c H locs cells slots Q (F0 m pc ls (.int x :: rest)) := lv_if_gt hx hb hdg ht kt kf
theorem k_if_le (hx : p.tables.exec = Jvm.exec) (hb : c.code = cc) {x : Int32} {off : Int} (tgt : Nat) (hdg : decode cc pc = .ok (.ifCond .le off, 3)) (ht : (pc : Int) + off = (tgt : Int))
    (kt : ¬ 0 < x → W p l e R s m args below meth c H locs cells slots Q (F0 m tgt ls rest)) (kf : 0 < x → W p l e R s m args below meth c H locs cells slots Q (F0 m (pc + 3) ls rest)) : W p l e R s m args below meth c H locs cells slots Q (F0 m pc ls (.int x :: rest)) :=
  lv_if_le hx hb hdg ht (fun h => kt (Int32.not_lt.mpr h)) (fun h => kf (Int32.not_le.mp h))
/-! compares of counted numbers -/
theorem kN_ge (hx : p.tables.exec = Jvm.exec) (hb : c.code = cc) {x y : Nat} {off : Int} (tgt : Nat) (hdg : decode cc pc = .ok (.if_icmp .ge off, 3)) (ht : (pc : Int) + off = (tgt : Int)) (h1 : x < 2147483648) (h2 : y < 2147483648)
    (kt : y ≤ x → W p l e R s m args below meth c H locs cells slots Q (F0 m tgt ls rest)) (kf : x < y → W p l e R s m args below meth c H locs cells slots Q (F0 m (pc + 3) ls rest)) : W p l e R s m args below meth c H locs cells slots Q (F0 m pc ls (.int (nI y) :: .int (nI x) :: rest)) :=
  lv_icmp_ge hx hb hdg ht (fun h => kt ((nI_leI h2 h1).mp h)) (fun h => kf (Nat.not_le.mp fun z => h ((nI_leI h2 h1).mpr z)))
theorem kN_lt (hx : p.tables.exec = Jvm.exec) (hb : c.code = cc) {x y : Nat} {off : Int} (tgt : Nat) (hdg : decode cc pc = .ok (.if_icmp .lt off, 3)) (ht : (pc : Int) + off = (tgt : Int)) (h1 : x < 2147483648) (h2 : y < 2147483648)
    (kt : x < y → W p l e R s m args below meth c H locs cells slots Q (F0 m tgt ls rest)) (kf : y ≤ x → W p l e R s m args below meth c H locs cells slots Q (F0 m (pc + 3) ls rest)) : W p l e R s m args below meth c H locs cells slots Q (F0 m pc ls (.int (nI y) :: .int (nI x) :: rest)) :=
  lv_icmp_lt hx hb hdg ht (fun h => kt ((nI_ltI h1 h2).mp h)) (fun h => kf (Nat.not_lt.mp fun z => h ((nI_ltI h1 h2).mpr z)))
theorem kN_gt (hx : p.tables.exec = Jvm.exec) (hb : c.code = cc) {x y : Nat} {off : Int} (tgt : Nat) (hdg : decode cc pc = .ok (.if_icmp .gt off, 3)) (ht : (pc : Int) + off = (tgt : Int)) (h1 : x < 2147483648) (h2 : y < 2147483648)
    (kt : y < x → W p l e R s m args below meth c H locs cells slots Q (F0 m tgt ls rest)) (kf : x ≤ y → W p l e R s m args below meth c H locs cells slots Q (F0 m (pc + 3) ls rest)) : W p l e R s m args below meth c H locs cells slots Q (F0 m pc ls (.int (nI y) :: .int (nI x) :: rest)) :=
  lv_icmp_gt hx hb hdg ht (fun h => kt ((nI_ltI h2 h1).mp h)) (fun h => kf (Nat.not_lt.mp fun z => h ((nI_ltI h2 h1).mpr z)))
theorem kN_le (hx : p.tables.exec = Jvm.exec) (hb : c.code = cc) {x y : Nat} {off : Int} (tgt : Nat) (hdg : decode cc pc = .ok (.if_icmp .le off, 3)) (ht : (pc : Int) + off = (tgt : Int)) (h1 : x < 2147483648) (h2 : y < 2147483648)
    (kt : x ≤ y → W p l e R s m args below meth c H locs cells slots Q (F0 m tgt ls rest)) (kf : y < x → W p l e R s m args below meth c H locs cells slots Q (F0 m (pc + 3) ls rest)) : W p l e R s m args below meth c H locs cells slots Q (F0 m pc ls (.int (nI y) :: .int (nI x) :: rest)) :=
  lv_icmp_le hx hb hdg ht (fun h => kt ((nI_leI h1 h2).mp h)) (fun h => kf (Nat.not_le.mp fun z => h ((nI_leI h1 h2).mpr z)))
theorem kN_eq (hx : p.tables.exec = Jvm.exec) (hb : c.code = cc) {x y : Nat} {off : Int} (tgt : Nat) (hdg : decode cc pc = .ok (.if_icmp .eq off, 3)) (ht : (pc : Int) + off = (tgt : Int)) (h1 : x < 2147483648) (h2 : y < 2147483648)
    (kt : x = y → W p l e R s m args below meth c H locs cells slots Q (F0 m tgt ls rest)) (kf : ¬ x = y → W p l e R s m args below meth c H locs cells slots Q (F0 m (pc + 3) ls rest)) : W p l e R s m args below meth c H locs cells slots Q (F0 m pc ls (.int (nI y) :: .int (nI x) :: rest)) :=
  lv_icmp_eq hx hb hdg ht (fun h => kt ((nI_eq h1 h2).mp h)) (fun h => kf (fun z => h ((nI_eq h1 h2).mpr z)))
theorem kN_ne (hx : p.tables.exec = Jvm.exec) (hb : c.code = cc) {x y : Nat} {off : Int} (tgt : Nat) (hdg : decode cc pc = .ok (.if_icmp .ne off, 3)) (ht : (pc : Int) + off = (tgt : Int)) (h1 : x < 2147483648) (h2 : y < 2147483648)
    (kt : ¬ x = y → W p l e R s m args below meth c H locs cells slots Q (F0 m tgt ls rest)) (kf : x = y → W p l e R s m args below meth c H locs cells slots Q (F0 m (pc + 3) ls rest)) : W p l e R s m args below meth c H locs cells slots Q (F0 m pc ls (.int (nI y) :: .int (nI x) :: rest)) :=
  lv_icmp_ne hx hb hdg ht (fun h => kt (fun z => h ((nI_eq h1 h2).mpr z))) (fun h => kf ((nI_eq h1 h2).mp h))
theorem kN0_eq (hx : p.tables.exec = Jvm.exec) (hb : c.code = cc) {x : Nat} {off : Int} (tgt : Nat) (hdg : decode cc pc = .ok (.ifCond .eq off, 3)) (ht : (pc : Int) + off = (tgt : Int)) (h1 : x < 2147483648)
    (kt : x = 0 → W p l e R s m args below meth c H locs cells slots Q (F0 m tgt ls rest)) (kf : ¬ x = 0 → W p l e R s m args below meth c H locs cells slots Q (F0 m (pc + 3) ls rest)) : W p l e R s m args below meth c H locs cells slots Q (F0 m pc ls (.int (nI x) :: rest)) :=
  lv_if_eq hx hb hdg ht (fun h => kt ((nI_eq h1 (by decide)).mp h)) (fun h => kf (fun z => h (by rw [z]; rfl)))
theorem kN0_ne (hx : p.tables.exec = Jvm.exec) (hb : c.code = cc) {x : Nat} {off : Int} (tgt : Nat) (hdg : decode cc pc = .ok (.ifCond .ne off, 3)) (ht : (pc : Int) + off = (tgt : Int)) (h1 : x < 2147483648)
    (kt : ¬ x = 0 → W p l e R s m args below meth c H locs cells slots Q (F0 m tgt ls rest)) (kf : x = 0 → W p l e R s m args below meth c H locs cells slots Q (F0 m (pc + 3) ls rest)) : W p l e R s m args below meth c H locs cells slots Q (F0 m pc ls (.int (nI x) :: rest)) :=
  lv_if_ne hx hb hdg ht (fun h => kt (fun z => h (by rw [z]; rfl))) (fun h => kf ((nI_eq h1 (by decide)).mp h))
theorem kN0_lt (hx : p.tables.exec = Jvm.exec) (hb : c.code = cc) {x : Nat} {off : Int} (hdg : decode cc pc = .ok (.ifCond .lt off, 3)) (ht : ∃ tgt : Nat, (pc : Int) + off = (tgt : Int)) (h1 : x < 2147483648)
    (kf : W p l e R s m args below meth c H locs cells slots Q (F0 m (pc + 3) ls rest)) : W p l e R s m args below meth c H locs cells slots Q (F0 m pc ls (.int (nI x) :: rest)) := by
  obtain ⟨tgt, ht⟩ := ht
  exact lv_if_lt hx hb hdg ht (fun h => absurd h (nI_pos h1)) (fun _ => kf)
theorem kN0_ge (hx : p.tables.exec = Jvm.exec) (hb : c.code = cc) {x : Nat} {off : Int} (tgt : Nat) (hdg : decode cc pc = .ok (.ifCond .ge off, 3)) (ht : (pc : Int) + off = (tgt : Int)) (h1 : x < 2147483648)
    (kt : W p l e R s m args below meth c H locs cells slots Q (F0 m tgt ls rest)) : W p l e R s m args below meth c H locs cells slots Q (F0 m pc ls (.int (nI x) :: rest)) :=
  lv_if_ge hx hb hdg ht (fun _ => kt) (fun h => absurd (nI_pos' h1) h)
theorem kN0_le (hx : p.tables.exec = Jvm.exec) (hb : c.code = cc) {x : Nat} {off : Int} (tgt : Nat) (hdg : decode cc pc = .ok (.ifCond .le off, 3)) (ht : (pc : Int) + off = (tgt : Int)) (h1 : x < 2147483648)
    (kt : x = 0 → W p l e R s m args below meth c H locs cells slots Q (F0 m tgt ls rest)) (kf : 0 < x → W p l e R s m args below meth c H locs cells slots Q (F0 m (pc + 3) ls rest)) : W p l e R s m args below meth c H locs cells slots Q (F0 m pc ls (.int (nI x) :: rest)) :=
  lv_if_le hx hb hdg ht (fun h => kt (Nat.le_zero.mp ((nI_leI h1 (b := 0) (by decide)).mp h))) (fun h => kf (Nat.pos_of_ne_zero fun z => h (by rw [z]; decide)))
theorem kN0_gt (hx : p.tables.exec = Jvm.exec) (hb : c.code = cc) {x : Nat} {off : Int} (tgt : Nat) (hdg : decode cc pc = .ok (.ifCond .gt off, 3)) (ht : (pc : Int) + off = (tgt : Int)) (h1 : x < 2147483648)
    (kt : 0 < x → W p l e R s m args below meth c H locs cells slots Q (F0 m tgt ls rest)) (kf : x = 0 → W p l e R s m args below meth c H locs cells slots Q (F0 m (pc + 3) ls rest)) : W p l e R s m args below meth c H locs cells slots Q (F0 m pc ls (.int (nI x) :: rest)) :=
  lv_if_gt hx hb hdg ht (fun h => kt ((nI_ltI (a := 0) (by decide) h1).mp h)) (fun h => kf (Nat.le_zero.mp (Nat.not_lt.mp fun z => h ((nI_ltI (a := 0) (by decide) h1).mpr z))))
/-! arrays at a counted place -/
theorem k_ialdN (K : Kx p s m args meth c cc nL own E A) (X : Wd E A s.heap ws H locs) (q0 : Nat) {n k : Nat} {f : Nat → Int32} (ha : ws[q0]? = some (a, .inl (eA E 0, n, .inl f))) (hk : k < n) (hn : n < 2147483648) (hdg : decode cc pc = .ok (.iaload, 1)) {v : Int32} (hv : f k = v)
    (kk : W p l e R s m args below meth c H locs cells slots Q (F0 m (pc + 1) ls (.int v :: rest))) : W p l e R s m args below meth c H locs cells slots Q (F0 m pc ls (.int (nI k) :: .ref a :: rest)) :=
  k_iald K X q0 ha (vp_in_nI hk hn) hdg (by rw [nI_clamp (Nat.lt_trans hk hn), hv]; exact kk)
theorem k_iastN (K : Kx p s m args meth c cc nL own E A) (X : Wd E A s.heap ws H locs) (q0 : Nat) {n k : Nat} {f : Nat → Int32} (ha : ws[q0]? = some (a, .inl (eA E 0, n, .inl f))) {x : Int32} (hk : k < n) (hn : n < 2147483648) (hdg : decode cc pc = .ok (.iastore, 1))
    (kk : ∀ (H1 : Heap) (locs1 : List Loc), Wd E A s.heap (ws.set q0 (a, .inl (eA E 0, n, .inl (upd f k x)))) H1 locs1 → W p l e R s m args below meth c H1 locs1 cells slots Q (F0 m (pc + 1) ls rest)) : W p l e R s m args below meth c H locs cells slots Q (F0 m pc ls (.int x :: .int (nI k) :: .ref a :: rest)) :=
  k_iast K X q0 ha (vp_in_nI hk hn) hdg (by rw [nI_clamp (Nat.lt_trans hk hn)]; exact kk)
theorem k_laldN (K : Kx p s m args meth c cc nL own E A) (X : Wd E A s.heap ws H locs) (q0 : Nat) {n k : Nat} {f : Nat → Int64} (ha : ws[q0]? = some (a, .inl (eA E 1, n, .inr (.inl f)))) (hk : k < n) (hn : n < 2147483648) (hdg : decode cc pc = .ok (.laload, 1)) {v : Int64} (hv : f k = v)
    (kk : W p l e R s m args below meth c H locs cells slots Q (F0 m (pc + 1) ls (.long v :: rest))) : W p l e R s m args below meth c H locs cells slots Q (F0 m pc ls (.int (nI k) :: .ref a :: rest)) :=
  k_lald K X q0 ha (vp_in_nI hk hn) hdg (by rw [nI_clamp (Nat.lt_trans hk hn), hv]; exact kk)
theorem k_lastN (K : Kx p s m args meth c cc nL own E A) (X : Wd E A s.heap ws H locs) (q0 : Nat) {n k : Nat} {f : Nat → Int64} (ha : ws[q0]? = some (a, .inl (eA E 1, n, .inr (.inl f)))) {x : Int64} (hk : k < n) (hn : n < 2147483648) (hdg : decode cc pc = .ok (.lastore, 1))
    (kk : ∀ (H1 : Heap) (locs1 : List Loc), Wd E A s.heap (ws.set q0 (a, .inl (eA E 1, n, .inr (.inl (vp_updL f k x))))) H1 locs1 → W p l e R s m args below meth c H1 locs1 cells slots Q (F0 m (pc + 1) ls rest)) : W p l e R s m args below meth c H locs cells slots Q (F0 m pc ls (.long x :: .int (nI k) :: .ref a :: rest)) :=
  k_last K X q0 ha (vp_in_nI hk hn) hdg (by rw [nI_clamp (Nat.lt_trans hk hn)]; exact kk)
theorem k_aaldN {C : String} (K : Kx p s m args meth c cc nL own E A) (X : Wd E A s.heap ws H locs) (q0 t0 : Nat) {n k : Nat} {f : Nat → Option Nat} (ha : ws[q0]? = some (a, .inl (eA E t0, n, .inr (.inr (.inr (.inr f)))))) (ht : (eT E)[t0]? = some (eA E t0, .object C)) (hk : k < n) (hn : n < 2147483648) {r : Nat} (hr : f k = some r) (hdg : decode cc pc = .ok (.aaload, 1))
    (kk : W p l e R s m args below meth c H locs cells slots Q (F0 m (pc + 1) ls (.ref r :: rest))) : W p l e R s m args below meth c H locs cells slots Q (F0 m pc ls (.int (nI k) :: .ref a :: rest)) :=
  k_aald K X q0 t0 ha ht (vp_in_nI hk hn) (by rw [nI_clamp (Nat.lt_trans hk hn)]; exact hr) hdg kk
end KQ
theorem arrV_ext {cA : ClassId} {n : Nat} {f g : Nat → Value} (h : ∀ j, j < n → f j = g j) : arrV cA n f = arrV cA n g := by
  have e : (Array.ofFn (n := n) fun j => f j.val) = Array.ofFn (n := n) fun j => g j.val := by
    congr 1
    funext j
    exact h j.val j.isLt
  show ({ cls := cA, slots := _, vm := .none } : Cell) = { cls := cA, slots := _, vm := .none }
  rw [e]
/-- an array's contents told another way -/
theorem Wd.arr {E : EE} {A : Nat → Prop} {H0 H : Heap} {ws : va_W} {locs : List Loc} (X : Wd E A H0 ws H locs) (q0 : Nat) {a n : Nat} {cA : ClassId} {f g : Nat → Int32} (ha : ws[q0]? = some (a, .inl (cA, n, .inl f))) (h : ∀ j, j < n → f j = g j) : Wd E A H0 (ws.set q0 (a, .inl (cA, n, .inl g))) H locs := by
  refine ⟨X.1.set X.2.1 ha ?_ (fun _ _ => rfl), X.2.1.set ha, X.2.2⟩
  have h1 : H[a]? = some (vp_cell cA (n, .inl f)) := X.1 q0 _ ha
  show H[a]? = some (vp_cell cA (n, .inl g))
  rw [h1, vp_cell_i, vp_cell_i]
  exact congrArg some (arrV_ext fun j hj => by rw [h j hj])
theorem Wd.arrL {E : EE} {A : Nat → Prop} {H0 H : Heap} {ws : va_W} {locs : List Loc} (X : Wd E A H0 ws H locs) (q0 : Nat) {a n : Nat} {cA : ClassId} {f g : Nat → Int64} (ha : ws[q0]? = some (a, .inl (cA, n, .inr (.inl f)))) (h : ∀ j, j < n → f j = g j) : Wd E A H0 (ws.set q0 (a, .inl (cA, n, .inr (.inl g)))) H locs := by
  refine ⟨X.1.set X.2.1 ha ?_ (fun _ _ => rfl), X.2.1.set ha, X.2.2⟩
  have h1 : H[a]? = some (vp_cell cA (n, .inr (.inl f))) := X.1 q0 _ ha
  show H[a]? = some (vp_cell cA (n, .inr (.inl g)))
  rw [h1, vp_cell_l, vp_cell_l]
  exact congrArg some (arrV_ext fun j hj => by rw [h j hj])
end
section
abbrev St : Type := Nat → Nat → Int32
def up2 (f : St) (a k : Nat) (v : Int32) : St := fun b => cond (Nat.beq b a) (upd (f b) k v) (f b)
def noW (E : EE)   : va_W := [
  ]
def pW (E : EE) (q : Nat) (ci : Nat) : va_W := [
  (q, .inr (ci, []))]
def bestW (E : EE) (q : Nat) (one : Int32) (wo : Int32) : va_W := [
  (q, .inr (0, [.int one, .int wo]))]
def roomW (E : EE) (a : Nat → Nat) (k : Nat → Nat) (f : St) : va_W := [
  (a 0, .inr (6, [.ref (k 0), .int (f 0 0), .int (f 0 1), .int (f 0 2), .int (f 0 3), .ref (a 1), .ref (a 2), .ref (a 3), .ref (a 4), .ref (a 5), .ref (a 6)])),
  (a 1, .inl (eA E 0, 10, .inl (f 1))),
  (a 2, .inl (eA E 0, 10, .inl (f 2))),
  (a 3, .inl (eA E 0, 10, .inl (f 3))),
  (a 4, .inl (eA E 0, 6, .inl (f 4))),
  (a 5, .inl (eA E 0, 6, .inl (f 5))),
  (a 6, .inl (eA E 0, 60, .inl (f 6)))]
def roomK (E : EE) (a : Nat → Nat) (k : Nat → Nat) (f : St) : va_W := [
  (a 0, .inr (6, [.ref (k 0), .int (f 0 0), .int (f 0 1), .int (f 0 2), .int (f 0 3), .ref (a 1), .ref (a 2), .ref (a 3), .ref (a 4), .ref (a 5), .ref (a 6)])),
  (a 1, .inl (eA E 0, 10, .inl (f 1))),
  (a 2, .inl (eA E 0, 10, .inl (f 2))),
  (a 3, .inl (eA E 0, 10, .inl (f 3))),
  (a 4, .inl (eA E 0, 6, .inl (f 4))),
  (a 5, .inl (eA E 0, 6, .inl (f 5))),
  (a 6, .inl (eA E 0, 60, .inl (f 6))),
  (k 0, .inl (eA E 2, 6, .inr (.inr (.inr (.inr (fun j => some (k (1 + j)))))))),
  (k 1, .inr (4, [])),
  (k 2, .inr (2, [])),
  (k 3, .inr (8, [])),
  (k 4, .inr (1, [])),
  (k 5, .inr (3, [])),
  (k 6, .inr (5, []))]
def room2 (E : EE) (a : Nat → Nat) (b : Nat → Nat) (k : Nat → Nat) (f : St) (h : St) : va_W := [
  (a 0, .inr (6, [.ref (k 0), .int (f 0 0), .int (f 0 1), .int (f 0 2), .int (f 0 3), .ref (a 1), .ref (a 2), .ref (a 3), .ref (a 4), .ref (a 5), .ref (a 6)])),
  (a 1, .inl (eA E 0, 10, .inl (f 1))),
  (a 2, .inl (eA E 0, 10, .inl (f 2))),
  (a 3, .inl (eA E 0, 10, .inl (f 3))),
  (a 4, .inl (eA E 0, 6, .inl (f 4))),
  (a 5, .inl (eA E 0, 6, .inl (f 5))),
  (a 6, .inl (eA E 0, 60, .inl (f 6))),
  (b 0, .inr (6, [.ref (k 0), .int (h 0 0), .int (h 0 1), .int (h 0 2), .int (h 0 3), .ref (b 1), .ref (b 2), .ref (b 3), .ref (b 4), .ref (b 5), .ref (b 6)])),
  (b 1, .inl (eA E 0, 10, .inl (h 1))),
  (b 2, .inl (eA E 0, 10, .inl (h 2))),
  (b 3, .inl (eA E 0, 10, .inl (h 3))),
  (b 4, .inl (eA E 0, 6, .inl (h 4))),
  (b 5, .inl (eA E 0, 6, .inl (h 5))),
  (b 6, .inl (eA E 0, 60, .inl (h 6)))]
def tapeW (E : EE) (t : Nat → Nat) (tp : Nat → Int32) (tl : Int32) (tk : Int32) (ts : Int32) (te : Int32) (tn : Int32) : va_W := [
  (t 0, .inr (9, [.ref (t 1), .int tl, .int tk, .int ts, .int te, .int tn])),
  (t 1, .inl (eA E 0, 120, .inl tp))]
def rowW (E : EE) (t : Nat → Nat) (rb : Int32) (rz : Int32) (rn : Nat → Int64) : va_W := [
  (t 0, .inr (7, [.int rb, .int rz, .ref (t 1)])),
  (t 1, .inl (eA E 1, 40, .inr (.inl rn)))]
end
section
def inR (v lo hi : Int32) : Bool := !decide (v < lo) && !decide (hi < v)
def remI (x y : Int32) : Int32 := x - x / y * y
/-! kinds -/
def mayS (k : Nat) (m mv t : Int32) : Bool := match k with
  | 0 => decide (m < mv)
  | 1 => decide (m < mv) || decide (m < 2)
  | 2 => decide (m < mv) && decide (m = 0)
  | 3 => true
  | 4 => decide (m < mv) || decide (m < 2)
  | _ => (decide (m < mv) && decide (m = 0)) || (decide (t - t / 2 * 2 = 1) && decide (m < mv))
def prefS (k : Nat) (m mb : Int32) : Bool := match k with
  | 1 => true
  | 3 => decide (mb < m)
  | 4 => true
  | _ => false
def turnS (k : Nat) : Nat := match k with
  | 1 => 2
  | 4 => 3
  | _ => 1
def fixS (k : Nat) (m : Int32) : Bool := match k with
  | 3 => true
  | 4 => !decide (m < 5)
  | _ => false
def isKS (k : Nat) (q : Int32) : Bool := match k with
  | 0 => decide (q = 0)
  | 1 => decide (q = 1) || decide (q = 0)
  | 2 => decide (q = 2) || decide (q = 0)
  | 3 => decide (q = 3) || decide (q = 0)
  | 4 => decide (q = 4) || (decide (q = 1) || decide (q = 0))
  | _ => decide (q = 5) || (decide (q = 2) || decide (q = 0))
theorem turnS_le (k : Nat) : turnS k ≤ 3 := by unfold turnS; split <;> omega
/-! a wall -/
def sl (f : St) : Nat := (f 0 2).toNatClampNeg
def pe (f : St) : Nat := (f 0 3).toNatClampNeg
def mn (f : St) : Nat := (f 0 0).toNatClampNeg
def kn (f : St) (p : Nat) : Nat := (f 4 p).toNatClampNeg
/-- what holds of every wall, its minute at most T -/
def Inv (T : Nat) (f : St) : Prop := (f 0 2 = nI (sl f) ∧ sl f ≤ 10) ∧ (f 0 3 = nI (pe f) ∧ pe f ≤ 6) ∧ (f 0 0 = nI (mn f) ∧ mn f ≤ T) ∧ (∀ s, s < 10 → (f 3 s = 0 ∨ f 3 s = 1) ∧ (∃ v, v ≤ 999 ∧ f 2 s = nI v) ∧ (f 1 s = -1 ∨ ∃ v, v ≤ 5 ∧ f 1 s = nI v)) ∧ (∀ p, p < 6 → f 4 p = nI (kn f p) ∧ kn f p < 6) ∧ ∀ j, j < 60 → ∃ v, v ≤ 5 ∧ f 6 j = nI v
theorem Inv.hS {T : Nat} {f : St} (I : Inv T f) : f 0 2 = nI (sl f) := I.1.1
theorem Inv.s10 {T : Nat} {f : St} (I : Inv T f) : sl f ≤ 10 := I.1.2
theorem Inv.hP {T : Nat} {f : St} (I : Inv T f) : f 0 3 = nI (pe f) := I.2.1.1
theorem Inv.p6 {T : Nat} {f : St} (I : Inv T f) : pe f ≤ 6 := I.2.1.2
theorem Inv.hM {T : Nat} {f : St} (I : Inv T f) : f 0 0 = nI (mn f) := I.2.2.1.1
theorem Inv.mT {T : Nat} {f : St} (I : Inv T f) : mn f ≤ T := I.2.2.1.2
theorem Inv.fx {T : Nat} {f : St} (I : Inv T f) {s : Nat} (h : s < 10) : f 3 s = 0 ∨ f 3 s = 1 := (I.2.2.2.1 s h).1
theorem Inv.mv {T : Nat} {f : St} (I : Inv T f) {s : Nat} (h : s < 10) : ∃ v, v ≤ 999 ∧ f 2 s = nI v := (I.2.2.2.1 s h).2.1
theorem Inv.gr {T : Nat} {f : St} (I : Inv T f) {s : Nat} (h : s < 10) : f 1 s = -1 ∨ ∃ v, v ≤ 5 ∧ f 1 s = nI v := (I.2.2.2.1 s h).2.2
theorem Inv.hK {T : Nat} {f : St} (I : Inv T f) {p : Nat} (h : p < 6) : f 4 p = nI (kn f p) := (I.2.2.2.2.1 p h).1
theorem Inv.k6 {T : Nat} {f : St} (I : Inv T f) {p : Nat} (h : p < 6) : kn f p < 6 := (I.2.2.2.2.1 p h).2
theorem Inv.wn {T : Nat} {f : St} (I : Inv T f) {j : Nat} (h : j < 60) : ∃ v, v ≤ 5 ∧ f 6 j = nI v := I.2.2.2.2.2 j h
/-- whether one has its way of a slip -/
def hasW (f : St) (p s : Nat) : Bool := decide (f 1 s = f 6 (10 * p + s))
/-- what one may pick, a slip b (or -1) picked so far -/
def canB (f : St) (p s : Nat) (b : Int32) : Bool := decide (f 3 s = 0) && (!hasW f p s && (mayS (kn f p) (f 2 s) (f 0 1) (f 0 0) && (decide (b = -1) || prefS (kn f p) (f 2 s) (f 2 b.toNatClampNeg))))
def pickL (f : St) (p : Nat) : Nat → Nat → Int32 → Int32
  | 0, _, b => b
  | n + 1, s, b => pickL f p n (s + 1) (cond (canB f p s b) (nI s) b)
def pickF (f : St) (p : Nat) : Int32 := pickL f p (sl f) 0 (-1)
def heldF (v : Int32) : Int32 := if 999 < v then 999 else v
def shiftF (f : St) (p s : Nat) : St := up2 (up2 (up2 f 1 s (f 6 (10 * p + s))) 2 s (heldF (f 2 s + 1))) 3 s (b2i (fixS (kn f p) (heldF (f 2 s + 1))))
def turnL (p : Nat) : Nat → St → Int32 → St × Int32
  | 0, f, t => (f, t)
  | n + 1, f, t => if pickF f p = -1 then turnL p n f t else turnL p n (shiftF f p (pickF f p).toNatClampNeg) (t ||| (1 <<< (pickF f p &&& 31)))
/-- whose turn it is -/
def tnF (f : St) : Nat := mn f % pe f
def goes? (f : St) : Bool := !decide (pe f = 0) && decide (f 5 (tnF f) = 0)
def goR (f : St) : St × Int32 := cond (goes? f) (turnL (tnF f) (turnS (kn f (tnF f))) f 0) (f, 0)
def goF (f : St) : St := up2 (goR f).1 0 0 (f 0 0 + 1)
def tcF (f : St) : Int32 := (goR f).2
def goN : Nat → St → St
  | 0, f => f
  | n + 1, f => goN n (goF f)
/-! sets and counts -/
def setL (c : Nat → Bool) : Nat → Nat → Int32 → Int32
  | 0, _, a => a
  | n + 1, s, a => setL c n (s + 1) (cond (c s) (a ||| (1 <<< (nI s &&& 31))) a)
def cntL (c : Nat → Bool) : Nat → Nat → Nat → Nat
  | 0, _, a => a
  | n + 1, s, a => cntL c n (s + 1) (cond (c s) (a + 1) a)
def sumL (c : Nat → Int32) : Nat → Nat → Int32 → Int32
  | 0, _, a => a
  | n + 1, s, a => sumL c n (s + 1) (a + c s)
def wayF (f : St) (p : Nat) : Int32 := setL (fun s => hasW f p s) (sl f) 0 0
def happyF (f : St) (s : Nat) : Int32 := setL (fun p => hasW f p s) (pe f) 0 0
def manyF (f : St) (s : Nat) (g : Int32) : Nat := cntL (fun p => decide (f 6 (10 * p + s) = g)) (pe f) 0 0
def sameF (f : St) (p o : Nat) : Nat := cntL (fun s => decide (f 6 (10 * p + s) = f 6 (10 * o + s))) (sl f) 0 0
def inF (f : St) (g : Int32) : Int32 := setL (fun s => decide (f 1 s = g)) (sl f) 0 0
def fixedF (f : St) : Int32 := setL (fun s => decide (f 3 s = 1)) (sl f) 0 0
def allF (f : St) : Int32 := sumL (fun s => f 2 s) (sl f) 0 0
def groupL (f : St) : Nat → Nat → Int32 → Int32
  | 0, _, a => a
  | n + 1, s, a => groupL f n (s + 1) (if f 1 s = -1 then a else a ||| (1 <<< (f 1 s &&& 31)))
def groupsF (f : St) : Int32 := groupL f (sl f) 0 0
def addS (f : St) (g x : Int32) : St := up2 (up2 (up2 (up2 f 1 (sl f) g) 2 (sl f) 0) 3 (sl f) x) 0 2 (nI (sl f + 1))
def wishL (p : Nat) : Nat → Nat → St → St
  | 0, _, f => f
  | n + 1, s, f => wishL p n (s + 1) (up2 f 6 (10 * p + s) (nI (s % 6)))
def addP (f : St) (k : Int32) : St := up2 (wishL (pe f) 10 0 (up2 (up2 f 4 (pe f) k) 5 (pe f) 0)) 0 3 (nI (pe f + 1))
def bcF (x : Int32) : Int32 :=
  let a := x - ((x.toUInt32 >>> ((1 : Int32).toUInt32 &&& Int32.toUInt32 31)).toInt32 &&& 1431655765)
  let b := (a &&& 858993459) + ((a.toUInt32 >>> ((2 : Int32).toUInt32 &&& Int32.toUInt32 31)).toInt32 &&& 858993459)
  let c := (b + (b.toUInt32 >>> ((4 : Int32).toUInt32 &&& Int32.toUInt32 31)).toInt32) &&& 252645135
  let d := c + (c.toUInt32 >>> ((8 : Int32).toUInt32 &&& Int32.toUInt32 31)).toInt32
  (d + (d.toUInt32 >>> ((16 : Int32).toUInt32 &&& Int32.toUInt32 31)).toInt32) &&& 63
end
section
def bestO (one wo x y : Int32) : Int32 × Int32 := if one = -1 ∨ wo < y then (x, y) else (one, wo)
set_option maxRecDepth 100000 in
set_option maxHeartbeats 4000000 in
theorem c_X11_within (l : Launch) (E : EE) (x : Int32) (y : Int32) (z : Int32) : Kd l yX11_within cX11_within 3 (some .boolean) 0 0 E (noW E  ) [.int x, .int y, .int z] (some (.int (b2i (inR x y z)))) (noW E  ) := by
  refine Kn.ofWi (by decide +kernel) (Nat.le_of_ble_eq_true rfl) (fun _ _ => b2i_nar _) ?_
  intro pg ev s0 mm below meth cd Q K X fin ls hl
  have hx := K.1
  have hb := K.2.1
  have hl : lv_has ls 3 [(0, .int x), (1, .int y), (2, .int z)] := hl
  refine lv_iload_n hx hb dX11_within_0 rfl (lv_at hl 0 rfl) ?_
  refine lv_iload_n hx hb dX11_within_1 rfl (lv_at hl 1 rfl) ?_
  refine k_icmp_lt (x := x) (y := y) hx hb 14 dX11_within_2 (by decide) (fun c2 => ?_) (fun c2 => ?_)
  · refine lv_iconst (v := 0) hx hb dX11_within_14 (by decide) ?_
    exact k_topi (x' := b2i (inR x y z)) (by first | ((try simp only [inR] at c2 ⊢) <;> simp [b2i, c2]; done) | (simp_all [inR, b2i]; done)) (fin () 15 _ _ _ trivial X dX11_within_15)
  · refine lv_iload_n hx hb dX11_within_5 rfl (lv_at hl 0 rfl) ?_
    refine lv_iload_n hx hb dX11_within_6 rfl (lv_at hl 2 rfl) ?_
    refine k_icmp_gt (x := x) (y := z) hx hb 14 dX11_within_7 (by decide) (fun c7 => ?_) (fun c7 => ?_)
    · refine lv_iconst (v := 0) hx hb dX11_within_14 (by decide) ?_
      exact k_topi (x' := b2i (inR x y z)) (by first | ((try simp only [inR] at c2 c7 ⊢) <;> simp [b2i, c2, c7]; done) | (simp_all [inR, b2i]; done)) (fin () 15 _ _ _ trivial X dX11_within_15)
    · refine lv_iconst (v := 1) hx hb dX11_within_10 (by decide) ?_
      refine lv_goto (tgt := 15) hx hb dX11_within_11 (by decide) ?_
      exact k_topi (x' := b2i (inR x y z)) (by first | ((try simp only [inR] at c2 c7 ⊢) <;> simp [b2i, c2, c7]; done) | (simp_all [inR, b2i]; done)) (fin () 15 _ _ _ trivial X dX11_within_15)
set_option maxRecDepth 100000 in
set_option maxHeartbeats 4000000 in
theorem c_X6_wish (l : Launch) (E : EE) (p : Nat) (q : Nat) : Kd l yX6_wish cX6_wish 2 (some .int) 0 0 E (noW E  ) [.int (nI p), .int (nI q)] (some (.int (nI (10 * p + q)))) (noW E  ) := by
  refine Kn.ofWi (by decide +kernel) (Nat.le_of_ble_eq_true rfl) (fun _ _ => rfl) ?_
  intro pg ev s0 mm below meth cd Q K X fin ls hl
  have hx := K.1
  have hb := K.2.1
  have hl : lv_has ls 2 [(0, .int (nI p)), (1, .int (nI q))] := hl
  refine lv_iload_n hx hb dX6_wish_0 rfl (lv_at hl 0 rfl) ?_
  refine lv_bipush (v := 10) hx hb dX6_wish_1 (by decide) ?_
  refine lv_imul hx hb dX6_wish_3 ?_
  refine k_topi (pk_mul p 10) ?_
  refine lv_iload_n hx hb dX6_wish_4 rfl (lv_at hl 1 rfl) ?_
  refine lv_iadd hx hb dX6_wish_5 ?_
  refine k_topi (nI_add (p * 10) q) ?_
  exact k_topi (x' := nI (10 * p + q)) (by rw [Nat.mul_comm]) (fin () 6 _ _ _ trivial X dX6_wish_6)
set_option maxRecDepth 100000 in
set_option maxHeartbeats 4000000 in
theorem c_X11_noSheet (l : Launch) (E : EE) (x : Int32) : Kd l yX11_noSheet cX11_noSheet 1 (some .boolean) 1 22 E (noW E  ) [.int x] (some (.int (b2i (!inR x 0 3)))) (noW E  ) := by
  refine Kn.ofWi (by decide +kernel) (Nat.le_of_ble_eq_true rfl) (fun _ _ => b2i_nar _) ?_
  intro pg ev s0 mm below meth cd Q K X fin ls hl
  have hx := K.1
  have hb := K.2.1
  have hl : lv_has ls 1 [(0, .int x)] := hl
  refine lv_iload_n hx hb dX11_noSheet_0 rfl (lv_at hl 0 rfl) ?_
  refine lv_iconst (v := 0) hx hb dX11_noSheet_1 (by decide) ?_
  refine lv_iconst (v := 3) hx hb dX11_noSheet_2 (by decide) ?_
  refine k_callS K X gs_X11_80 (As := [.int x, .int 0, .int 3]) (c_X11_within l E x 0 3) [] rfl rfl (fun _ => rfl) (by decide) rfl hl.1 (rest := []) rfl (Nat.le_of_ble_eq_true rfl) dX11_noSheet_3 (st1 := fun _ => [.int (b2i (inR x 0 3))]) (fun _ => rfl) (fun _ H locs _ X => ?_)
  have X : Wd E _ _ (noW E  ) _ _ := X
  refine k_ifneB (B := (inR x 0 3)) hx hb 13 dX11_noSheet_6 (by decide) (fun c6 => ?_) (fun c6 => ?_)
  · refine lv_iconst (v := 0) hx hb dX11_noSheet_13 (by decide) ?_
    exact k_topi (x' := b2i (!inR x 0 3)) (by first | ((try simp only [b2i] at c6 ⊢) <;> simp [b2i, c6]; done) | (simp_all [b2i, b2i]; done)) (fin () 14 _ _ _ trivial X dX11_noSheet_14)
  · refine lv_iconst (v := 1) hx hb dX11_noSheet_9 (by decide) ?_
    refine lv_goto (tgt := 14) hx hb dX11_noSheet_10 (by decide) ?_
    exact k_topi (x' := b2i (!inR x 0 3)) (by first | ((try simp only [b2i] at c6 ⊢) <;> simp [b2i, c6]; done) | (simp_all [b2i, b2i]; done)) (fin () 14 _ _ _ trivial X dX11_noSheet_14)
set_option maxRecDepth 100000 in
set_option maxHeartbeats 4000000 in
theorem c_X9_isLetter (l : Launch) (E : EE) (x : Int32) : Kd l yX9_isLetter cX9_isLetter 1 (some .boolean) 1 22 E (noW E  ) [.int x] (some (.int (b2i (inR x 97 122)))) (noW E  ) := by
  refine Kn.ofWi (by decide +kernel) (Nat.le_of_ble_eq_true rfl) (fun _ _ => b2i_nar _) ?_
  intro pg ev s0 mm below meth cd Q K X fin ls hl
  have hx := K.1
  have hb := K.2.1
  have hl : lv_has ls 1 [(0, .int x)] := hl
  refine lv_iload_n hx hb dX9_isLetter_0 rfl (lv_at hl 0 rfl) ?_
  refine lv_bipush (v := 97) hx hb dX9_isLetter_1 (by decide) ?_
  refine lv_bipush (v := 122) hx hb dX9_isLetter_3 (by decide) ?_
  refine k_callSN K X gs_X9_53 (As := [.int x, .int 97, .int 122]) (c_X11_within l E x 97 122) [] rfl rfl (fun _ => rfl) (by decide) rfl hl.1 (rest := []) rfl (Nat.le_of_ble_eq_true rfl) dX9_isLetter_5 (st1 := fun _ => [.int (b2i (inR x 97 122))]) (fun _ => rfl) (fun _ H locs _ X => ?_)
  have X : Wd E _ _ (noW E  ) _ _ := X
  exact fin () 8 _ _ _ trivial X dX9_isLetter_8
set_option maxRecDepth 100000 in
set_option maxHeartbeats 4000000 in
theorem c_X9_isDigit (l : Launch) (E : EE) (x : Int32) : Kd l yX9_isDigit cX9_isDigit 1 (some .boolean) 1 22 E (noW E  ) [.int x] (some (.int (b2i (inR x 48 57)))) (noW E  ) := by
  refine Kn.ofWi (by decide +kernel) (Nat.le_of_ble_eq_true rfl) (fun _ _ => b2i_nar _) ?_
  intro pg ev s0 mm below meth cd Q K X fin ls hl
  have hx := K.1
  have hb := K.2.1
  have hl : lv_has ls 1 [(0, .int x)] := hl
  refine lv_iload_n hx hb dX9_isDigit_0 rfl (lv_at hl 0 rfl) ?_
  refine lv_bipush (v := 48) hx hb dX9_isDigit_1 (by decide) ?_
  refine lv_bipush (v := 57) hx hb dX9_isDigit_3 (by decide) ?_
  refine k_callSN K X gs_X9_53 (As := [.int x, .int 48, .int 57]) (c_X11_within l E x 48 57) [] rfl rfl (fun _ => rfl) (by decide) rfl hl.1 (rest := []) rfl (Nat.le_of_ble_eq_true rfl) dX9_isDigit_5 (st1 := fun _ => [.int (b2i (inR x 48 57))]) (fun _ => rfl) (fun _ H locs _ X => ?_)
  have X : Wd E _ _ (noW E  ) _ _ := X
  exact fin () 8 _ _ _ trivial X dX9_isDigit_8
set_option maxRecDepth 100000 in
set_option maxHeartbeats 4000000 in
theorem c_X0_forget (l : Launch) (E : EE) (q : Nat) (one : Int32) (wo : Int32) : Kd l yX0_forget cX0_forget 1 none 0 0 E (bestW E q one wo) [.ref q] none (bestW E q (-1) 0) := by
  refine Kn.ofWv (by decide +kernel) (Nat.le_of_ble_eq_true rfl) ?_
  intro pg ev s0 mm below meth cd Q K X fin ls hl
  have hx := K.1
  have hb := K.2.1
  have hl : lv_has ls 1 [(0, .ref q)] := hl
  refine lv_aload_n hx hb dX0_forget_0 rfl (lv_at hl 0 rfl) ?_
  refine lv_iconst (v := (-1)) hx hb dX0_forget_1 (by decide) ?_
  refine k_put K X 0 rfl fp_X0_9 (v := .int (-1)) rfl rfl (Nat.le_of_ble_eq_true rfl) dX0_forget_2 (fun H locs X => ?_)
  have X : Wd E _ _ (bestW E q (-1) wo) _ _ := X
  refine lv_aload_n hx hb dX0_forget_5 rfl (lv_at hl 0 rfl) ?_
  refine lv_iconst (v := 0) hx hb dX0_forget_6 (by decide) ?_
  refine k_put K X 0 rfl fp_X0_15 (v := .int 0) rfl rfl (Nat.le_of_ble_eq_true rfl) dX0_forget_7 (fun H locs X => ?_)
  have X : Wd E _ _ (bestW E q (-1) 0) _ _ := X
  exact fin () 10 _ _ _ trivial X dX0_forget_10
set_option maxRecDepth 100000 in
set_option maxHeartbeats 4000000 in
theorem c_X0_offer (l : Launch) (E : EE) (q : Nat) (one : Int32) (wo : Int32) (x : Int32) (y : Int32) : Kd l yX0_offer cX0_offer 3 none 0 0 E (bestW E q one wo) [.ref q, .int x, .int y] none (bestW E q ((bestO one wo x y).1) ((bestO one wo x y).2)) := by
  refine Kn.ofWv (by decide +kernel) (Nat.le_of_ble_eq_true rfl) ?_
  intro pg ev s0 mm below meth cd Q K X fin ls hl
  have hx := K.1
  have hb := K.2.1
  have hl : lv_has ls 3 [(0, .ref q), (1, .int x), (2, .int y)] := hl
  refine lv_aload_n hx hb dX0_offer_0 rfl (lv_at hl 0 rfl) ?_
  refine k_get K X 0 rfl fg_X0_9 (v := .int one) rfl dX0_offer_1 ?_
  refine lv_iconst (v := (-1)) hx hb dX0_offer_4 (by decide) ?_
  refine k_icmp_eq (x := one) (y := (-1)) hx hb 16 dX0_offer_5 (by decide) (fun c5 => ?_) (fun c5 => ?_)
  · refine lv_aload_n hx hb dX0_offer_16 rfl (lv_at hl 0 rfl) ?_
    refine lv_iload_n hx hb dX0_offer_17 rfl (lv_at hl 1 rfl) ?_
    refine k_put K X 0 rfl fp_X0_9 (v := .int x) rfl rfl (Nat.le_of_ble_eq_true rfl) dX0_offer_18 (fun H locs X => ?_)
    have X : Wd E _ _ (bestW E q x wo) _ _ := X
    refine lv_aload_n hx hb dX0_offer_21 rfl (lv_at hl 0 rfl) ?_
    refine lv_iload_n hx hb dX0_offer_22 rfl (lv_at hl 2 rfl) ?_
    refine k_put K X 0 rfl fp_X0_15 (v := .int y) rfl rfl (Nat.le_of_ble_eq_true rfl) dX0_offer_23 (fun H locs X => ?_)
    have X : Wd E _ _ (bestW E q x y) _ _ := X
    exact fin () 26 _ _ _ trivial (X.eq (by simp [bestO, *])) dX0_offer_26
  · refine lv_iload_n hx hb dX0_offer_8 rfl (lv_at hl 2 rfl) ?_
    refine lv_aload_n hx hb dX0_offer_9 rfl (lv_at hl 0 rfl) ?_
    refine k_get K X 0 rfl fg_X0_15 (v := .int wo) rfl dX0_offer_10 ?_
    refine k_icmp_le (x := y) (y := wo) hx hb 26 dX0_offer_13 (by decide) (fun c13 => ?_) (fun c13 => ?_)
    · exact fin () 26 _ _ _ trivial (X.eq (by simp [bestO, *])) dX0_offer_26
    · refine lv_aload_n hx hb dX0_offer_16 rfl (lv_at hl 0 rfl) ?_
      refine lv_iload_n hx hb dX0_offer_17 rfl (lv_at hl 1 rfl) ?_
      refine k_put K X 0 rfl fp_X0_9 (v := .int x) rfl rfl (Nat.le_of_ble_eq_true rfl) dX0_offer_18 (fun H locs X => ?_)
      have X : Wd E _ _ (bestW E q x wo) _ _ := X
      refine lv_aload_n hx hb dX0_offer_21 rfl (lv_at hl 0 rfl) ?_
      refine lv_iload_n hx hb dX0_offer_22 rfl (lv_at hl 2 rfl) ?_
      refine k_put K X 0 rfl fp_X0_15 (v := .int y) rfl rfl (Nat.le_of_ble_eq_true rfl) dX0_offer_23 (fun H locs X => ?_)
      have X : Wd E _ _ (bestW E q x y) _ _ := X
      exact fin () 26 _ _ _ trivial (X.eq (by simp [bestO, *])) dX0_offer_26
set_option maxRecDepth 100000 in
set_option maxHeartbeats 4000000 in
theorem c_X4_isKind (l : Launch) (E : EE) (q : Nat) (ci : Nat) (x : Int32) (hci13 : ci < 13) : Kd l yX4_isKind cX4_isKind 2 (some .boolean) 0 0 E (pW E q ci) [.ref q, .int x] (some (.int (b2i (isKS 0 x)))) (pW E q ci) := by
  refine Kn.ofWi (by decide +kernel) (Nat.le_of_ble_eq_true rfl) (fun _ _ => b2i_nar _) ?_
  intro pg ev s0 mm below meth cd Q K X fin ls hl
  have hx := K.1
  have hb := K.2.1
  obtain ⟨⟨Cn, Tn, Nn⟩, hci⟩ : ∃ z, vwCl[ci]? = some z := ⟨_, List.getElem?_eq_getElem hci13⟩
  have hl : lv_has ls 2 [(0, .ref q), (1, .int x)] := hl
  refine lv_iload_n hx hb dX4_isKind_0 rfl (lv_at hl 1 rfl) ?_
  refine k_if_ne (x := x) hx hb 8 dX4_isKind_1 (by decide) (fun c1 => ?_) (fun c1 => ?_)
  · refine lv_iconst (v := 0) hx hb dX4_isKind_8 (by decide) ?_
    exact k_topi (x' := b2i (isKS 0 x)) (by first | ((try simp only [isKS] at c1 ⊢) <;> simp [b2i, c1]; done) | (simp_all [isKS, b2i]; done)) (fin () 9 _ _ _ trivial X dX4_isKind_9)
  · refine lv_iconst (v := 1) hx hb dX4_isKind_4 (by decide) ?_
    refine lv_goto (tgt := 9) hx hb dX4_isKind_5 (by decide) ?_
    exact k_topi (x' := b2i (isKS 0 x)) (by first | ((try simp only [isKS] at c1 ⊢) <;> simp [b2i, c1]; done) | (simp_all [isKS, b2i]; done)) (fin () 9 _ _ _ trivial X dX4_isKind_9)
set_option maxRecDepth 100000 in
set_option maxHeartbeats 4000000 in
theorem c_X1_isKind (l : Launch) (E : EE) (q : Nat) (ci : Nat) (x : Int32) (hci13 : ci < 13) : Kd l yX1_isKind cX1_isKind 2 (some .boolean) 1 21 E (pW E q ci) [.ref q, .int x] (some (.int (b2i (isKS 3 x)))) (pW E q ci) := by
  refine Kn.ofWi (by decide +kernel) (Nat.le_of_ble_eq_true rfl) (fun _ _ => b2i_nar _) ?_
  intro pg ev s0 mm below meth cd Q K X fin ls hl
  have hx := K.1
  have hb := K.2.1
  obtain ⟨⟨Cn, Tn, Nn⟩, hci⟩ : ∃ z, vwCl[ci]? = some z := ⟨_, List.getElem?_eq_getElem hci13⟩
  have hl : lv_has ls 2 [(0, .ref q), (1, .int x)] := hl
  refine lv_iload_n hx hb dX1_isKind_0 rfl (lv_at hl 1 rfl) ?_
  refine lv_iconst (v := 3) hx hb dX1_isKind_1 (by decide) ?_
  refine k_icmp_eq (x := x) (y := 3) hx hb 13 dX1_isKind_2 (by decide) (fun c2 => ?_) (fun c2 => ?_)
  · refine lv_iconst (v := 1) hx hb dX1_isKind_13 (by decide) ?_
    refine lv_goto (tgt := 18) hx hb dX1_isKind_14 (by decide) ?_
    exact k_topi (x' := b2i (isKS 3 x)) (by first | ((try simp only [isKS] at c2 ⊢) <;> simp [b2i, c2]; done) | (simp_all [isKS, b2i]; done)) (fin () 18 _ _ _ trivial X dX1_isKind_18)
  · refine lv_aload_n hx hb dX1_isKind_5 rfl (lv_at hl 0 rfl) ?_
    refine lv_iload_n hx hb dX1_isKind_6 rfl (lv_at hl 1 rfl) ?_
    refine k_callU K X gu_X1_7 (As := [.int x]) (c_X4_isKind l E q ci x (by first | assumption | decide)) [0] rfl rfl (fun _ => rfl) 0 ci rfl hci (by decide) rfl hl.1 (rest := []) rfl (Nat.le_of_ble_eq_true rfl) dX1_isKind_7 (st1 := fun _ => [.int (b2i (isKS 0 x))]) (fun _ => rfl) (fun _ H locs _ X => ?_)
    have X : Wd E _ _ (pW E q ci) _ _ := X
    refine k_ifeqB (B := (isKS 0 x)) hx hb 17 dX1_isKind_10 (by decide) (fun c10 => ?_) (fun c10 => ?_)
    · refine lv_iconst (v := 0) hx hb dX1_isKind_17 (by decide) ?_
      exact k_topi (x' := b2i (isKS 3 x)) (by first | ((try simp only [isKS] at c2 c10 ⊢) <;> simp [b2i, c2, c10]; done) | (simp_all [isKS, b2i]; done)) (fin () 18 _ _ _ trivial X dX1_isKind_18)
    · refine lv_iconst (v := 1) hx hb dX1_isKind_13 (by decide) ?_
      refine lv_goto (tgt := 18) hx hb dX1_isKind_14 (by decide) ?_
      exact k_topi (x' := b2i (isKS 3 x)) (by first | ((try simp only [isKS] at c2 c10 ⊢) <;> simp [b2i, c2, c10]; done) | (simp_all [isKS, b2i]; done)) (fin () 18 _ _ _ trivial X dX1_isKind_18)
set_option maxRecDepth 100000 in
set_option maxHeartbeats 4000000 in
theorem c_X2_isKind (l : Launch) (E : EE) (q : Nat) (ci : Nat) (x : Int32) (hci13 : ci < 13) : Kd l yX2_isKind cX2_isKind 2 (some .boolean) 1 21 E (pW E q ci) [.ref q, .int x] (some (.int (b2i (isKS 1 x)))) (pW E q ci) := by
  refine Kn.ofWi (by decide +kernel) (Nat.le_of_ble_eq_true rfl) (fun _ _ => b2i_nar _) ?_
  intro pg ev s0 mm below meth cd Q K X fin ls hl
  have hx := K.1
  have hb := K.2.1
  obtain ⟨⟨Cn, Tn, Nn⟩, hci⟩ : ∃ z, vwCl[ci]? = some z := ⟨_, List.getElem?_eq_getElem hci13⟩
  have hl : lv_has ls 2 [(0, .ref q), (1, .int x)] := hl
  refine lv_iload_n hx hb dX2_isKind_0 rfl (lv_at hl 1 rfl) ?_
  refine lv_iconst (v := 1) hx hb dX2_isKind_1 (by decide) ?_
  refine k_icmp_eq (x := x) (y := 1) hx hb 13 dX2_isKind_2 (by decide) (fun c2 => ?_) (fun c2 => ?_)
  · refine lv_iconst (v := 1) hx hb dX2_isKind_13 (by decide) ?_
    refine lv_goto (tgt := 18) hx hb dX2_isKind_14 (by decide) ?_
    exact k_topi (x' := b2i (isKS 1 x)) (by first | ((try simp only [isKS] at c2 ⊢) <;> simp [b2i, c2]; done) | (simp_all [isKS, b2i]; done)) (fin () 18 _ _ _ trivial X dX2_isKind_18)
  · refine lv_aload_n hx hb dX2_isKind_5 rfl (lv_at hl 0 rfl) ?_
    refine lv_iload_n hx hb dX2_isKind_6 rfl (lv_at hl 1 rfl) ?_
    refine k_callU K X gu_X2_7 (As := [.int x]) (c_X4_isKind l E q ci x (by first | assumption | decide)) [0] rfl rfl (fun _ => rfl) 0 ci rfl hci (by decide) rfl hl.1 (rest := []) rfl (Nat.le_of_ble_eq_true rfl) dX2_isKind_7 (st1 := fun _ => [.int (b2i (isKS 0 x))]) (fun _ => rfl) (fun _ H locs _ X => ?_)
    have X : Wd E _ _ (pW E q ci) _ _ := X
    refine k_ifeqB (B := (isKS 0 x)) hx hb 17 dX2_isKind_10 (by decide) (fun c10 => ?_) (fun c10 => ?_)
    · refine lv_iconst (v := 0) hx hb dX2_isKind_17 (by decide) ?_
      exact k_topi (x' := b2i (isKS 1 x)) (by first | ((try simp only [isKS] at c2 c10 ⊢) <;> simp [b2i, c2, c10]; done) | (simp_all [isKS, b2i]; done)) (fin () 18 _ _ _ trivial X dX2_isKind_18)
    · refine lv_iconst (v := 1) hx hb dX2_isKind_13 (by decide) ?_
      refine lv_goto (tgt := 18) hx hb dX2_isKind_14 (by decide) ?_
      exact k_topi (x' := b2i (isKS 1 x)) (by first | ((try simp only [isKS] at c2 c10 ⊢) <;> simp [b2i, c2, c10]; done) | (simp_all [isKS, b2i]; done)) (fin () 18 _ _ _ trivial X dX2_isKind_18)
set_option maxRecDepth 100000 in
set_option maxHeartbeats 4000000 in
theorem c_X8_isKind (l : Launch) (E : EE) (q : Nat) (ci : Nat) (x : Int32) (hci13 : ci < 13) : Kd l yX8_isKind cX8_isKind 2 (some .boolean) 1 21 E (pW E q ci) [.ref q, .int x] (some (.int (b2i (isKS 2 x)))) (pW E q ci) := by
  refine Kn.ofWi (by decide +kernel) (Nat.le_of_ble_eq_true rfl) (fun _ _ => b2i_nar _) ?_
  intro pg ev s0 mm below meth cd Q K X fin ls hl
  have hx := K.1
  have hb := K.2.1
  obtain ⟨⟨Cn, Tn, Nn⟩, hci⟩ : ∃ z, vwCl[ci]? = some z := ⟨_, List.getElem?_eq_getElem hci13⟩
  have hl : lv_has ls 2 [(0, .ref q), (1, .int x)] := hl
  refine lv_iload_n hx hb dX8_isKind_0 rfl (lv_at hl 1 rfl) ?_
  refine lv_iconst (v := 2) hx hb dX8_isKind_1 (by decide) ?_
  refine k_icmp_eq (x := x) (y := 2) hx hb 13 dX8_isKind_2 (by decide) (fun c2 => ?_) (fun c2 => ?_)
  · refine lv_iconst (v := 1) hx hb dX8_isKind_13 (by decide) ?_
    refine lv_goto (tgt := 18) hx hb dX8_isKind_14 (by decide) ?_
    exact k_topi (x' := b2i (isKS 2 x)) (by first | ((try simp only [isKS] at c2 ⊢) <;> simp [b2i, c2]; done) | (simp_all [isKS, b2i]; done)) (fin () 18 _ _ _ trivial X dX8_isKind_18)
  · refine lv_aload_n hx hb dX8_isKind_5 rfl (lv_at hl 0 rfl) ?_
    refine lv_iload_n hx hb dX8_isKind_6 rfl (lv_at hl 1 rfl) ?_
    refine k_callU K X gu_X8_7 (As := [.int x]) (c_X4_isKind l E q ci x (by first | assumption | decide)) [0] rfl rfl (fun _ => rfl) 0 ci rfl hci (by decide) rfl hl.1 (rest := []) rfl (Nat.le_of_ble_eq_true rfl) dX8_isKind_7 (st1 := fun _ => [.int (b2i (isKS 0 x))]) (fun _ => rfl) (fun _ H locs _ X => ?_)
    have X : Wd E _ _ (pW E q ci) _ _ := X
    refine k_ifeqB (B := (isKS 0 x)) hx hb 17 dX8_isKind_10 (by decide) (fun c10 => ?_) (fun c10 => ?_)
    · refine lv_iconst (v := 0) hx hb dX8_isKind_17 (by decide) ?_
      exact k_topi (x' := b2i (isKS 2 x)) (by first | ((try simp only [isKS] at c2 c10 ⊢) <;> simp [b2i, c2, c10]; done) | (simp_all [isKS, b2i]; done)) (fin () 18 _ _ _ trivial X dX8_isKind_18)
    · refine lv_iconst (v := 1) hx hb dX8_isKind_13 (by decide) ?_
      refine lv_goto (tgt := 18) hx hb dX8_isKind_14 (by decide) ?_
      exact k_topi (x' := b2i (isKS 2 x)) (by first | ((try simp only [isKS] at c2 c10 ⊢) <;> simp [b2i, c2, c10]; done) | (simp_all [isKS, b2i]; done)) (fin () 18 _ _ _ trivial X dX8_isKind_18)
set_option maxRecDepth 100000 in
set_option maxHeartbeats 4000000 in
theorem c_X3_isKind (l : Launch) (E : EE) (q : Nat) (ci : Nat) (x : Int32) (hci13 : ci < 13) : Kd l yX3_isKind cX3_isKind 2 (some .boolean) 2 42 E (pW E q ci) [.ref q, .int x] (some (.int (b2i (isKS 4 x)))) (pW E q ci) := by
  refine Kn.ofWi (by decide +kernel) (Nat.le_of_ble_eq_true rfl) (fun _ _ => b2i_nar _) ?_
  intro pg ev s0 mm below meth cd Q K X fin ls hl
  have hx := K.1
  have hb := K.2.1
  obtain ⟨⟨Cn, Tn, Nn⟩, hci⟩ : ∃ z, vwCl[ci]? = some z := ⟨_, List.getElem?_eq_getElem hci13⟩
  have hl : lv_has ls 2 [(0, .ref q), (1, .int x)] := hl
  refine lv_iload_n hx hb dX3_isKind_0 rfl (lv_at hl 1 rfl) ?_
  refine lv_iconst (v := 4) hx hb dX3_isKind_1 (by decide) ?_
  refine k_icmp_eq (x := x) (y := 4) hx hb 13 dX3_isKind_2 (by decide) (fun c2 => ?_) (fun c2 => ?_)
  · refine lv_iconst (v := 1) hx hb dX3_isKind_13 (by decide) ?_
    refine lv_goto (tgt := 18) hx hb dX3_isKind_14 (by decide) ?_
    exact k_topi (x' := b2i (isKS 4 x)) (by first | ((try simp only [isKS] at c2 ⊢) <;> simp [b2i, c2]; done) | (simp_all [isKS, b2i]; done)) (fin () 18 _ _ _ trivial X dX3_isKind_18)
  · refine lv_aload_n hx hb dX3_isKind_5 rfl (lv_at hl 0 rfl) ?_
    refine lv_iload_n hx hb dX3_isKind_6 rfl (lv_at hl 1 rfl) ?_
    refine k_callU K X gu_X3_7 (As := [.int x]) (c_X2_isKind l E q ci x (by first | assumption | decide)) [0] rfl rfl (fun _ => rfl) 0 ci rfl hci (by decide) rfl hl.1 (rest := []) rfl (Nat.le_of_ble_eq_true rfl) dX3_isKind_7 (st1 := fun _ => [.int (b2i (isKS 1 x))]) (fun _ => rfl) (fun _ H locs _ X => ?_)
    have X : Wd E _ _ (pW E q ci) _ _ := X
    refine k_ifeqB (B := (isKS 1 x)) hx hb 17 dX3_isKind_10 (by decide) (fun c10 => ?_) (fun c10 => ?_)
    · refine lv_iconst (v := 0) hx hb dX3_isKind_17 (by decide) ?_
      exact k_topi (x' := b2i (isKS 4 x)) (by first | ((try simp only [isKS] at c2 c10 ⊢) <;> simp [b2i, c2, c10]; done) | (simp_all [isKS, b2i]; done)) (fin () 18 _ _ _ trivial X dX3_isKind_18)
    · refine lv_iconst (v := 1) hx hb dX3_isKind_13 (by decide) ?_
      refine lv_goto (tgt := 18) hx hb dX3_isKind_14 (by decide) ?_
      exact k_topi (x' := b2i (isKS 4 x)) (by first | ((try simp only [isKS] at c2 c10 ⊢) <;> simp [b2i, c2, c10]; done) | (simp_all [isKS, b2i]; done)) (fin () 18 _ _ _ trivial X dX3_isKind_18)
set_option maxRecDepth 100000 in
set_option maxHeartbeats 4000000 in
theorem c_X5_isKind (l : Launch) (E : EE) (q : Nat) (ci : Nat) (x : Int32) (hci13 : ci < 13) : Kd l yX5_isKind cX5_isKind 2 (some .boolean) 2 42 E (pW E q ci) [.ref q, .int x] (some (.int (b2i (isKS 5 x)))) (pW E q ci) := by
  refine Kn.ofWi (by decide +kernel) (Nat.le_of_ble_eq_true rfl) (fun _ _ => b2i_nar _) ?_
  intro pg ev s0 mm below meth cd Q K X fin ls hl
  have hx := K.1
  have hb := K.2.1
  obtain ⟨⟨Cn, Tn, Nn⟩, hci⟩ : ∃ z, vwCl[ci]? = some z := ⟨_, List.getElem?_eq_getElem hci13⟩
  have hl : lv_has ls 2 [(0, .ref q), (1, .int x)] := hl
  refine lv_iload_n hx hb dX5_isKind_0 rfl (lv_at hl 1 rfl) ?_
  refine lv_iconst (v := 5) hx hb dX5_isKind_1 (by decide) ?_
  refine k_icmp_eq (x := x) (y := 5) hx hb 13 dX5_isKind_2 (by decide) (fun c2 => ?_) (fun c2 => ?_)
  · refine lv_iconst (v := 1) hx hb dX5_isKind_13 (by decide) ?_
    refine lv_goto (tgt := 18) hx hb dX5_isKind_14 (by decide) ?_
    exact k_topi (x' := b2i (isKS 5 x)) (by first | ((try simp only [isKS] at c2 ⊢) <;> simp [b2i, c2]; done) | (simp_all [isKS, b2i]; done)) (fin () 18 _ _ _ trivial X dX5_isKind_18)
  · refine lv_aload_n hx hb dX5_isKind_5 rfl (lv_at hl 0 rfl) ?_
    refine lv_iload_n hx hb dX5_isKind_6 rfl (lv_at hl 1 rfl) ?_
    refine k_callU K X gu_X5_7 (As := [.int x]) (c_X8_isKind l E q ci x (by first | assumption | decide)) [0] rfl rfl (fun _ => rfl) 0 ci rfl hci (by decide) rfl hl.1 (rest := []) rfl (Nat.le_of_ble_eq_true rfl) dX5_isKind_7 (st1 := fun _ => [.int (b2i (isKS 2 x))]) (fun _ => rfl) (fun _ H locs _ X => ?_)
    have X : Wd E _ _ (pW E q ci) _ _ := X
    refine k_ifeqB (B := (isKS 2 x)) hx hb 17 dX5_isKind_10 (by decide) (fun c10 => ?_) (fun c10 => ?_)
    · refine lv_iconst (v := 0) hx hb dX5_isKind_17 (by decide) ?_
      exact k_topi (x' := b2i (isKS 5 x)) (by first | ((try simp only [isKS] at c2 c10 ⊢) <;> simp [b2i, c2, c10]; done) | (simp_all [isKS, b2i]; done)) (fin () 18 _ _ _ trivial X dX5_isKind_18)
    · refine lv_iconst (v := 1) hx hb dX5_isKind_13 (by decide) ?_
      refine lv_goto (tgt := 18) hx hb dX5_isKind_14 (by decide) ?_
      exact k_topi (x' := b2i (isKS 5 x)) (by first | ((try simp only [isKS] at c2 c10 ⊢) <;> simp [b2i, c2, c10]; done) | (simp_all [isKS, b2i]; done)) (fin () 18 _ _ _ trivial X dX5_isKind_18)
set_option maxRecDepth 100000 in
set_option maxHeartbeats 4000000 in
theorem c_X4_mayTouch (l : Launch) (E : EE) (q : Nat) (ci : Nat) (x : Int32) (y : Int32) (z : Int32) (hci13 : ci < 13) : Kd l yX4_mayTouch cX4_mayTouch 4 (some .boolean) 0 0 E (pW E q ci) [.ref q, .int x, .int y, .int z] (some (.int (b2i (mayS 0 x y z)))) (pW E q ci) := by
  refine Kn.ofWi (by decide +kernel) (Nat.le_of_ble_eq_true rfl) (fun _ _ => b2i_nar _) ?_
  intro pg ev s0 mm below meth cd Q K X fin ls hl
  have hx := K.1
  have hb := K.2.1
  obtain ⟨⟨Cn, Tn, Nn⟩, hci⟩ : ∃ z, vwCl[ci]? = some z := ⟨_, List.getElem?_eq_getElem hci13⟩
  have hl : lv_has ls 4 [(0, .ref q), (1, .int x), (2, .int y), (3, .int z)] := hl
  refine lv_iload_n hx hb dX4_mayTouch_0 rfl (lv_at hl 1 rfl) ?_
  refine lv_iload_n hx hb dX4_mayTouch_1 rfl (lv_at hl 2 rfl) ?_
  refine k_icmp_ge (x := x) (y := y) hx hb 9 dX4_mayTouch_2 (by decide) (fun c2 => ?_) (fun c2 => ?_)
  · refine lv_iconst (v := 0) hx hb dX4_mayTouch_9 (by decide) ?_
    exact k_topi (x' := b2i (mayS 0 x y z)) (by first | ((try simp only [mayS] at c2 ⊢) <;> simp [b2i, c2]; done) | (simp_all [mayS, b2i]; done)) (fin () 10 _ _ _ trivial X dX4_mayTouch_10)
  · refine lv_iconst (v := 1) hx hb dX4_mayTouch_5 (by decide) ?_
    refine lv_goto (tgt := 10) hx hb dX4_mayTouch_6 (by decide) ?_
    exact k_topi (x' := b2i (mayS 0 x y z)) (by first | ((try simp only [mayS] at c2 ⊢) <;> simp [b2i, c2]; done) | (simp_all [mayS, b2i]; done)) (fin () 10 _ _ _ trivial X dX4_mayTouch_10)
set_option maxRecDepth 100000 in
set_option maxHeartbeats 4000000 in
theorem c_X2_mayTouch (l : Launch) (E : EE) (q : Nat) (ci : Nat) (x : Int32) (y : Int32) (z : Int32) (hci13 : ci < 13) : Kd l yX2_mayTouch cX2_mayTouch 4 (some .boolean) 1 23 E (pW E q ci) [.ref q, .int x, .int y, .int z] (some (.int (b2i (mayS 1 x y z)))) (pW E q ci) := by
  refine Kn.ofWi (by decide +kernel) (Nat.le_of_ble_eq_true rfl) (fun _ _ => b2i_nar _) ?_
  intro pg ev s0 mm below meth cd Q K X fin ls hl
  have hx := K.1
  have hb := K.2.1
  obtain ⟨⟨Cn, Tn, Nn⟩, hci⟩ : ∃ z, vwCl[ci]? = some z := ⟨_, List.getElem?_eq_getElem hci13⟩
  have hl : lv_has ls 4 [(0, .ref q), (1, .int x), (2, .int y), (3, .int z)] := hl
  refine lv_aload_n hx hb dX2_mayTouch_0 rfl (lv_at hl 0 rfl) ?_
  refine lv_iload_n hx hb dX2_mayTouch_1 rfl (lv_at hl 1 rfl) ?_
  refine lv_iload_n hx hb dX2_mayTouch_2 rfl (lv_at hl 2 rfl) ?_
  refine lv_iload_n hx hb dX2_mayTouch_3 rfl (lv_at hl 3 rfl) ?_
  refine k_callU K X gu_X2_11 (As := [.int x, .int y, .int z]) (c_X4_mayTouch l E q ci x y z (by first | assumption | decide)) [0] rfl rfl (fun _ => rfl) 0 ci rfl hci (by decide) rfl hl.1 (rest := []) rfl (Nat.le_of_ble_eq_true rfl) dX2_mayTouch_4 (st1 := fun _ => [.int (b2i (mayS 0 x y z))]) (fun _ => rfl) (fun _ H locs _ X => ?_)
  have X : Wd E _ _ (pW E q ci) _ _ := X
  refine k_ifneB (B := (mayS 0 x y z)) hx hb 15 dX2_mayTouch_7 (by decide) (fun c7 => ?_) (fun c7 => ?_)
  · refine lv_iconst (v := 1) hx hb dX2_mayTouch_15 (by decide) ?_
    refine lv_goto (tgt := 20) hx hb dX2_mayTouch_16 (by decide) ?_
    exact k_topi (x' := b2i (mayS 1 x y z)) (by first | ((try simp only [mayS] at c7 ⊢) <;> simp [b2i, c7]; done) | (simp_all [mayS, b2i]; done)) (fin () 20 _ _ _ trivial X dX2_mayTouch_20)
  · refine lv_iload_n hx hb dX2_mayTouch_10 rfl (lv_at hl 1 rfl) ?_
    refine lv_iconst (v := 2) hx hb dX2_mayTouch_11 (by decide) ?_
    refine k_icmp_ge (x := x) (y := 2) hx hb 19 dX2_mayTouch_12 (by decide) (fun c12 => ?_) (fun c12 => ?_)
    · refine lv_iconst (v := 0) hx hb dX2_mayTouch_19 (by decide) ?_
      exact k_topi (x' := b2i (mayS 1 x y z)) (by first | ((try simp only [mayS] at c7 c12 ⊢) <;> simp [b2i, c7, c12]; done) | (simp_all [mayS, b2i]; done)) (fin () 20 _ _ _ trivial X dX2_mayTouch_20)
    · refine lv_iconst (v := 1) hx hb dX2_mayTouch_15 (by decide) ?_
      refine lv_goto (tgt := 20) hx hb dX2_mayTouch_16 (by decide) ?_
      exact k_topi (x' := b2i (mayS 1 x y z)) (by first | ((try simp only [mayS] at c7 c12 ⊢) <;> simp [b2i, c7, c12]; done) | (simp_all [mayS, b2i]; done)) (fin () 20 _ _ _ trivial X dX2_mayTouch_20)
set_option maxRecDepth 100000 in
set_option maxHeartbeats 4000000 in
theorem c_X8_mayTouch (l : Launch) (E : EE) (q : Nat) (ci : Nat) (x : Int32) (y : Int32) (z : Int32) (hci13 : ci < 13) : Kd l yX8_mayTouch cX8_mayTouch 4 (some .boolean) 1 23 E (pW E q ci) [.ref q, .int x, .int y, .int z] (some (.int (b2i (mayS 2 x y z)))) (pW E q ci) := by
  refine Kn.ofWi (by decide +kernel) (Nat.le_of_ble_eq_true rfl) (fun _ _ => b2i_nar _) ?_
  intro pg ev s0 mm below meth cd Q K X fin ls hl
  have hx := K.1
  have hb := K.2.1
  obtain ⟨⟨Cn, Tn, Nn⟩, hci⟩ : ∃ z, vwCl[ci]? = some z := ⟨_, List.getElem?_eq_getElem hci13⟩
  have hl : lv_has ls 4 [(0, .ref q), (1, .int x), (2, .int y), (3, .int z)] := hl
  refine lv_aload_n hx hb dX8_mayTouch_0 rfl (lv_at hl 0 rfl) ?_
  refine lv_iload_n hx hb dX8_mayTouch_1 rfl (lv_at hl 1 rfl) ?_
  refine lv_iload_n hx hb dX8_mayTouch_2 rfl (lv_at hl 2 rfl) ?_
  refine lv_iload_n hx hb dX8_mayTouch_3 rfl (lv_at hl 3 rfl) ?_
  refine k_callU K X gu_X8_11 (As := [.int x, .int y, .int z]) (c_X4_mayTouch l E q ci x y z (by first | assumption | decide)) [0] rfl rfl (fun _ => rfl) 0 ci rfl hci (by decide) rfl hl.1 (rest := []) rfl (Nat.le_of_ble_eq_true rfl) dX8_mayTouch_4 (st1 := fun _ => [.int (b2i (mayS 0 x y z))]) (fun _ => rfl) (fun _ H locs _ X => ?_)
  have X : Wd E _ _ (pW E q ci) _ _ := X
  refine k_ifeqB (B := (mayS 0 x y z)) hx hb 18 dX8_mayTouch_7 (by decide) (fun c7 => ?_) (fun c7 => ?_)
  · refine lv_iconst (v := 0) hx hb dX8_mayTouch_18 (by decide) ?_
    exact k_topi (x' := b2i (mayS 2 x y z)) (by first | ((try simp only [mayS] at c7 ⊢) <;> simp [b2i, c7]; done) | (simp_all [mayS, b2i]; done)) (fin () 19 _ _ _ trivial X dX8_mayTouch_19)
  · refine lv_iload_n hx hb dX8_mayTouch_10 rfl (lv_at hl 1 rfl) ?_
    refine k_if_ne (x := x) hx hb 18 dX8_mayTouch_11 (by decide) (fun c11 => ?_) (fun c11 => ?_)
    · refine lv_iconst (v := 0) hx hb dX8_mayTouch_18 (by decide) ?_
      exact k_topi (x' := b2i (mayS 2 x y z)) (by first | ((try simp only [mayS] at c7 c11 ⊢) <;> simp [b2i, c7, c11]; done) | (simp_all [mayS, b2i]; done)) (fin () 19 _ _ _ trivial X dX8_mayTouch_19)
    · refine lv_iconst (v := 1) hx hb dX8_mayTouch_14 (by decide) ?_
      refine lv_goto (tgt := 19) hx hb dX8_mayTouch_15 (by decide) ?_
      exact k_topi (x' := b2i (mayS 2 x y z)) (by first | ((try simp only [mayS] at c7 c11 ⊢) <;> simp [b2i, c7, c11]; done) | (simp_all [mayS, b2i]; done)) (fin () 19 _ _ _ trivial X dX8_mayTouch_19)
set_option maxRecDepth 100000 in
set_option maxHeartbeats 4000000 in
theorem c_X1_mayTouch (l : Launch) (E : EE) (q : Nat) (ci : Nat) (x : Int32) (y : Int32) (z : Int32) (hci13 : ci < 13) : Kd l yX1_mayTouch cX1_mayTouch 4 (some .boolean) 0 0 E (pW E q ci) [.ref q, .int x, .int y, .int z] (some (.int (b2i (mayS 3 x y z)))) (pW E q ci) := by
  refine Kn.ofWi (by decide +kernel) (Nat.le_of_ble_eq_true rfl) (fun _ _ => b2i_nar _) ?_
  intro pg ev s0 mm below meth cd Q K X fin ls hl
  have hx := K.1
  have hb := K.2.1
  obtain ⟨⟨Cn, Tn, Nn⟩, hci⟩ : ∃ z, vwCl[ci]? = some z := ⟨_, List.getElem?_eq_getElem hci13⟩
  have hl : lv_has ls 4 [(0, .ref q), (1, .int x), (2, .int y), (3, .int z)] := hl
  refine lv_iconst (v := 1) hx hb dX1_mayTouch_0 (by decide) ?_
  exact k_topi (x' := b2i (mayS 3 x y z)) (by first | ((try simp only [mayS] at  ⊢) <;> simp [b2i]; done) | (simp_all [mayS, b2i]; done)) (fin () 1 _ _ _ trivial X dX1_mayTouch_1)
set_option maxRecDepth 100000 in
set_option maxHeartbeats 4000000 in
theorem c_X5_mayTouch (l : Launch) (E : EE) (q : Nat) (ci : Nat) (x : Int32) (y : Int32) (z : Int32) (hci13 : ci < 13) : Kd l yX5_mayTouch cX5_mayTouch 4 (some .boolean) 2 46 E (pW E q ci) [.ref q, .int x, .int y, .int z] (some (.int (b2i (mayS 5 x y z)))) (pW E q ci) := by
  refine Kn.ofWi (by decide +kernel) (Nat.le_of_ble_eq_true rfl) (fun _ _ => b2i_nar _) ?_
  intro pg ev s0 mm below meth cd Q K X fin ls hl
  have hx := K.1
  have hb := K.2.1
  obtain ⟨⟨Cn, Tn, Nn⟩, hci⟩ : ∃ z, vwCl[ci]? = some z := ⟨_, List.getElem?_eq_getElem hci13⟩
  have hl : lv_has ls 4 [(0, .ref q), (1, .int x), (2, .int y), (3, .int z)] := hl
  refine lv_aload_n hx hb dX5_mayTouch_0 rfl (lv_at hl 0 rfl) ?_
  refine lv_iload_n hx hb dX5_mayTouch_1 rfl (lv_at hl 1 rfl) ?_
  refine lv_iload_n hx hb dX5_mayTouch_2 rfl (lv_at hl 2 rfl) ?_
  refine lv_iload_n hx hb dX5_mayTouch_3 rfl (lv_at hl 3 rfl) ?_
  refine k_callU K X gu_X5_11 (As := [.int x, .int y, .int z]) (c_X8_mayTouch l E q ci x y z (by first | assumption | decide)) [0] rfl rfl (fun _ => rfl) 0 ci rfl hci (by decide) rfl hl.1 (rest := []) rfl (Nat.le_of_ble_eq_true rfl) dX5_mayTouch_4 (st1 := fun _ => [.int (b2i (mayS 2 x y z))]) (fun _ => rfl) (fun _ H locs _ X => ?_)
  have X : Wd E _ _ (pW E q ci) _ _ := X
  refine k_ifneB (B := (mayS 2 x y z)) hx hb 22 dX5_mayTouch_7 (by decide) (fun c7 => ?_) (fun c7 => ?_)
  · refine lv_iconst (v := 1) hx hb dX5_mayTouch_22 (by decide) ?_
    refine lv_goto (tgt := 27) hx hb dX5_mayTouch_23 (by decide) ?_
    exact k_topi (x' := b2i (mayS 5 x y z)) (by first | ((try simp only [mayS] at c7 ⊢) <;> simp [b2i, c7]; done) | (simp_all [mayS, b2i]; done)) (fin () 27 _ _ _ trivial X dX5_mayTouch_27)
  · refine lv_iload_n hx hb dX5_mayTouch_10 rfl (lv_at hl 3 rfl) ?_
    refine lv_iconst (v := 2) hx hb dX5_mayTouch_11 (by decide) ?_
    refine lv_irem hx hb dX5_mayTouch_12 (by decide) ?_
    refine lv_iconst (v := 1) hx hb dX5_mayTouch_13 (by decide) ?_
    refine k_icmp_ne (x := z - z / 2 * 2) (y := 1) hx hb 26 dX5_mayTouch_14 (by decide) (fun c14 => ?_) (fun c14 => ?_)
    · refine lv_iconst (v := 0) hx hb dX5_mayTouch_26 (by decide) ?_
      exact k_topi (x' := b2i (mayS 5 x y z)) (by first | ((try simp only [mayS] at c7 c14 ⊢) <;> simp [b2i, c7, c14]; done) | (simp_all [mayS, b2i]; done)) (fin () 27 _ _ _ trivial X dX5_mayTouch_27)
    · refine lv_iload_n hx hb dX5_mayTouch_17 rfl (lv_at hl 1 rfl) ?_
      refine lv_iload_n hx hb dX5_mayTouch_18 rfl (lv_at hl 2 rfl) ?_
      refine k_icmp_ge (x := x) (y := y) hx hb 26 dX5_mayTouch_19 (by decide) (fun c19 => ?_) (fun c19 => ?_)
      · refine lv_iconst (v := 0) hx hb dX5_mayTouch_26 (by decide) ?_
        exact k_topi (x' := b2i (mayS 5 x y z)) (by first | ((try simp only [mayS] at c7 c14 c19 ⊢) <;> simp [b2i, c7, c14, c19]; done) | (simp_all [mayS, b2i]; done)) (fin () 27 _ _ _ trivial X dX5_mayTouch_27)
      · refine lv_iconst (v := 1) hx hb dX5_mayTouch_22 (by decide) ?_
        refine lv_goto (tgt := 27) hx hb dX5_mayTouch_23 (by decide) ?_
        exact k_topi (x' := b2i (mayS 5 x y z)) (by first | ((try simp only [mayS] at c7 c14 c19 ⊢) <;> simp [b2i, c7, c14, c19]; done) | (simp_all [mayS, b2i]; done)) (fin () 27 _ _ _ trivial X dX5_mayTouch_27)
set_option maxRecDepth 100000 in
set_option maxHeartbeats 4000000 in
theorem c_X4_prefers (l : Launch) (E : EE) (q : Nat) (ci : Nat) (x : Int32) (y : Int32) (hci13 : ci < 13) : Kd l yX4_prefers cX4_prefers 3 (some .boolean) 0 0 E (pW E q ci) [.ref q, .int x, .int y] (some (.int (b2i (prefS 0 x y)))) (pW E q ci) := by
  refine Kn.ofWi (by decide +kernel) (Nat.le_of_ble_eq_true rfl) (fun _ _ => b2i_nar _) ?_
  intro pg ev s0 mm below meth cd Q K X fin ls hl
  have hx := K.1
  have hb := K.2.1
  obtain ⟨⟨Cn, Tn, Nn⟩, hci⟩ : ∃ z, vwCl[ci]? = some z := ⟨_, List.getElem?_eq_getElem hci13⟩
  have hl : lv_has ls 3 [(0, .ref q), (1, .int x), (2, .int y)] := hl
  refine lv_iconst (v := 0) hx hb dX4_prefers_0 (by decide) ?_
  exact k_topi (x' := b2i (prefS 0 x y)) (by first | ((try simp only [prefS] at  ⊢) <;> simp [b2i]; done) | (simp_all [prefS, b2i]; done)) (fin () 1 _ _ _ trivial X dX4_prefers_1)
set_option maxRecDepth 100000 in
set_option maxHeartbeats 4000000 in
theorem c_X2_prefers (l : Launch) (E : EE) (q : Nat) (ci : Nat) (x : Int32) (y : Int32) (hci13 : ci < 13) : Kd l yX2_prefers cX2_prefers 3 (some .boolean) 0 0 E (pW E q ci) [.ref q, .int x, .int y] (some (.int (b2i (prefS 1 x y)))) (pW E q ci) := by
  refine Kn.ofWi (by decide +kernel) (Nat.le_of_ble_eq_true rfl) (fun _ _ => b2i_nar _) ?_
  intro pg ev s0 mm below meth cd Q K X fin ls hl
  have hx := K.1
  have hb := K.2.1
  obtain ⟨⟨Cn, Tn, Nn⟩, hci⟩ : ∃ z, vwCl[ci]? = some z := ⟨_, List.getElem?_eq_getElem hci13⟩
  have hl : lv_has ls 3 [(0, .ref q), (1, .int x), (2, .int y)] := hl
  refine lv_iconst (v := 1) hx hb dX2_prefers_0 (by decide) ?_
  exact k_topi (x' := b2i (prefS 1 x y)) (by first | ((try simp only [prefS] at  ⊢) <;> simp [b2i]; done) | (simp_all [prefS, b2i]; done)) (fin () 1 _ _ _ trivial X dX2_prefers_1)
set_option maxRecDepth 100000 in
set_option maxHeartbeats 4000000 in
theorem c_X1_prefers (l : Launch) (E : EE) (q : Nat) (ci : Nat) (x : Int32) (y : Int32) (hci13 : ci < 13) : Kd l yX1_prefers cX1_prefers 3 (some .boolean) 0 0 E (pW E q ci) [.ref q, .int x, .int y] (some (.int (b2i (prefS 3 x y)))) (pW E q ci) := by
  refine Kn.ofWi (by decide +kernel) (Nat.le_of_ble_eq_true rfl) (fun _ _ => b2i_nar _) ?_
  intro pg ev s0 mm below meth cd Q K X fin ls hl
  have hx := K.1
  have hb := K.2.1
  obtain ⟨⟨Cn, Tn, Nn⟩, hci⟩ : ∃ z, vwCl[ci]? = some z := ⟨_, List.getElem?_eq_getElem hci13⟩
  have hl : lv_has ls 3 [(0, .ref q), (1, .int x), (2, .int y)] := hl
  refine lv_iload_n hx hb dX1_prefers_0 rfl (lv_at hl 1 rfl) ?_
  refine lv_iload_n hx hb dX1_prefers_1 rfl (lv_at hl 2 rfl) ?_
  refine k_icmp_le (x := x) (y := y) hx hb 9 dX1_prefers_2 (by decide) (fun c2 => ?_) (fun c2 => ?_)
  · refine lv_iconst (v := 0) hx hb dX1_prefers_9 (by decide) ?_
    exact k_topi (x' := b2i (prefS 3 x y)) (by first | ((try simp only [prefS] at c2 ⊢) <;> simp [b2i, c2]; done) | (simp_all [prefS, b2i]; done)) (fin () 10 _ _ _ trivial X dX1_prefers_10)
  · refine lv_iconst (v := 1) hx hb dX1_prefers_5 (by decide) ?_
    refine lv_goto (tgt := 10) hx hb dX1_prefers_6 (by decide) ?_
    exact k_topi (x' := b2i (prefS 3 x y)) (by first | ((try simp only [prefS] at c2 ⊢) <;> simp [b2i, c2]; done) | (simp_all [prefS, b2i]; done)) (fin () 10 _ _ _ trivial X dX1_prefers_10)
set_option maxRecDepth 100000 in
set_option maxHeartbeats 4000000 in
theorem c_X4_turns (l : Launch) (E : EE) (q : Nat) (ci : Nat) (hci13 : ci < 13) : Kd l yX4_turns cX4_turns 1 (some .int) 0 0 E (pW E q ci) [.ref q] (some (.int (nI 1))) (pW E q ci) := by
  refine Kn.ofWi (by decide +kernel) (Nat.le_of_ble_eq_true rfl) (fun _ _ => rfl) ?_
  intro pg ev s0 mm below meth cd Q K X fin ls hl
  have hx := K.1
  have hb := K.2.1
  obtain ⟨⟨Cn, Tn, Nn⟩, hci⟩ : ∃ z, vwCl[ci]? = some z := ⟨_, List.getElem?_eq_getElem hci13⟩
  have hl : lv_has ls 1 [(0, .ref q)] := hl
  refine lv_iconst (v := 1) hx hb dX4_turns_0 (by decide) ?_
  exact k_topi (x' := nI 1) (rfl) (fin () 1 _ _ _ trivial X dX4_turns_1)
set_option maxRecDepth 100000 in
set_option maxHeartbeats 4000000 in
theorem c_X2_turns (l : Launch) (E : EE) (q : Nat) (ci : Nat) (hci13 : ci < 13) : Kd l yX2_turns cX2_turns 1 (some .int) 1 20 E (pW E q ci) [.ref q] (some (.int (nI 2))) (pW E q ci) := by
  refine Kn.ofWi (by decide +kernel) (Nat.le_of_ble_eq_true rfl) (fun _ _ => rfl) ?_
  intro pg ev s0 mm below meth cd Q K X fin ls hl
  have hx := K.1
  have hb := K.2.1
  obtain ⟨⟨Cn, Tn, Nn⟩, hci⟩ : ∃ z, vwCl[ci]? = some z := ⟨_, List.getElem?_eq_getElem hci13⟩
  have hl : lv_has ls 1 [(0, .ref q)] := hl
  refine lv_aload_n hx hb dX2_turns_0 rfl (lv_at hl 0 rfl) ?_
  refine k_callU K X gu_X2_15 (As := []) (c_X4_turns l E q ci (by first | assumption | decide)) [0] rfl rfl (fun _ => rfl) 0 ci rfl hci (by decide) rfl hl.1 (rest := []) rfl (Nat.le_of_ble_eq_true rfl) dX2_turns_1 (st1 := fun _ => [.int (nI 1)]) (fun _ => rfl) (fun _ H locs _ X => ?_)
  have X : Wd E _ _ (pW E q ci) _ _ := X
  refine lv_iconst (v := 1) hx hb dX2_turns_4 (by decide) ?_
  refine lv_iadd hx hb dX2_turns_5 ?_
  refine k_topi (nI_add 1 1) ?_
  exact k_topi (x' := nI 2) (rfl) (fin () 6 _ _ _ trivial X dX2_turns_6)
set_option maxRecDepth 100000 in
set_option maxHeartbeats 4000000 in
theorem c_X3_turns (l : Launch) (E : EE) (q : Nat) (ci : Nat) (hci13 : ci < 13) : Kd l yX3_turns cX3_turns 1 (some .int) 2 40 E (pW E q ci) [.ref q] (some (.int (nI 3))) (pW E q ci) := by
  refine Kn.ofWi (by decide +kernel) (Nat.le_of_ble_eq_true rfl) (fun _ _ => rfl) ?_
  intro pg ev s0 mm below meth cd Q K X fin ls hl
  have hx := K.1
  have hb := K.2.1
  obtain ⟨⟨Cn, Tn, Nn⟩, hci⟩ : ∃ z, vwCl[ci]? = some z := ⟨_, List.getElem?_eq_getElem hci13⟩
  have hl : lv_has ls 1 [(0, .ref q)] := hl
  refine lv_aload_n hx hb dX3_turns_0 rfl (lv_at hl 0 rfl) ?_
  refine k_callU K X gu_X3_11 (As := []) (c_X2_turns l E q ci (by first | assumption | decide)) [0] rfl rfl (fun _ => rfl) 0 ci rfl hci (by decide) rfl hl.1 (rest := []) rfl (Nat.le_of_ble_eq_true rfl) dX3_turns_1 (st1 := fun _ => [.int (nI 2)]) (fun _ => rfl) (fun _ H locs _ X => ?_)
  have X : Wd E _ _ (pW E q ci) _ _ := X
  refine lv_iconst (v := 1) hx hb dX3_turns_4 (by decide) ?_
  refine lv_iadd hx hb dX3_turns_5 ?_
  refine k_topi (nI_add 2 1) ?_
  exact k_topi (x' := nI 3) (rfl) (fin () 6 _ _ _ trivial X dX3_turns_6)
set_option maxRecDepth 100000 in
set_option maxHeartbeats 4000000 in
theorem c_X4_fixes (l : Launch) (E : EE) (q : Nat) (ci : Nat) (x : Int32) (hci13 : ci < 13) : Kd l yX4_fixes cX4_fixes 2 (some .boolean) 0 0 E (pW E q ci) [.ref q, .int x] (some (.int (b2i (fixS 0 x)))) (pW E q ci) := by
  refine Kn.ofWi (by decide +kernel) (Nat.le_of_ble_eq_true rfl) (fun _ _ => b2i_nar _) ?_
  intro pg ev s0 mm below meth cd Q K X fin ls hl
  have hx := K.1
  have hb := K.2.1
  obtain ⟨⟨Cn, Tn, Nn⟩, hci⟩ : ∃ z, vwCl[ci]? = some z := ⟨_, List.getElem?_eq_getElem hci13⟩
  have hl : lv_has ls 2 [(0, .ref q), (1, .int x)] := hl
  refine lv_iconst (v := 0) hx hb dX4_fixes_0 (by decide) ?_
  exact k_topi (x' := b2i (fixS 0 x)) (by first | ((try simp only [fixS] at  ⊢) <;> simp [b2i]; done) | (simp_all [fixS, b2i]; done)) (fin () 1 _ _ _ trivial X dX4_fixes_1)
set_option maxRecDepth 100000 in
set_option maxHeartbeats 4000000 in
theorem c_X1_fixes (l : Launch) (E : EE) (q : Nat) (ci : Nat) (x : Int32) (hci13 : ci < 13) : Kd l yX1_fixes cX1_fixes 2 (some .boolean) 0 0 E (pW E q ci) [.ref q, .int x] (some (.int (b2i (fixS 3 x)))) (pW E q ci) := by
  refine Kn.ofWi (by decide +kernel) (Nat.le_of_ble_eq_true rfl) (fun _ _ => b2i_nar _) ?_
  intro pg ev s0 mm below meth cd Q K X fin ls hl
  have hx := K.1
  have hb := K.2.1
  obtain ⟨⟨Cn, Tn, Nn⟩, hci⟩ : ∃ z, vwCl[ci]? = some z := ⟨_, List.getElem?_eq_getElem hci13⟩
  have hl : lv_has ls 2 [(0, .ref q), (1, .int x)] := hl
  refine lv_iconst (v := 1) hx hb dX1_fixes_0 (by decide) ?_
  exact k_topi (x' := b2i (fixS 3 x)) (by first | ((try simp only [fixS] at  ⊢) <;> simp [b2i]; done) | (simp_all [fixS, b2i]; done)) (fin () 1 _ _ _ trivial X dX1_fixes_1)
set_option maxRecDepth 100000 in
set_option maxHeartbeats 4000000 in
theorem c_X3_fixes (l : Launch) (E : EE) (q : Nat) (ci : Nat) (x : Int32) (hci13 : ci < 13) : Kd l yX3_fixes cX3_fixes 2 (some .boolean) 0 0 E (pW E q ci) [.ref q, .int x] (some (.int (b2i (fixS 4 x)))) (pW E q ci) := by
  refine Kn.ofWi (by decide +kernel) (Nat.le_of_ble_eq_true rfl) (fun _ _ => b2i_nar _) ?_
  intro pg ev s0 mm below meth cd Q K X fin ls hl
  have hx := K.1
  have hb := K.2.1
  obtain ⟨⟨Cn, Tn, Nn⟩, hci⟩ : ∃ z, vwCl[ci]? = some z := ⟨_, List.getElem?_eq_getElem hci13⟩
  have hl : lv_has ls 2 [(0, .ref q), (1, .int x)] := hl
  refine lv_iload_n hx hb dX3_fixes_0 rfl (lv_at hl 1 rfl) ?_
  refine lv_iconst (v := 5) hx hb dX3_fixes_1 (by decide) ?_
  refine k_icmp_lt (x := x) (y := 5) hx hb 9 dX3_fixes_2 (by decide) (fun c2 => ?_) (fun c2 => ?_)
  · refine lv_iconst (v := 0) hx hb dX3_fixes_9 (by decide) ?_
    exact k_topi (x' := b2i (fixS 4 x)) (by first | ((try simp only [fixS] at c2 ⊢) <;> simp [b2i, c2]; done) | (simp_all [fixS, b2i]; done)) (fin () 10 _ _ _ trivial X dX3_fixes_10)
  · refine lv_iconst (v := 1) hx hb dX3_fixes_5 (by decide) ?_
    refine lv_goto (tgt := 10) hx hb dX3_fixes_6 (by decide) ?_
    exact k_topi (x' := b2i (fixS 4 x)) (by first | ((try simp only [fixS] at c2 ⊢) <;> simp [b2i, c2]; done) | (simp_all [fixS, b2i]; done)) (fin () 10 _ _ _ trivial X dX3_fixes_10)
end
