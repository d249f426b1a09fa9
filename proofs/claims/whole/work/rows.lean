section
-- ===== PART A: goes FIRST, ahead of the names: the tables' words, and 'selects' of the private methods out of them =====
/-- a private method of a class that the tables say can be made, by its rows of tables_1 -/
def lw_okq (q : MethodName × Nat) : Prop := (q.1.cls ≠ "java/lang/invoke/MethodHandle" ∧ q.1.cls ≠ "java/lang/invoke/VarHandle") ∧ Cond.instantiable q.1.cls q.2 ∈ tables_1 ∧ Cond.privateMethod q.1 ∈ tables_1 ∧ Cond.instanceMethod q.1 ∈ tables_1
theorem lw_p0 : lw_okq (⟨"StatueRelief", "refused", "(I)I"⟩, 19) := ⟨⟨by decide +kernel, by decide +kernel⟩, List.mem_of_getElem? (i := 21) (by decide +kernel), List.mem_of_getElem? (i := 440) (by decide +kernel), List.mem_of_getElem? (i := 441) (by decide +kernel)⟩
theorem lw_p1 : lw_okq (⟨"StatueRelief", "accepted", "(I)I"⟩, 19) := ⟨⟨by decide +kernel, by decide +kernel⟩, List.mem_of_getElem? (i := 21) (by decide +kernel), List.mem_of_getElem? (i := 452) (by decide +kernel), List.mem_of_getElem? (i := 453) (by decide +kernel)⟩
theorem lw_p2 : lw_okq (⟨"StatueRelief$Post", "setWords", "(LStatueRelief$Standing;III)V"⟩, 2) := ⟨⟨by decide +kernel, by decide +kernel⟩, List.mem_of_getElem? (i := 173) (by decide +kernel), List.mem_of_getElem? (i := 493) (by decide +kernel), List.mem_of_getElem? (i := 494) (by decide +kernel)⟩
theorem lw_p3 : lw_okq (⟨"StatueRelief$Machine", "join", "(I)Z"⟩, 4) := ⟨⟨by decide +kernel, by decide +kernel⟩, List.mem_of_getElem? (i := 179) (by decide +kernel), List.mem_of_getElem? (i := 504) (by decide +kernel), List.mem_of_getElem? (i := 505) (by decide +kernel)⟩
theorem lw_p4 : lw_okq (⟨"StatueRelief", "areTwo", "(II)Z"⟩, 19) := ⟨⟨by decide +kernel, by decide +kernel⟩, List.mem_of_getElem? (i := 21) (by decide +kernel), List.mem_of_getElem? (i := 526) (by decide +kernel), List.mem_of_getElem? (i := 527) (by decide +kernel)⟩
theorem lw_p5 : lw_okq (⟨"StatueRelief", "putOnTape", "(I)V"⟩, 19) := ⟨⟨by decide +kernel, by decide +kernel⟩, List.mem_of_getElem? (i := 21) (by decide +kernel), List.mem_of_getElem? (i := 540) (by decide +kernel), List.mem_of_getElem? (i := 541) (by decide +kernel)⟩
theorem lw_p6 : lw_okq (⟨"StatueRelief$Reader", "advance", "()V"⟩, 8) := ⟨⟨by decide +kernel, by decide +kernel⟩, List.mem_of_getElem? (i := 343) (by decide +kernel), List.mem_of_getElem? (i := 565) (by decide +kernel), List.mem_of_getElem? (i := 566) (by decide +kernel)⟩
theorem lw_p7 : lw_okq (⟨"StatueRelief$Reader", "kindAt", "(I)I"⟩, 8) := ⟨⟨by decide +kernel, by decide +kernel⟩, List.mem_of_getElem? (i := 343) (by decide +kernel), List.mem_of_getElem? (i := 569) (by decide +kernel), List.mem_of_getElem? (i := 570) (by decide +kernel)⟩
theorem lw_p8 : lw_okq (⟨"StatueRelief$Reader", "clause", "()Z"⟩, 8) := ⟨⟨by decide +kernel, by decide +kernel⟩, List.mem_of_getElem? (i := 343) (by decide +kernel), List.mem_of_getElem? (i := 573) (by decide +kernel), List.mem_of_getElem? (i := 574) (by decide +kernel)⟩
theorem lw_p9 : lw_okq (⟨"StatueRelief$Reader", "wordIn", "(Ljava/lang/String;)I"⟩, 8) := ⟨⟨by decide +kernel, by decide +kernel⟩, List.mem_of_getElem? (i := 343) (by decide +kernel), List.mem_of_getElem? (i := 579) (by decide +kernel), List.mem_of_getElem? (i := 580) (by decide +kernel)⟩
theorem lw_p10 : lw_okq (⟨"StatueRelief$Reader", "sum", "(I)Z"⟩, 8) := ⟨⟨by decide +kernel, by decide +kernel⟩, List.mem_of_getElem? (i := 343) (by decide +kernel), List.mem_of_getElem? (i := 635) (by decide +kernel), List.mem_of_getElem? (i := 636) (by decide +kernel)⟩
theorem lw_p11 : lw_okq (⟨"StatueRelief$Reader", "term", "(I)Z"⟩, 8) := ⟨⟨by decide +kernel, by decide +kernel⟩, List.mem_of_getElem? (i := 343) (by decide +kernel), List.mem_of_getElem? (i := 639) (by decide +kernel), List.mem_of_getElem? (i := 640) (by decide +kernel)⟩
theorem lw_p12 : lw_okq (⟨"StatueRelief$Reader", "part", "(I)Z"⟩, 8) := ⟨⟨by decide +kernel, by decide +kernel⟩, List.mem_of_getElem? (i := 343) (by decide +kernel), List.mem_of_getElem? (i := 643) (by decide +kernel), List.mem_of_getElem? (i := 644) (by decide +kernel)⟩
theorem lw_p13 : lw_okq (⟨"StatueRelief$Reader", "isSign", "(C)Z"⟩, 8) := ⟨⟨by decide +kernel, by decide +kernel⟩, List.mem_of_getElem? (i := 343) (by decide +kernel), List.mem_of_getElem? (i := 647) (by decide +kernel), List.mem_of_getElem? (i := 648) (by decide +kernel)⟩
theorem lw_p14 : lw_okq (⟨"StatueRelief$Reader", "number", "()Z"⟩, 8) := ⟨⟨by decide +kernel, by decide +kernel⟩, List.mem_of_getElem? (i := 343) (by decide +kernel), List.mem_of_getElem? (i := 651) (by decide +kernel), List.mem_of_getElem? (i := 652) (by decide +kernel)⟩
theorem lw_p15 : lw_okq (⟨"StatueRelief$Reader", "numberOf", "(II)I"⟩, 8) := ⟨⟨by decide +kernel, by decide +kernel⟩, List.mem_of_getElem? (i := 343) (by decide +kernel), List.mem_of_getElem? (i := 655) (by decide +kernel), List.mem_of_getElem? (i := 656) (by decide +kernel)⟩
def lw_privs_1 : List (MethodName × Nat) := [(⟨"StatueRelief", "refused", "(I)I"⟩, 19), (⟨"StatueRelief", "accepted", "(I)I"⟩, 19), (⟨"StatueRelief$Post", "setWords", "(LStatueRelief$Standing;III)V"⟩, 2), (⟨"StatueRelief$Machine", "join", "(I)Z"⟩, 4), (⟨"StatueRelief", "areTwo", "(II)Z"⟩, 19), (⟨"StatueRelief", "putOnTape", "(I)V"⟩, 19), (⟨"StatueRelief$Reader", "advance", "()V"⟩, 8), (⟨"StatueRelief$Reader", "kindAt", "(I)I"⟩, 8), (⟨"StatueRelief$Reader", "clause", "()Z"⟩, 8), (⟨"StatueRelief$Reader", "wordIn", "(Ljava/lang/String;)I"⟩, 8), (⟨"StatueRelief$Reader", "sum", "(I)Z"⟩, 8), (⟨"StatueRelief$Reader", "term", "(I)Z"⟩, 8), (⟨"StatueRelief$Reader", "part", "(I)Z"⟩, 8), (⟨"StatueRelief$Reader", "isSign", "(C)Z"⟩, 8), (⟨"StatueRelief$Reader", "number", "()Z"⟩, 8), (⟨"StatueRelief$Reader", "numberOf", "(II)I"⟩, 8)]
theorem lw_r1 : ∀ q ∈ lw_privs_1, lw_okq q := List.forall_mem_cons.mpr ⟨lw_p0, List.forall_mem_cons.mpr ⟨lw_p1, List.forall_mem_cons.mpr ⟨lw_p2, List.forall_mem_cons.mpr ⟨lw_p3, List.forall_mem_cons.mpr ⟨lw_p4, List.forall_mem_cons.mpr ⟨lw_p5, List.forall_mem_cons.mpr ⟨lw_p6, List.forall_mem_cons.mpr ⟨lw_p7, List.forall_mem_cons.mpr ⟨lw_p8, List.forall_mem_cons.mpr ⟨lw_p9, List.forall_mem_cons.mpr ⟨lw_p10, List.forall_mem_cons.mpr ⟨lw_p11, List.forall_mem_cons.mpr ⟨lw_p12, List.forall_mem_cons.mpr ⟨lw_p13, List.forall_mem_cons.mpr ⟨lw_p14, List.forall_mem_cons.mpr ⟨lw_p15, fun _ h => absurd h List.not_mem_nil⟩⟩⟩⟩⟩⟩⟩⟩⟩⟩⟩⟩⟩⟩⟩⟩
theorem lw_p16 : lw_okq (⟨"StatueRelief$Reader", "word", "()Z"⟩, 8) := ⟨⟨by decide +kernel, by decide +kernel⟩, List.mem_of_getElem? (i := 343) (by decide +kernel), List.mem_of_getElem? (i := 664) (by decide +kernel), List.mem_of_getElem? (i := 665) (by decide +kernel)⟩
theorem lw_p17 : lw_okq (⟨"StatueRelief$Reader", "test", "(I)Z"⟩, 8) := ⟨⟨by decide +kernel, by decide +kernel⟩, List.mem_of_getElem? (i := 343) (by decide +kernel), List.mem_of_getElem? (i := 672) (by decide +kernel), List.mem_of_getElem? (i := 673) (by decide +kernel)⟩
theorem lw_p18 : lw_okq (⟨"StatueRelief$Reader", "both", "(I)Z"⟩, 8) := ⟨⟨by decide +kernel, by decide +kernel⟩, List.mem_of_getElem? (i := 343) (by decide +kernel), List.mem_of_getElem? (i := 676) (by decide +kernel), List.mem_of_getElem? (i := 677) (by decide +kernel)⟩
theorem lw_p19 : lw_okq (⟨"StatueRelief$Reader", "plain", "(I)Z"⟩, 8) := ⟨⟨by decide +kernel, by decide +kernel⟩, List.mem_of_getElem? (i := 343) (by decide +kernel), List.mem_of_getElem? (i := 680) (by decide +kernel), List.mem_of_getElem? (i := 681) (by decide +kernel)⟩
theorem lw_p20 : lw_okq (⟨"StatueRelief$Desk", "runOnce", "(I)Z"⟩, 10) := ⟨⟨by decide +kernel, by decide +kernel⟩, List.mem_of_getElem? (i := 211) (by decide +kernel), List.mem_of_getElem? (i := 716) (by decide +kernel), List.mem_of_getElem? (i := 717) (by decide +kernel)⟩
theorem lw_p21 : lw_okq (⟨"StatueRelief$Desk", "setWords", "()V"⟩, 10) := ⟨⟨by decide +kernel, by decide +kernel⟩, List.mem_of_getElem? (i := 211) (by decide +kernel), List.mem_of_getElem? (i := 720) (by decide +kernel), List.mem_of_getElem? (i := 721) (by decide +kernel)⟩
theorem lw_p22 : lw_okq (⟨"StatueRelief$Post", "cashier", "(LStatueRelief$Standing;I)V"⟩, 2) := ⟨⟨by decide +kernel, by decide +kernel⟩, List.mem_of_getElem? (i := 173) (by decide +kernel), List.mem_of_getElem? (i := 744) (by decide +kernel), List.mem_of_getElem? (i := 745) (by decide +kernel)⟩
theorem lw_p23 : lw_okq (⟨"StatueRelief", "settled", "(I)I"⟩, 19) := ⟨⟨by decide +kernel, by decide +kernel⟩, List.mem_of_getElem? (i := 21) (by decide +kernel), List.mem_of_getElem? (i := 757) (by decide +kernel), List.mem_of_getElem? (i := 758) (by decide +kernel)⟩
theorem lw_p24 : lw_okq (⟨"StatueRelief$Rota", "search", "(II)V"⟩, 7) := ⟨⟨by decide +kernel, by decide +kernel⟩, List.mem_of_getElem? (i := 271) (by decide +kernel), List.mem_of_getElem? (i := 830) (by decide +kernel), List.mem_of_getElem? (i := 831) (by decide +kernel)⟩
theorem lw_p25 : lw_okq (⟨"StatueRelief$Rota", "eyesFor", "(LStatueRelief$Standing;I)I"⟩, 7) := ⟨⟨by decide +kernel, by decide +kernel⟩, List.mem_of_getElem? (i := 271) (by decide +kernel), List.mem_of_getElem? (i := 835) (by decide +kernel), List.mem_of_getElem? (i := 836) (by decide +kernel)⟩
theorem lw_p26 : lw_okq (⟨"StatueRelief$Rota", "shakes", "(LStatueRelief$Standing;I)Z"⟩, 7) := ⟨⟨by decide +kernel, by decide +kernel⟩, List.mem_of_getElem? (i := 271) (by decide +kernel), List.mem_of_getElem? (i := 842) (by decide +kernel), List.mem_of_getElem? (i := 843) (by decide +kernel)⟩
theorem lw_p27 : lw_okq (⟨"StatueRelief$Rota", "goOn", "(LStatueRelief$Standing;ILStatueRelief$Standing;)V"⟩, 7) := ⟨⟨by decide +kernel, by decide +kernel⟩, List.mem_of_getElem? (i := 271) (by decide +kernel), List.mem_of_getElem? (i := 847) (by decide +kernel), List.mem_of_getElem? (i := 848) (by decide +kernel)⟩
theorem lw_p28 : lw_okq (⟨"StatueRelief$Pairs", "lookAtAll", "(LStatueRelief$Standing;)V"⟩, 8) := ⟨⟨by decide +kernel, by decide +kernel⟩, List.mem_of_getElem? (i := 306) (by decide +kernel), List.mem_of_getElem? (i := 863) (by decide +kernel), List.mem_of_getElem? (i := 864) (by decide +kernel)⟩
theorem lw_p29 : lw_okq (⟨"StatueRelief$Pairs", "place", "(LStatueRelief$Standing;III)V"⟩, 8) := ⟨⟨by decide +kernel, by decide +kernel⟩, List.mem_of_getElem? (i := 306) (by decide +kernel), List.mem_of_getElem? (i := 870) (by decide +kernel), List.mem_of_getElem? (i := 871) (by decide +kernel)⟩
theorem lw_p30 : lw_okq (⟨"StatueRelief$Pairs", "nextTo", "(LStatueRelief$Standing;II)I"⟩, 8) := ⟨⟨by decide +kernel, by decide +kernel⟩, List.mem_of_getElem? (i := 306) (by decide +kernel), List.mem_of_getElem? (i := 884) (by decide +kernel), List.mem_of_getElem? (i := 885) (by decide +kernel)⟩
theorem lw_p31 : lw_okq (⟨"StatueRelief$Standing", "alike", "(II)I"⟩, 11) := ⟨⟨by decide +kernel, by decide +kernel⟩, List.mem_of_getElem? (i := 29) (by decide +kernel), List.mem_of_getElem? (i := 905) (by decide +kernel), List.mem_of_getElem? (i := 906) (by decide +kernel)⟩
def lw_privs_2 : List (MethodName × Nat) := [(⟨"StatueRelief$Reader", "word", "()Z"⟩, 8), (⟨"StatueRelief$Reader", "test", "(I)Z"⟩, 8), (⟨"StatueRelief$Reader", "both", "(I)Z"⟩, 8), (⟨"StatueRelief$Reader", "plain", "(I)Z"⟩, 8), (⟨"StatueRelief$Desk", "runOnce", "(I)Z"⟩, 10), (⟨"StatueRelief$Desk", "setWords", "()V"⟩, 10), (⟨"StatueRelief$Post", "cashier", "(LStatueRelief$Standing;I)V"⟩, 2), (⟨"StatueRelief", "settled", "(I)I"⟩, 19), (⟨"StatueRelief$Rota", "search", "(II)V"⟩, 7), (⟨"StatueRelief$Rota", "eyesFor", "(LStatueRelief$Standing;I)I"⟩, 7), (⟨"StatueRelief$Rota", "shakes", "(LStatueRelief$Standing;I)Z"⟩, 7), (⟨"StatueRelief$Rota", "goOn", "(LStatueRelief$Standing;ILStatueRelief$Standing;)V"⟩, 7), (⟨"StatueRelief$Pairs", "lookAtAll", "(LStatueRelief$Standing;)V"⟩, 8), (⟨"StatueRelief$Pairs", "place", "(LStatueRelief$Standing;III)V"⟩, 8), (⟨"StatueRelief$Pairs", "nextTo", "(LStatueRelief$Standing;II)I"⟩, 8), (⟨"StatueRelief$Standing", "alike", "(II)I"⟩, 11)]
theorem lw_r2 : ∀ q ∈ lw_privs_2, lw_okq q := List.forall_mem_cons.mpr ⟨lw_p16, List.forall_mem_cons.mpr ⟨lw_p17, List.forall_mem_cons.mpr ⟨lw_p18, List.forall_mem_cons.mpr ⟨lw_p19, List.forall_mem_cons.mpr ⟨lw_p20, List.forall_mem_cons.mpr ⟨lw_p21, List.forall_mem_cons.mpr ⟨lw_p22, List.forall_mem_cons.mpr ⟨lw_p23, List.forall_mem_cons.mpr ⟨lw_p24, List.forall_mem_cons.mpr ⟨lw_p25, List.forall_mem_cons.mpr ⟨lw_p26, List.forall_mem_cons.mpr ⟨lw_p27, List.forall_mem_cons.mpr ⟨lw_p28, List.forall_mem_cons.mpr ⟨lw_p29, List.forall_mem_cons.mpr ⟨lw_p30, List.forall_mem_cons.mpr ⟨lw_p31, fun _ h => absurd h List.not_mem_nil⟩⟩⟩⟩⟩⟩⟩⟩⟩⟩⟩⟩⟩⟩⟩⟩
theorem lw_p32 : lw_okq (⟨"StatueRelief", "live", "(LStatueRelief$Standing;II)I"⟩, 19) := ⟨⟨by decide +kernel, by decide +kernel⟩, List.mem_of_getElem? (i := 21) (by decide +kernel), List.mem_of_getElem? (i := 957) (by decide +kernel), List.mem_of_getElem? (i := 958) (by decide +kernel)⟩
theorem lw_p33 : lw_okq (⟨"StatueReliefModel", "tell", "(I)I"⟩, 60) := ⟨⟨by decide +kernel, by decide +kernel⟩, List.mem_of_getElem? (i := 998) (by decide +kernel), List.mem_of_getElem? (i := 1210) (by decide +kernel), List.mem_of_getElem? (i := 1211) (by decide +kernel)⟩
theorem lw_p34 : lw_okq (⟨"StatueReliefModel", "putBack", "(I)V"⟩, 60) := ⟨⟨by decide +kernel, by decide +kernel⟩, List.mem_of_getElem? (i := 998) (by decide +kernel), List.mem_of_getElem? (i := 1214) (by decide +kernel), List.mem_of_getElem? (i := 1215) (by decide +kernel)⟩
theorem lw_p35 : lw_okq (⟨"StatueReliefModel", "lasting", "(I)I"⟩, 60) := ⟨⟨by decide +kernel, by decide +kernel⟩, List.mem_of_getElem? (i := 998) (by decide +kernel), List.mem_of_getElem? (i := 1229) (by decide +kernel), List.mem_of_getElem? (i := 1230) (by decide +kernel)⟩
theorem lw_p36 : lw_okq (⟨"StatueReliefModel", "comes", "(II)I"⟩, 60) := ⟨⟨by decide +kernel, by decide +kernel⟩, List.mem_of_getElem? (i := 998) (by decide +kernel), List.mem_of_getElem? (i := 1237) (by decide +kernel), List.mem_of_getElem? (i := 1238) (by decide +kernel)⟩
theorem lw_p37 : lw_okq (⟨"StatueReliefModel", "isMan", "(I)Z"⟩, 60) := ⟨⟨by decide +kernel, by decide +kernel⟩, List.mem_of_getElem? (i := 998) (by decide +kernel), List.mem_of_getElem? (i := 1247) (by decide +kernel), List.mem_of_getElem? (i := 1248) (by decide +kernel)⟩
theorem lw_p38 : lw_okq (⟨"StatueReliefModel", "tires", "(I)I"⟩, 60) := ⟨⟨by decide +kernel, by decide +kernel⟩, List.mem_of_getElem? (i := 998) (by decide +kernel), List.mem_of_getElem? (i := 1251) (by decide +kernel), List.mem_of_getElem? (i := 1252) (by decide +kernel)⟩
theorem lw_p39 : lw_okq (⟨"StatueReliefModel", "tells", "(IIIJ)J"⟩, 60) := ⟨⟨by decide +kernel, by decide +kernel⟩, List.mem_of_getElem? (i := 998) (by decide +kernel), List.mem_of_getElem? (i := 1255) (by decide +kernel), List.mem_of_getElem? (i := 1256) (by decide +kernel)⟩
theorem lw_p40 : lw_okq (⟨"StatueReliefModel", "unlike", "(II)I"⟩, 60) := ⟨⟨by decide +kernel, by decide +kernel⟩, List.mem_of_getElem? (i := 998) (by decide +kernel), List.mem_of_getElem? (i := 1260) (by decide +kernel), List.mem_of_getElem? (i := 1261) (by decide +kernel)⟩
theorem lw_p41 : lw_okq (⟨"StatueReliefModel", "isSo", "(I)Z"⟩, 60) := ⟨⟨by decide +kernel, by decide +kernel⟩, List.mem_of_getElem? (i := 998) (by decide +kernel), List.mem_of_getElem? (i := 1267) (by decide +kernel), List.mem_of_getElem? (i := 1268) (by decide +kernel)⟩
theorem lw_p42 : lw_okq (⟨"StatueReliefModel", "reckonAll", "(II)V"⟩, 60) := ⟨⟨by decide +kernel, by decide +kernel⟩, List.mem_of_getElem? (i := 998) (by decide +kernel), List.mem_of_getElem? (i := 1271) (by decide +kernel), List.mem_of_getElem? (i := 1272) (by decide +kernel)⟩
theorem lw_p43 : lw_okq (⟨"StatueReliefModel", "reckon", "(IJJ)J"⟩, 60) := ⟨⟨by decide +kernel, by decide +kernel⟩, List.mem_of_getElem? (i := 998) (by decide +kernel), List.mem_of_getElem? (i := 1275) (by decide +kernel), List.mem_of_getElem? (i := 1276) (by decide +kernel)⟩
theorem lw_p44 : lw_okq (⟨"StatueReliefModel", "rests", "(I)I"⟩, 60) := ⟨⟨by decide +kernel, by decide +kernel⟩, List.mem_of_getElem? (i := 998) (by decide +kernel), List.mem_of_getElem? (i := 1284) (by decide +kernel), List.mem_of_getElem? (i := 1285) (by decide +kernel)⟩
theorem lw_p45 : lw_okq (⟨"StatueReliefModel", "isBarred", "(I)Z"⟩, 60) := ⟨⟨by decide +kernel, by decide +kernel⟩, List.mem_of_getElem? (i := 998) (by decide +kernel), List.mem_of_getElem? (i := 1288) (by decide +kernel), List.mem_of_getElem? (i := 1289) (by decide +kernel)⟩
theorem lw_p46 : lw_okq (⟨"StatueReliefModel", "canRelieve", "(I)Z"⟩, 60) := ⟨⟨by decide +kernel, by decide +kernel⟩, List.mem_of_getElem? (i := 998) (by decide +kernel), List.mem_of_getElem? (i := 1292) (by decide +kernel), List.mem_of_getElem? (i := 1293) (by decide +kernel)⟩
theorem lw_p47 : lw_okq (⟨"StatueReliefModel", "isFit", "(I)Z"⟩, 60) := ⟨⟨by decide +kernel, by decide +kernel⟩, List.mem_of_getElem? (i := 998) (by decide +kernel), List.mem_of_getElem? (i := 1296) (by decide +kernel), List.mem_of_getElem? (i := 1297) (by decide +kernel)⟩
def lw_privs_3 : List (MethodName × Nat) := [(⟨"StatueRelief", "live", "(LStatueRelief$Standing;II)I"⟩, 19), (⟨"StatueReliefModel", "tell", "(I)I"⟩, 60), (⟨"StatueReliefModel", "putBack", "(I)V"⟩, 60), (⟨"StatueReliefModel", "lasting", "(I)I"⟩, 60), (⟨"StatueReliefModel", "comes", "(II)I"⟩, 60), (⟨"StatueReliefModel", "isMan", "(I)Z"⟩, 60), (⟨"StatueReliefModel", "tires", "(I)I"⟩, 60), (⟨"StatueReliefModel", "tells", "(IIIJ)J"⟩, 60), (⟨"StatueReliefModel", "unlike", "(II)I"⟩, 60), (⟨"StatueReliefModel", "isSo", "(I)Z"⟩, 60), (⟨"StatueReliefModel", "reckonAll", "(II)V"⟩, 60), (⟨"StatueReliefModel", "reckon", "(IJJ)J"⟩, 60), (⟨"StatueReliefModel", "rests", "(I)I"⟩, 60), (⟨"StatueReliefModel", "isBarred", "(I)Z"⟩, 60), (⟨"StatueReliefModel", "canRelieve", "(I)Z"⟩, 60), (⟨"StatueReliefModel", "isFit", "(I)Z"⟩, 60)]
theorem lw_r3 : ∀ q ∈ lw_privs_3, lw_okq q := List.forall_mem_cons.mpr ⟨lw_p32, List.forall_mem_cons.mpr ⟨lw_p33, List.forall_mem_cons.mpr ⟨lw_p34, List.forall_mem_cons.mpr ⟨lw_p35, List.forall_mem_cons.mpr ⟨lw_p36, List.forall_mem_cons.mpr ⟨lw_p37, List.forall_mem_cons.mpr ⟨lw_p38, List.forall_mem_cons.mpr ⟨lw_p39, List.forall_mem_cons.mpr ⟨lw_p40, List.forall_mem_cons.mpr ⟨lw_p41, List.forall_mem_cons.mpr ⟨lw_p42, List.forall_mem_cons.mpr ⟨lw_p43, List.forall_mem_cons.mpr ⟨lw_p44, List.forall_mem_cons.mpr ⟨lw_p45, List.forall_mem_cons.mpr ⟨lw_p46, List.forall_mem_cons.mpr ⟨lw_p47, fun _ h => absurd h List.not_mem_nil⟩⟩⟩⟩⟩⟩⟩⟩⟩⟩⟩⟩⟩⟩⟩⟩
theorem lw_p48 : lw_okq (⟨"StatueReliefModel", "noticed", "(II)I"⟩, 60) := ⟨⟨by decide +kernel, by decide +kernel⟩, List.mem_of_getElem? (i := 998) (by decide +kernel), List.mem_of_getElem? (i := 1304) (by decide +kernel), List.mem_of_getElem? (i := 1305) (by decide +kernel)⟩
theorem lw_p49 : lw_okq (⟨"StatueReliefModel", "change", "(II)I"⟩, 60) := ⟨⟨by decide +kernel, by decide +kernel⟩, List.mem_of_getElem? (i := 998) (by decide +kernel), List.mem_of_getElem? (i := 1315) (by decide +kernel), List.mem_of_getElem? (i := 1316) (by decide +kernel)⟩
theorem lw_p50 : lw_okq (⟨"StatueReliefModel", "four", "(I)V"⟩, 60) := ⟨⟨by decide +kernel, by decide +kernel⟩, List.mem_of_getElem? (i := 998) (by decide +kernel), List.mem_of_getElem? (i := 1331) (by decide +kernel), List.mem_of_getElem? (i := 1332) (by decide +kernel)⟩
theorem lw_p51 : lw_okq (⟨"StatueReliefModel", "beginText", "(Z)V"⟩, 60) := ⟨⟨by decide +kernel, by decide +kernel⟩, List.mem_of_getElem? (i := 998) (by decide +kernel), List.mem_of_getElem? (i := 1347) (by decide +kernel), List.mem_of_getElem? (i := 1348) (by decide +kernel)⟩
theorem lw_p52 : lw_okq (⟨"StatueReliefModel", "begin", "()V"⟩, 60) := ⟨⟨by decide +kernel, by decide +kernel⟩, List.mem_of_getElem? (i := 998) (by decide +kernel), List.mem_of_getElem? (i := 1351) (by decide +kernel), List.mem_of_getElem? (i := 1352) (by decide +kernel)⟩
theorem lw_p53 : lw_okq (⟨"StatueReliefModel", "next", "()V"⟩, 60) := ⟨⟨by decide +kernel, by decide +kernel⟩, List.mem_of_getElem? (i := 998) (by decide +kernel), List.mem_of_getElem? (i := 1355) (by decide +kernel), List.mem_of_getElem? (i := 1356) (by decide +kernel)⟩
theorem lw_p54 : lw_okq (⟨"StatueReliefModel", "readLaw", "()V"⟩, 60) := ⟨⟨by decide +kernel, by decide +kernel⟩, List.mem_of_getElem? (i := 998) (by decide +kernel), List.mem_of_getElem? (i := 1369) (by decide +kernel), List.mem_of_getElem? (i := 1370) (by decide +kernel)⟩
theorem lw_p55 : lw_okq (⟨"StatueReliefModel", "isWord", "(J)Z"⟩, 60) := ⟨⟨by decide +kernel, by decide +kernel⟩, List.mem_of_getElem? (i := 998) (by decide +kernel), List.mem_of_getElem? (i := 1373) (by decide +kernel), List.mem_of_getElem? (i := 1374) (by decide +kernel)⟩
theorem lw_p56 : lw_okq (⟨"StatueReliefModel", "must", "(Z)V"⟩, 60) := ⟨⟨by decide +kernel, by decide +kernel⟩, List.mem_of_getElem? (i := 998) (by decide +kernel), List.mem_of_getElem? (i := 1377) (by decide +kernel), List.mem_of_getElem? (i := 1378) (by decide +kernel)⟩
theorem lw_p57 : lw_okq (⟨"StatueReliefModel", "readExpression", "(Z)V"⟩, 60) := ⟨⟨by decide +kernel, by decide +kernel⟩, List.mem_of_getElem? (i := 998) (by decide +kernel), List.mem_of_getElem? (i := 1381) (by decide +kernel), List.mem_of_getElem? (i := 1382) (by decide +kernel)⟩
theorem lw_p58 : lw_okq (⟨"StatueReliefModel", "readPlain", "()I"⟩, 60) := ⟨⟨by decide +kernel, by decide +kernel⟩, List.mem_of_getElem? (i := 998) (by decide +kernel), List.mem_of_getElem? (i := 1385) (by decide +kernel), List.mem_of_getElem? (i := 1386) (by decide +kernel)⟩
theorem lw_p59 : lw_okq (⟨"StatueReliefModel", "push", "(II)V"⟩, 60) := ⟨⟨by decide +kernel, by decide +kernel⟩, List.mem_of_getElem? (i := 998) (by decide +kernel), List.mem_of_getElem? (i := 1390) (by decide +kernel), List.mem_of_getElem? (i := 1391) (by decide +kernel)⟩
theorem lw_p60 : lw_okq (⟨"StatueReliefModel", "isSign", "(I)Z"⟩, 60) := ⟨⟨by decide +kernel, by decide +kernel⟩, List.mem_of_getElem? (i := 998) (by decide +kernel), List.mem_of_getElem? (i := 1394) (by decide +kernel), List.mem_of_getElem? (i := 1395) (by decide +kernel)⟩
theorem lw_p61 : lw_okq (⟨"StatueReliefModel", "openBracket", "(I)V"⟩, 60) := ⟨⟨by decide +kernel, by decide +kernel⟩, List.mem_of_getElem? (i := 998) (by decide +kernel), List.mem_of_getElem? (i := 1398) (by decide +kernel), List.mem_of_getElem? (i := 1399) (by decide +kernel)⟩
theorem lw_p62 : lw_okq (⟨"StatueReliefModel", "readPart", "()I"⟩, 60) := ⟨⟨by decide +kernel, by decide +kernel⟩, List.mem_of_getElem? (i := 998) (by decide +kernel), List.mem_of_getElem? (i := 1402) (by decide +kernel), List.mem_of_getElem? (i := 1403) (by decide +kernel)⟩
theorem lw_p63 : lw_okq (⟨"StatueReliefModel", "orderPartAt", "()I"⟩, 60) := ⟨⟨by decide +kernel, by decide +kernel⟩, List.mem_of_getElem? (i := 998) (by decide +kernel), List.mem_of_getElem? (i := 1406) (by decide +kernel), List.mem_of_getElem? (i := 1407) (by decide +kernel)⟩
def lw_privs_4 : List (MethodName × Nat) := [(⟨"StatueReliefModel", "noticed", "(II)I"⟩, 60), (⟨"StatueReliefModel", "change", "(II)I"⟩, 60), (⟨"StatueReliefModel", "four", "(I)V"⟩, 60), (⟨"StatueReliefModel", "beginText", "(Z)V"⟩, 60), (⟨"StatueReliefModel", "begin", "()V"⟩, 60), (⟨"StatueReliefModel", "next", "()V"⟩, 60), (⟨"StatueReliefModel", "readLaw", "()V"⟩, 60), (⟨"StatueReliefModel", "isWord", "(J)Z"⟩, 60), (⟨"StatueReliefModel", "must", "(Z)V"⟩, 60), (⟨"StatueReliefModel", "readExpression", "(Z)V"⟩, 60), (⟨"StatueReliefModel", "readPlain", "()I"⟩, 60), (⟨"StatueReliefModel", "push", "(II)V"⟩, 60), (⟨"StatueReliefModel", "isSign", "(I)Z"⟩, 60), (⟨"StatueReliefModel", "openBracket", "(I)V"⟩, 60), (⟨"StatueReliefModel", "readPart", "()I"⟩, 60), (⟨"StatueReliefModel", "orderPartAt", "()I"⟩, 60)]
theorem lw_r4 : ∀ q ∈ lw_privs_4, lw_okq q := List.forall_mem_cons.mpr ⟨lw_p48, List.forall_mem_cons.mpr ⟨lw_p49, List.forall_mem_cons.mpr ⟨lw_p50, List.forall_mem_cons.mpr ⟨lw_p51, List.forall_mem_cons.mpr ⟨lw_p52, List.forall_mem_cons.mpr ⟨lw_p53, List.forall_mem_cons.mpr ⟨lw_p54, List.forall_mem_cons.mpr ⟨lw_p55, List.forall_mem_cons.mpr ⟨lw_p56, List.forall_mem_cons.mpr ⟨lw_p57, List.forall_mem_cons.mpr ⟨lw_p58, List.forall_mem_cons.mpr ⟨lw_p59, List.forall_mem_cons.mpr ⟨lw_p60, List.forall_mem_cons.mpr ⟨lw_p61, List.forall_mem_cons.mpr ⟨lw_p62, List.forall_mem_cons.mpr ⟨lw_p63, fun _ h => absurd h List.not_mem_nil⟩⟩⟩⟩⟩⟩⟩⟩⟩⟩⟩⟩⟩⟩⟩⟩
theorem lw_p64 : lw_okq (⟨"StatueReliefModel", "partAt", "()I"⟩, 60) := ⟨⟨by decide +kernel, by decide +kernel⟩, List.mem_of_getElem? (i := 998) (by decide +kernel), List.mem_of_getElem? (i := 1410) (by decide +kernel), List.mem_of_getElem? (i := 1411) (by decide +kernel)⟩
theorem lw_p65 : lw_okq (⟨"StatueReliefModel", "leaf", "(ZII)V"⟩, 60) := ⟨⟨by decide +kernel, by decide +kernel⟩, List.mem_of_getElem? (i := 998) (by decide +kernel), List.mem_of_getElem? (i := 1415) (by decide +kernel), List.mem_of_getElem? (i := 1416) (by decide +kernel)⟩
theorem lw_p66 : lw_okq (⟨"StatueReliefModel", "emit", "(II)V"⟩, 60) := ⟨⟨by decide +kernel, by decide +kernel⟩, List.mem_of_getElem? (i := 998) (by decide +kernel), List.mem_of_getElem? (i := 1419) (by decide +kernel), List.mem_of_getElem? (i := 1420) (by decide +kernel)⟩
theorem lw_p67 : lw_okq (⟨"StatueReliefModel", "number", "(JJ)I"⟩, 60) := ⟨⟨by decide +kernel, by decide +kernel⟩, List.mem_of_getElem? (i := 998) (by decide +kernel), List.mem_of_getElem? (i := 1424) (by decide +kernel), List.mem_of_getElem? (i := 1425) (by decide +kernel)⟩
theorem lw_p68 : lw_okq (⟨"StatueReliefModel", "behindSum", "(Z)I"⟩, 60) := ⟨⟨by decide +kernel, by decide +kernel⟩, List.mem_of_getElem? (i := 998) (by decide +kernel), List.mem_of_getElem? (i := 1428) (by decide +kernel), List.mem_of_getElem? (i := 1429) (by decide +kernel)⟩
theorem lw_p69 : lw_okq (⟨"StatueReliefModel", "settle", "(I)V"⟩, 60) := ⟨⟨by decide +kernel, by decide +kernel⟩, List.mem_of_getElem? (i := 998) (by decide +kernel), List.mem_of_getElem? (i := 1435) (by decide +kernel), List.mem_of_getElem? (i := 1436) (by decide +kernel)⟩
theorem lw_p70 : lw_okq (⟨"StatueReliefModel", "inner", "()I"⟩, 60) := ⟨⟨by decide +kernel, by decide +kernel⟩, List.mem_of_getElem? (i := 998) (by decide +kernel), List.mem_of_getElem? (i := 1439) (by decide +kernel), List.mem_of_getElem? (i := 1440) (by decide +kernel)⟩
theorem lw_p71 : lw_okq (⟨"StatueReliefModel", "isCompared", "()Z"⟩, 60) := ⟨⟨by decide +kernel, by decide +kernel⟩, List.mem_of_getElem? (i := 998) (by decide +kernel), List.mem_of_getElem? (i := 1443) (by decide +kernel), List.mem_of_getElem? (i := 1444) (by decide +kernel)⟩
theorem lw_p72 : lw_okq (⟨"StatueReliefModel", "behindTest", "()I"⟩, 60) := ⟨⟨by decide +kernel, by decide +kernel⟩, List.mem_of_getElem? (i := 998) (by decide +kernel), List.mem_of_getElem? (i := 1451) (by decide +kernel), List.mem_of_getElem? (i := 1452) (by decide +kernel)⟩
theorem lw_p73 : lw_okq (⟨"StatueReliefModel", "endText", "()V"⟩, 60) := ⟨⟨by decide +kernel, by decide +kernel⟩, List.mem_of_getElem? (i := 998) (by decide +kernel), List.mem_of_getElem? (i := 1458) (by decide +kernel), List.mem_of_getElem? (i := 1459) (by decide +kernel)⟩
theorem lw_p74 : lw_okq (⟨"StatueReliefModel", "isLaw", "(I)Z"⟩, 60) := ⟨⟨by decide +kernel, by decide +kernel⟩, List.mem_of_getElem? (i := 998) (by decide +kernel), List.mem_of_getElem? (i := 1466) (by decide +kernel), List.mem_of_getElem? (i := 1467) (by decide +kernel)⟩
theorem lw_p75 : lw_okq (⟨"StatueReliefModel", "relieveNow", "(I)I"⟩, 60) := ⟨⟨by decide +kernel, by decide +kernel⟩, List.mem_of_getElem? (i := 998) (by decide +kernel), List.mem_of_getElem? (i := 1474) (by decide +kernel), List.mem_of_getElem? (i := 1475) (by decide +kernel)⟩
theorem lw_p76 : lw_okq (⟨"StatueReliefModel", "remember", "(I)V"⟩, 60) := ⟨⟨by decide +kernel, by decide +kernel⟩, List.mem_of_getElem? (i := 998) (by decide +kernel), List.mem_of_getElem? (i := 1478) (by decide +kernel), List.mem_of_getElem? (i := 1479) (by decide +kernel)⟩
theorem lw_p77 : lw_okq (⟨"StatueReliefModel", "keepAll", "(I)V"⟩, 60) := ⟨⟨by decide +kernel, by decide +kernel⟩, List.mem_of_getElem? (i := 998) (by decide +kernel), List.mem_of_getElem? (i := 1482) (by decide +kernel), List.mem_of_getElem? (i := 1483) (by decide +kernel)⟩
theorem lw_p78 : lw_okq (⟨"StatueReliefModel", "relieveIt", "(I)I"⟩, 60) := ⟨⟨by decide +kernel, by decide +kernel⟩, List.mem_of_getElem? (i := 998) (by decide +kernel), List.mem_of_getElem? (i := 1486) (by decide +kernel), List.mem_of_getElem? (i := 1487) (by decide +kernel)⟩
theorem lw_p79 : lw_okq (⟨"StatueReliefModel", "sneezeNow", "(I)I"⟩, 60) := ⟨⟨by decide +kernel, by decide +kernel⟩, List.mem_of_getElem? (i := 998) (by decide +kernel), List.mem_of_getElem? (i := 1494) (by decide +kernel), List.mem_of_getElem? (i := 1495) (by decide +kernel)⟩
def lw_privs_5 : List (MethodName × Nat) := [(⟨"StatueReliefModel", "partAt", "()I"⟩, 60), (⟨"StatueReliefModel", "leaf", "(ZII)V"⟩, 60), (⟨"StatueReliefModel", "emit", "(II)V"⟩, 60), (⟨"StatueReliefModel", "number", "(JJ)I"⟩, 60), (⟨"StatueReliefModel", "behindSum", "(Z)I"⟩, 60), (⟨"StatueReliefModel", "settle", "(I)V"⟩, 60), (⟨"StatueReliefModel", "inner", "()I"⟩, 60), (⟨"StatueReliefModel", "isCompared", "()Z"⟩, 60), (⟨"StatueReliefModel", "behindTest", "()I"⟩, 60), (⟨"StatueReliefModel", "endText", "()V"⟩, 60), (⟨"StatueReliefModel", "isLaw", "(I)Z"⟩, 60), (⟨"StatueReliefModel", "relieveNow", "(I)I"⟩, 60), (⟨"StatueReliefModel", "remember", "(I)V"⟩, 60), (⟨"StatueReliefModel", "keepAll", "(I)V"⟩, 60), (⟨"StatueReliefModel", "relieveIt", "(I)I"⟩, 60), (⟨"StatueReliefModel", "sneezeNow", "(I)I"⟩, 60)]
theorem lw_r5 : ∀ q ∈ lw_privs_5, lw_okq q := List.forall_mem_cons.mpr ⟨lw_p64, List.forall_mem_cons.mpr ⟨lw_p65, List.forall_mem_cons.mpr ⟨lw_p66, List.forall_mem_cons.mpr ⟨lw_p67, List.forall_mem_cons.mpr ⟨lw_p68, List.forall_mem_cons.mpr ⟨lw_p69, List.forall_mem_cons.mpr ⟨lw_p70, List.forall_mem_cons.mpr ⟨lw_p71, List.forall_mem_cons.mpr ⟨lw_p72, List.forall_mem_cons.mpr ⟨lw_p73, List.forall_mem_cons.mpr ⟨lw_p74, List.forall_mem_cons.mpr ⟨lw_p75, List.forall_mem_cons.mpr ⟨lw_p76, List.forall_mem_cons.mpr ⟨lw_p77, List.forall_mem_cons.mpr ⟨lw_p78, List.forall_mem_cons.mpr ⟨lw_p79, fun _ h => absurd h List.not_mem_nil⟩⟩⟩⟩⟩⟩⟩⟩⟩⟩⟩⟩⟩⟩⟩⟩
theorem lw_p80 : lw_okq (⟨"StatueReliefModel", "cashier", "(I)V"⟩, 60) := ⟨⟨by decide +kernel, by decide +kernel⟩, List.mem_of_getElem? (i := 998) (by decide +kernel), List.mem_of_getElem? (i := 1498) (by decide +kernel), List.mem_of_getElem? (i := 1499) (by decide +kernel)⟩
theorem lw_p81 : lw_okq (⟨"StatueReliefModel", "fitBits", "()I"⟩, 60) := ⟨⟨by decide +kernel, by decide +kernel⟩, List.mem_of_getElem? (i := 998) (by decide +kernel), List.mem_of_getElem? (i := 1502) (by decide +kernel), List.mem_of_getElem? (i := 1503) (by decide +kernel)⟩
theorem lw_p82 : lw_okq (⟨"StatueReliefModel", "pardonNow", "(I)I"⟩, 60) := ⟨⟨by decide +kernel, by decide +kernel⟩, List.mem_of_getElem? (i := 998) (by decide +kernel), List.mem_of_getElem? (i := 1513) (by decide +kernel), List.mem_of_getElem? (i := 1514) (by decide +kernel)⟩
theorem lw_p83 : lw_okq (⟨"StatueReliefModel", "pardonIt", "(I)V"⟩, 60) := ⟨⟨by decide +kernel, by decide +kernel⟩, List.mem_of_getElem? (i := 998) (by decide +kernel), List.mem_of_getElem? (i := 1517) (by decide +kernel), List.mem_of_getElem? (i := 1518) (by decide +kernel)⟩
theorem lw_p84 : lw_okq (⟨"StatueReliefModel", "passNow", "()I"⟩, 60) := ⟨⟨by decide +kernel, by decide +kernel⟩, List.mem_of_getElem? (i := 998) (by decide +kernel), List.mem_of_getElem? (i := 1525) (by decide +kernel), List.mem_of_getElem? (i := 1526) (by decide +kernel)⟩
theorem lw_p85 : lw_okq (⟨"StatueReliefModel", "passIt", "()I"⟩, 60) := ⟨⟨by decide +kernel, by decide +kernel⟩, List.mem_of_getElem? (i := 998) (by decide +kernel), List.mem_of_getElem? (i := 1529) (by decide +kernel), List.mem_of_getElem? (i := 1530) (by decide +kernel)⟩
theorem lw_p86 : lw_okq (⟨"StatueReliefModel", "layRota", "(I)V"⟩, 60) := ⟨⟨by decide +kernel, by decide +kernel⟩, List.mem_of_getElem? (i := 998) (by decide +kernel), List.mem_of_getElem? (i := 1552) (by decide +kernel), List.mem_of_getElem? (i := 1553) (by decide +kernel)⟩
theorem lw_p87 : lw_okq (⟨"StatueReliefModel", "keepDeep", "(II)V"⟩, 60) := ⟨⟨by decide +kernel, by decide +kernel⟩, List.mem_of_getElem? (i := 998) (by decide +kernel), List.mem_of_getElem? (i := 1556) (by decide +kernel), List.mem_of_getElem? (i := 1557) (by decide +kernel)⟩
theorem lw_p88 : lw_okq (⟨"StatueReliefModel", "putDeep", "(I)V"⟩, 60) := ⟨⟨by decide +kernel, by decide +kernel⟩, List.mem_of_getElem? (i := 998) (by decide +kernel), List.mem_of_getElem? (i := 1560) (by decide +kernel), List.mem_of_getElem? (i := 1561) (by decide +kernel)⟩
theorem lw_p89 : lw_okq (⟨"StatueReliefModel", "tryMan", "(II)Z"⟩, 60) := ⟨⟨by decide +kernel, by decide +kernel⟩, List.mem_of_getElem? (i := 998) (by decide +kernel), List.mem_of_getElem? (i := 1564) (by decide +kernel), List.mem_of_getElem? (i := 1565) (by decide +kernel)⟩
theorem lw_p90 : lw_okq (⟨"StatueReliefModel", "layOrders", "()V"⟩, 60) := ⟨⟨by decide +kernel, by decide +kernel⟩, List.mem_of_getElem? (i := 998) (by decide +kernel), List.mem_of_getElem? (i := 1572) (by decide +kernel), List.mem_of_getElem? (i := 1573) (by decide +kernel)⟩
theorem lw_p91 : lw_okq (⟨"StatueReliefModel", "layNotice", "()V"⟩, 60) := ⟨⟨by decide +kernel, by decide +kernel⟩, List.mem_of_getElem? (i := 998) (by decide +kernel), List.mem_of_getElem? (i := 1576) (by decide +kernel), List.mem_of_getElem? (i := 1577) (by decide +kernel)⟩
theorem lw_p92 : lw_okq (⟨"StatueReliefModel", "canBegin", "(I)Z"⟩, 60) := ⟨⟨by decide +kernel, by decide +kernel⟩, List.mem_of_getElem? (i := 998) (by decide +kernel), List.mem_of_getElem? (i := 1580) (by decide +kernel), List.mem_of_getElem? (i := 1581) (by decide +kernel)⟩
theorem lw_p93 : lw_okq (⟨"StatueReliefModel", "layAway", "(I)V"⟩, 60) := ⟨⟨by decide +kernel, by decide +kernel⟩, List.mem_of_getElem? (i := 998) (by decide +kernel), List.mem_of_getElem? (i := 1588) (by decide +kernel), List.mem_of_getElem? (i := 1589) (by decide +kernel)⟩
theorem lw_p94 : lw_okq (⟨"StatueReliefModel", "links", "(II)Z"⟩, 60) := ⟨⟨by decide +kernel, by decide +kernel⟩, List.mem_of_getElem? (i := 998) (by decide +kernel), List.mem_of_getElem? (i := 1592) (by decide +kernel), List.mem_of_getElem? (i := 1593) (by decide +kernel)⟩
theorem lw_p95 : lw_okq (⟨"StatueReliefModel", "groupOf", "(II)I"⟩, 60) := ⟨⟨by decide +kernel, by decide +kernel⟩, List.mem_of_getElem? (i := 998) (by decide +kernel), List.mem_of_getElem? (i := 1600) (by decide +kernel), List.mem_of_getElem? (i := 1601) (by decide +kernel)⟩
def lw_privs_6 : List (MethodName × Nat) := [(⟨"StatueReliefModel", "cashier", "(I)V"⟩, 60), (⟨"StatueReliefModel", "fitBits", "()I"⟩, 60), (⟨"StatueReliefModel", "pardonNow", "(I)I"⟩, 60), (⟨"StatueReliefModel", "pardonIt", "(I)V"⟩, 60), (⟨"StatueReliefModel", "passNow", "()I"⟩, 60), (⟨"StatueReliefModel", "passIt", "()I"⟩, 60), (⟨"StatueReliefModel", "layRota", "(I)V"⟩, 60), (⟨"StatueReliefModel", "keepDeep", "(II)V"⟩, 60), (⟨"StatueReliefModel", "putDeep", "(I)V"⟩, 60), (⟨"StatueReliefModel", "tryMan", "(II)Z"⟩, 60), (⟨"StatueReliefModel", "layOrders", "()V"⟩, 60), (⟨"StatueReliefModel", "layNotice", "()V"⟩, 60), (⟨"StatueReliefModel", "canBegin", "(I)Z"⟩, 60), (⟨"StatueReliefModel", "layAway", "(I)V"⟩, 60), (⟨"StatueReliefModel", "links", "(II)Z"⟩, 60), (⟨"StatueReliefModel", "groupOf", "(II)I"⟩, 60)]
theorem lw_r6 : ∀ q ∈ lw_privs_6, lw_okq q := List.forall_mem_cons.mpr ⟨lw_p80, List.forall_mem_cons.mpr ⟨lw_p81, List.forall_mem_cons.mpr ⟨lw_p82, List.forall_mem_cons.mpr ⟨lw_p83, List.forall_mem_cons.mpr ⟨lw_p84, List.forall_mem_cons.mpr ⟨lw_p85, List.forall_mem_cons.mpr ⟨lw_p86, List.forall_mem_cons.mpr ⟨lw_p87, List.forall_mem_cons.mpr ⟨lw_p88, List.forall_mem_cons.mpr ⟨lw_p89, List.forall_mem_cons.mpr ⟨lw_p90, List.forall_mem_cons.mpr ⟨lw_p91, List.forall_mem_cons.mpr ⟨lw_p92, List.forall_mem_cons.mpr ⟨lw_p93, List.forall_mem_cons.mpr ⟨lw_p94, List.forall_mem_cons.mpr ⟨lw_p95, fun _ h => absurd h List.not_mem_nil⟩⟩⟩⟩⟩⟩⟩⟩⟩⟩⟩⟩⟩⟩⟩⟩
theorem lw_p96 : lw_okq (⟨"StatueReliefModel", "thatCanBe", "()I"⟩, 60) := ⟨⟨by decide +kernel, by decide +kernel⟩, List.mem_of_getElem? (i := 998) (by decide +kernel), List.mem_of_getElem? (i := 1624) (by decide +kernel), List.mem_of_getElem? (i := 1625) (by decide +kernel)⟩
theorem lw_p97 : lw_okq (⟨"StatueReliefModel", "readOrder", "()V"⟩, 60) := ⟨⟨by decide +kernel, by decide +kernel⟩, List.mem_of_getElem? (i := 998) (by decide +kernel), List.mem_of_getElem? (i := 1641) (by decide +kernel), List.mem_of_getElem? (i := 1642) (by decide +kernel)⟩
theorem lw_p98 : lw_okq (⟨"StatueReliefModel", "run", "(I)I"⟩, 60) := ⟨⟨by decide +kernel, by decide +kernel⟩, List.mem_of_getElem? (i := 998) (by decide +kernel), List.mem_of_getElem? (i := 1646) (by decide +kernel), List.mem_of_getElem? (i := 1647) (by decide +kernel)⟩
theorem lw_p99 : lw_okq (⟨"StatueReliefModel", "sumOf", "(I)I"⟩, 60) := ⟨⟨by decide +kernel, by decide +kernel⟩, List.mem_of_getElem? (i := 998) (by decide +kernel), List.mem_of_getElem? (i := 1650) (by decide +kernel), List.mem_of_getElem? (i := 1651) (by decide +kernel)⟩
theorem lw_p100 : lw_okq (⟨"StatueReliefModel", "act", "(II)I"⟩, 60) := ⟨⟨by decide +kernel, by decide +kernel⟩, List.mem_of_getElem? (i := 998) (by decide +kernel), List.mem_of_getElem? (i := 1654) (by decide +kernel), List.mem_of_getElem? (i := 1655) (by decide +kernel)⟩
theorem lw_p101 : lw_okq (⟨"StatueReliefModel", "giveBack", "(I)V"⟩, 60) := ⟨⟨by decide +kernel, by decide +kernel⟩, List.mem_of_getElem? (i := 998) (by decide +kernel), List.mem_of_getElem? (i := 1658) (by decide +kernel), List.mem_of_getElem? (i := 1659) (by decide +kernel)⟩
theorem lw_p102 : lw_okq (⟨"StatueReliefModel", "draw", "(I)I"⟩, 60) := ⟨⟨by decide +kernel, by decide +kernel⟩, List.mem_of_getElem? (i := 998) (by decide +kernel), List.mem_of_getElem? (i := 1670) (by decide +kernel), List.mem_of_getElem? (i := 1671) (by decide +kernel)⟩
theorem lw_p103 : lw_okq (⟨"StatueReliefModel", "drawnAct", "(II)V"⟩, 60) := ⟨⟨by decide +kernel, by decide +kernel⟩, List.mem_of_getElem? (i := 998) (by decide +kernel), List.mem_of_getElem? (i := 1677) (by decide +kernel), List.mem_of_getElem? (i := 1678) (by decide +kernel)⟩
def lw_privs_7 : List (MethodName × Nat) := [(⟨"StatueReliefModel", "thatCanBe", "()I"⟩, 60), (⟨"StatueReliefModel", "readOrder", "()V"⟩, 60), (⟨"StatueReliefModel", "run", "(I)I"⟩, 60), (⟨"StatueReliefModel", "sumOf", "(I)I"⟩, 60), (⟨"StatueReliefModel", "act", "(II)I"⟩, 60), (⟨"StatueReliefModel", "giveBack", "(I)V"⟩, 60), (⟨"StatueReliefModel", "draw", "(I)I"⟩, 60), (⟨"StatueReliefModel", "drawnAct", "(II)V"⟩, 60)]
theorem lw_r7 : ∀ q ∈ lw_privs_7, lw_okq q := List.forall_mem_cons.mpr ⟨lw_p96, List.forall_mem_cons.mpr ⟨lw_p97, List.forall_mem_cons.mpr ⟨lw_p98, List.forall_mem_cons.mpr ⟨lw_p99, List.forall_mem_cons.mpr ⟨lw_p100, List.forall_mem_cons.mpr ⟨lw_p101, List.forall_mem_cons.mpr ⟨lw_p102, List.forall_mem_cons.mpr ⟨lw_p103, fun _ h => absurd h List.not_mem_nil⟩⟩⟩⟩⟩⟩⟩⟩
def lw_privs : List (MethodName × Nat) := lw_privs_1 ++ (lw_privs_2 ++ (lw_privs_3 ++ (lw_privs_4 ++ (lw_privs_5 ++ (lw_privs_6 ++ (lw_privs_7))))))
def lw_tbl : List Cond := k2_sels lw_privs ++ tables_1
theorem lw_privs_ok : ∀ q ∈ lw_privs, lw_okq q := by
  show ∀ q ∈ lw_privs_1 ++ (lw_privs_2 ++ (lw_privs_3 ++ (lw_privs_4 ++ (lw_privs_5 ++ (lw_privs_6 ++ (lw_privs_7)))))), lw_okq q
  exact List.forall_mem_append.mpr ⟨lw_r1, List.forall_mem_append.mpr ⟨lw_r2, List.forall_mem_append.mpr ⟨lw_r3, List.forall_mem_append.mpr ⟨lw_r4, List.forall_mem_append.mpr ⟨lw_r5, List.forall_mem_append.mpr ⟨lw_r6, lw_r7⟩⟩⟩⟩⟩⟩
end
section
/-! ===== BEGIN words of one list among another's, by their places ===== -/
theorem goodIn_r {big : List Cond} (ws : List Cond) (ps : List Nat) (hp : ws = ps.filterMap (fun i => big[i]?)) (h : ws.all goodWord = true) : GoodIn big ws := by
  intro w hw
  have h1 := List.all_eq_true.mp h w hw
  rw [hp] at hw
  obtain ⟨i, -, hi⟩ := List.mem_filterMap.mp hw
  have hm : w ∈ big := by first | exact List.mem_of_getElem? hi | exact List.getElem?_mem hi
  exact ⟨hm, good_of_word h1⟩
theorem goodIn_app {big a b : List Cond} (ha : GoodIn big a) (hb : GoodIn big b) : GoodIn big (a ++ b) := fun w h => (List.mem_append.mp h).elim (ha w) (hb w)
theorem goodIn_ca {big a b : List Cond} {c : Cond} (ha : GoodIn big (c :: a)) (hb : GoodIn big b) : GoodIn big (c :: (a ++ b)) := fun w h => (List.mem_cons.mp h).elim (fun e => ha w (List.mem_cons.mpr (Or.inl e))) (fun h => (List.mem_append.mp h).elim (fun h => ha w (List.mem_cons.mpr (Or.inr h))) (hb w))
theorem goodIn_sub {big ws : List Cond} (hm : ∀ w ∈ ws, w ∈ big) (h : ws.all goodWord = true) : GoodIn big ws := fun w hw => ⟨hm w hw, good_of_word (List.all_eq_true.mp h w hw)⟩
/-! ===== END ===== -/

/-! ===== BEGIN printed: names, fields, word lists, decode rows ===== -/
def RX0 : String := "StatueRelief$Book"
def TX0 : u_T := fun k => match k with
  | 0 => ("StatueRelief$Book", "laws", "[LStatueRelief$Program;", true)
  | 1 => ("StatueRelief$Book", "withoutLaw", "LStatueRelief$Program;", true)
  | 2 => ("StatueRelief$Book", "count", "I", false)
  | _ => ("StatueRelief$Book", "force", "I", false)
def tyX0 : Nat → FieldType := fun k => match k with
  | 0 => .array (.object "StatueRelief$Program")
  | 1 => .object "StatueRelief$Program"
  | 2 => .int
  | _ => .int
abbrev wsX00 : List Cond := u_ws RX0 TX0 4
theorem nmX0 : ∀ a, a < 4 → ∀ b, b < 4 → a ≠ b → (TX0 a).2.1 ≠ (TX0 b).2.1 := by decide +kernel
theorem tyX0_ok : ∀ k, k < 4 → parseFieldDescriptor (TX0 k).2.2.1 = some (tyX0 k) := by decide +kernel
abbrev cX0_init : ByteArray := prog_2_method_1_code
def yX0_init : MethodName := ⟨RX0, "<init>", "()V"⟩
abbrev cX0_copyFrom : ByteArray := prog_2_method_2_code
def yX0_copyFrom : MethodName := ⟨RX0, "copyFrom", "(LStatueRelief$Book;)V"⟩
abbrev cX0_isLawOrNone : ByteArray := prog_2_method_3_code
def yX0_isLawOrNone : MethodName := ⟨RX0, "isLawOrNone", "(I)Z"⟩
abbrev cX0_lawOrNone : ByteArray := prog_2_method_4_code
def yX0_lawOrNone : MethodName := ⟨RX0, "lawOrNone", "(I)LStatueRelief$Program;"⟩
abbrev cX0_inForce : ByteArray := prog_2_method_5_code
def yX0_inForce : MethodName := ⟨RX0, "inForce", "()LStatueRelief$Program;"⟩
def RX1 : String := "StatueRelief$Desk"
def TX1 : u_T := fun k => match k with
  | 0 => ("StatueRelief$Desk", "now", "LStatueRelief$Standing;", true)
  | 1 => ("StatueRelief$Desk", "post", "LStatueRelief$Post;", true)
  | 2 => ("StatueRelief$Desk", "machine", "LStatueRelief$Machine;", true)
  | 3 => ("StatueRelief$Desk", "ahead", "LStatueRelief$Standing;", true)
  | 4 => ("StatueRelief$Desk", "pastAhead", "LStatueRelief$Past;", true)
  | 5 => ("StatueRelief$Desk", "past", "LStatueRelief$Past;", true)
  | 6 => ("StatueRelief$Desk", "text", "LStatueRelief$Program;", true)
  | 7 => ("StatueRelief$Desk", "done", "I", false)
  | 8 => ("StatueRelief$Desk", "latest", "I", false)
  | _ => ("StatueRelief$Desk", "stoppedAt", "I", false)
def tyX1 : Nat → FieldType := fun k => match k with
  | 0 => .object "StatueRelief$Standing"
  | 1 => .object "StatueRelief$Post"
  | 2 => .object "StatueRelief$Machine"
  | 3 => .object "StatueRelief$Standing"
  | 4 => .object "StatueRelief$Past"
  | 5 => .object "StatueRelief$Past"
  | 6 => .object "StatueRelief$Program"
  | 7 => .int
  | 8 => .int
  | _ => .int
abbrev wsX10 : List Cond := u_ws RX1 TX1 10
theorem nmX1 : ∀ a, a < 10 → ∀ b, b < 10 → a ≠ b → (TX1 a).2.1 ≠ (TX1 b).2.1 := by decide +kernel
theorem tyX1_ok : ∀ k, k < 10 → parseFieldDescriptor (TX1 k).2.2.1 = some (tyX1 k) := by decide +kernel
abbrev cX1_init : ByteArray := prog_3_method_1_code
def yX1_init : MethodName := ⟨RX1, "<init>", "(LStatueRelief$Standing;LStatueRelief$Post;)V"⟩
abbrev cX1_act : ByteArray := prog_3_method_2_code
def yX1_act : MethodName := ⟨RX1, "act", "(II)I"⟩
abbrev cX1_run : ByteArray := prog_3_method_3_code
def yX1_run : MethodName := ⟨RX1, "run", "()I"⟩
abbrev cX1_runOnce : ByteArray := prog_3_method_4_code
def yX1_runOnce : MethodName := ⟨RX1, "runOnce", "(I)Z"⟩
abbrev cX1_setWords : ByteArray := prog_3_method_5_code
def yX1_setWords : MethodName := ⟨RX1, "setWords", "()V"⟩
def RX2 : String := "StatueRelief$Machine"
def TX2 : u_T := fun k => match k with
  | 0 => ("StatueRelief$Machine", "words", "[I", true)
  | 1 => ("StatueRelief$Machine", "stack", "[I", true)
  | 2 => ("StatueRelief$Machine", "top", "I", false)
  | _ => ("StatueRelief$Machine", "value", "I", false)
def tyX2 : Nat → FieldType := fun k => match k with
  | 0 => .array .int
  | 1 => .array .int
  | 2 => .int
  | _ => .int
abbrev wsX20 : List Cond := u_ws RX2 TX2 4
theorem nmX2 : ∀ a, a < 4 → ∀ b, b < 4 → a ≠ b → (TX2 a).2.1 ≠ (TX2 b).2.1 := by decide +kernel
theorem tyX2_ok : ∀ k, k < 4 → parseFieldDescriptor (TX2 k).2.2.1 = some (tyX2 k) := by decide +kernel
abbrev cX2_init : ByteArray := prog_4_method_1_code
def yX2_init : MethodName := ⟨RX2, "<init>", "()V"⟩
abbrev cX2_works : ByteArray := prog_4_method_2_code
def yX2_works : MethodName := ⟨RX2, "works", "(LStatueRelief$Program;I)Z"⟩
abbrev cX2_join : ByteArray := prog_4_method_3_code
def yX2_join : MethodName := ⟨RX2, "join", "(I)Z"⟩
def RX3 : String := "StatueRelief$Pairs"
def TX3 : u_T := fun k => match k with
  | 0 => ("StatueRelief$Pairs", "post", "LStatueRelief$Post;", true)
  | 1 => ("StatueRelief$Pairs", "eyes", "[I", true)
  | 2 => ("StatueRelief$Pairs", "looked", "Z", false)
  | 3 => ("StatueRelief$Pairs", "row", "[I", true)
  | 4 => ("StatueRelief$Pairs", "leastRow", "[I", true)
  | 5 => ("StatueRelief$Pairs", "leastEyes", "I", false)
  | 6 => ("StatueRelief$Pairs", "arranged", "Z", false)
  | _ => ("StatueRelief$Pairs", "steps", "[I", true)
def tyX3 : Nat → FieldType := fun k => match k with
  | 0 => .object "StatueRelief$Post"
  | 1 => .array .int
  | 2 => .boolean
  | 3 => .array .int
  | 4 => .array .int
  | 5 => .int
  | 6 => .boolean
  | _ => .array .int
abbrev wsX30 : List Cond := u_ws RX3 TX3 8
theorem nmX3 : ∀ a, a < 8 → ∀ b, b < 8 → a ≠ b → (TX3 a).2.1 ≠ (TX3 b).2.1 := by decide +kernel
theorem tyX3_ok : ∀ k, k < 8 → parseFieldDescriptor (TX3 k).2.2.1 = some (tyX3 k) := by decide +kernel
abbrev cX3_init : ByteArray := prog_5_method_1_code
def yX3_init : MethodName := ⟨RX3, "<init>", "(LStatueRelief$Post;)V"⟩
abbrev cX3_lookAtAll : ByteArray := prog_5_method_2_code
def yX3_lookAtAll : MethodName := ⟨RX3, "lookAtAll", "(LStatueRelief$Standing;)V"⟩
abbrev cX3_arrange : ByteArray := prog_5_method_3_code
def yX3_arrange : MethodName := ⟨RX3, "arrange", "(LStatueRelief$Standing;)V"⟩
abbrev cX3_place : ByteArray := prog_5_method_4_code
def yX3_place : MethodName := ⟨RX3, "place", "(LStatueRelief$Standing;III)V"⟩
abbrev cX3_measure : ByteArray := prog_5_method_5_code
def yX3_measure : MethodName := ⟨RX3, "measure", "(LStatueRelief$Standing;I)V"⟩
abbrev cX3_nextTo : ByteArray := prog_5_method_6_code
def yX3_nextTo : MethodName := ⟨RX3, "nextTo", "(LStatueRelief$Standing;II)I"⟩
abbrev cX3_along : ByteArray := prog_5_method_7_code
def yX3_along : MethodName := ⟨RX3, "along", "(LStatueRelief$Standing;II)I"⟩
def RX4 : String := "StatueRelief$Past"
def TX4 : u_T := fun k => match k with
  | 0 => ("StatueRelief$Past", "rows", "[I", true)
  | _ => ("StatueRelief$Past", "count", "I", false)
def tyX4 : Nat → FieldType := fun k => match k with
  | 0 => .array .int
  | _ => .int
abbrev wsX40 : List Cond := u_ws RX4 TX4 2
theorem nmX4 : ∀ a, a < 2 → ∀ b, b < 2 → a ≠ b → (TX4 a).2.1 ≠ (TX4 b).2.1 := by decide +kernel
theorem tyX4_ok : ∀ k, k < 2 → parseFieldDescriptor (TX4 k).2.2.1 = some (tyX4 k) := by decide +kernel
abbrev cX4_init : ByteArray := prog_6_method_1_code
def yX4_init : MethodName := ⟨RX4, "<init>", "()V"⟩
abbrev cX4_clear : ByteArray := prog_6_method_2_code
def yX4_clear : MethodName := ⟨RX4, "clear", "()V"⟩
abbrev cX4_copyFrom : ByteArray := prog_6_method_3_code
def yX4_copyFrom : MethodName := ⟨RX4, "copyFrom", "(LStatueRelief$Past;)V"⟩
abbrev cX4_keep : ByteArray := prog_6_method_4_code
def yX4_keep : MethodName := ⟨RX4, "keep", "(ILStatueRelief$Standing;)V"⟩
abbrev cX4_takeBack : ByteArray := prog_6_method_5_code
def yX4_takeBack : MethodName := ⟨RX4, "takeBack", "(LStatueRelief$Standing;)I"⟩
def RX5 : String := "StatueRelief$Post"
def TX5 : u_T := fun k => match k with
  | 0 => ("StatueRelief$Post", "book", "LStatueRelief$Book;", true)
  | _ => ("StatueRelief$Post", "machine", "LStatueRelief$Machine;", true)
def tyX5 : Nat → FieldType := fun k => match k with
  | 0 => .object "StatueRelief$Book"
  | _ => .object "StatueRelief$Machine"
abbrev wsX50 : List Cond := u_ws RX5 TX5 2
theorem nmX5 : ∀ a, a < 2 → ∀ b, b < 2 → a ≠ b → (TX5 a).2.1 ≠ (TX5 b).2.1 := by decide +kernel
theorem tyX5_ok : ∀ k, k < 2 → parseFieldDescriptor (TX5 k).2.2.1 = some (tyX5 k) := by decide +kernel
abbrev cX5_init : ByteArray := prog_7_method_1_code
def yX5_init : MethodName := ⟨RX5, "<init>", "(LStatueRelief$Book;)V"⟩
abbrev cX5_told : ByteArray := prog_7_method_2_code
def yX5_told : MethodName := ⟨RX5, "told", "(LStatueRelief$Program;ILStatueRelief$Standing;II)I"⟩
abbrev cX5_setWords : ByteArray := prog_7_method_3_code
def yX5_setWords : MethodName := ⟨RX5, "setWords", "(LStatueRelief$Standing;III)V"⟩
abbrev cX5_can : ByteArray := prog_7_method_4_code
def yX5_can : MethodName := ⟨RX5, "can", "(ILStatueRelief$Standing;I)Z"⟩
abbrev cX5_move : ByteArray := prog_7_method_5_code
def yX5_move : MethodName := ⟨RX5, "move", "(ILStatueRelief$Standing;I)I"⟩
abbrev cX5_goUp : ByteArray := prog_7_method_6_code
def yX5_goUp : MethodName := ⟨RX5, "goUp", "(LStatueRelief$Standing;I)V"⟩
abbrev cX5_cashier : ByteArray := prog_7_method_7_code
def yX5_cashier : MethodName := ⟨RX5, "cashier", "(LStatueRelief$Standing;I)V"⟩
abbrev cX5_hour : ByteArray := prog_7_method_8_code
def yX5_hour : MethodName := ⟨RX5, "hour", "(LStatueRelief$Standing;)I"⟩
abbrev cX5_wouldShake : ByteArray := prog_7_method_9_code
def yX5_wouldShake : MethodName := ⟨RX5, "wouldShake", "(LStatueRelief$Standing;)Z"⟩
def RX6 : String := "StatueRelief$Program"
def TX6 : u_T := fun k => match k with
  | 0 => ("StatueRelief$Program", "steps", "[I", true)
  | 1 => ("StatueRelief$Program", "kind", "[I", true)
  | 2 => ("StatueRelief$Program", "sumAt", "[I", true)
  | 3 => ("StatueRelief$Program", "testAt", "[I", true)
  | 4 => ("StatueRelief$Program", "times", "[I", true)
  | 5 => ("StatueRelief$Program", "clauses", "I", false)
  | _ => ("StatueRelief$Program", "length", "I", false)
def tyX6 : Nat → FieldType := fun k => match k with
  | 0 => .array .int
  | 1 => .array .int
  | 2 => .array .int
  | 3 => .array .int
  | 4 => .array .int
  | 5 => .int
  | _ => .int
abbrev wsX60 : List Cond := u_ws RX6 TX6 7
theorem nmX6 : ∀ a, a < 7 → ∀ b, b < 7 → a ≠ b → (TX6 a).2.1 ≠ (TX6 b).2.1 := by decide +kernel
theorem tyX6_ok : ∀ k, k < 7 → parseFieldDescriptor (TX6 k).2.2.1 = some (tyX6 k) := by decide +kernel
abbrev cX6_init : ByteArray := prog_8_method_1_code
def yX6_init : MethodName := ⟨RX6, "<init>", "(II)V"⟩
abbrev cX6_copyFrom : ByteArray := prog_8_method_2_code
def yX6_copyFrom : MethodName := ⟨RX6, "copyFrom", "(LStatueRelief$Program;)V"⟩
abbrev cX6_open : ByteArray := prog_8_method_3_code
def yX6_open : MethodName := ⟨RX6, "open", "(I)Z"⟩
abbrev cX6_put : ByteArray := prog_8_method_4_code
def yX6_put : MethodName := ⟨RX6, "put", "(II)Z"⟩
abbrev cX6_closeSkip : ByteArray := prog_8_method_5_code
def yX6_closeSkip : MethodName := ⟨RX6, "closeSkip", "(I)V"⟩
def RX7 : String := "StatueRelief$Reader"
def TX7 : u_T := fun k => match k with
  | 0 => ("StatueRelief$Reader", "text", "[I", true)
  | 1 => ("StatueRelief$Reader", "length", "I", false)
  | 2 => ("StatueRelief$Reader", "isOrders", "Z", false)
  | 3 => ("StatueRelief$Reader", "program", "LStatueRelief$Program;", false)
  | 4 => ("StatueRelief$Reader", "at", "I", false)
  | 5 => ("StatueRelief$Reader", "behind", "I", false)
  | 6 => ("StatueRelief$Reader", "token", "I", false)
  | _ => ("StatueRelief$Reader", "parts", "I", false)
def tyX7 : Nat → FieldType := fun k => match k with
  | 0 => .array .int
  | 1 => .int
  | 2 => .boolean
  | 3 => .object "StatueRelief$Program"
  | 4 => .int
  | 5 => .int
  | 6 => .int
  | _ => .int
abbrev wsX70 : List Cond := u_ws RX7 TX7 8
theorem nmX7 : ∀ a, a < 8 → ∀ b, b < 8 → a ≠ b → (TX7 a).2.1 ≠ (TX7 b).2.1 := by decide +kernel
theorem tyX7_ok : ∀ k, k < 8 → parseFieldDescriptor (TX7 k).2.2.1 = some (tyX7 k) := by decide +kernel
abbrev cX7_init : ByteArray := prog_9_method_1_code
def yX7_init : MethodName := ⟨RX7, "<init>", "([ILStatueRelief$Program;)V"⟩
abbrev cX7_faultOf : ByteArray := prog_9_method_2_code
def yX7_faultOf : MethodName := ⟨RX7, "faultOf", "(ILStatueRelief$Program;Z)I"⟩
abbrev cX7_clause : ByteArray := prog_9_method_3_code
def yX7_clause : MethodName := ⟨RX7, "clause", "()Z"⟩
abbrev cX7_test : ByteArray := prog_9_method_4_code
def yX7_test : MethodName := ⟨RX7, "test", "(I)Z"⟩
abbrev cX7_both : ByteArray := prog_9_method_5_code
def yX7_both : MethodName := ⟨RX7, "both", "(I)Z"⟩
abbrev cX7_plain : ByteArray := prog_9_method_6_code
def yX7_plain : MethodName := ⟨RX7, "plain", "(I)Z"⟩
abbrev cX7_sum : ByteArray := prog_9_method_7_code
def yX7_sum : MethodName := ⟨RX7, "sum", "(I)Z"⟩
abbrev cX7_term : ByteArray := prog_9_method_8_code
def yX7_term : MethodName := ⟨RX7, "term", "(I)Z"⟩
abbrev cX7_part : ByteArray := prog_9_method_9_code
def yX7_part : MethodName := ⟨RX7, "part", "(I)Z"⟩
abbrev cX7_number : ByteArray := prog_9_method_10_code
def yX7_number : MethodName := ⟨RX7, "number", "()Z"⟩
abbrev cX7_word : ByteArray := prog_9_method_11_code
def yX7_word : MethodName := ⟨RX7, "word", "()Z"⟩
abbrev cX7_advance : ByteArray := prog_9_method_12_code
def yX7_advance : MethodName := ⟨RX7, "advance", "()V"⟩
abbrev cX7_kindAt : ByteArray := prog_9_method_13_code
def yX7_kindAt : MethodName := ⟨RX7, "kindAt", "(I)I"⟩
abbrev cX7_isSign : ByteArray := prog_9_method_14_code
def yX7_isSign : MethodName := ⟨RX7, "isSign", "(C)Z"⟩
abbrev cX7_wordIn : ByteArray := prog_9_method_15_code
def yX7_wordIn : MethodName := ⟨RX7, "wordIn", "(Ljava/lang/String;)I"⟩
abbrev cX7_numberOf : ByteArray := prog_9_method_16_code
def yX7_numberOf : MethodName := ⟨RX7, "numberOf", "(II)I"⟩
def RX8 : String := "StatueRelief$Rota"
def TX8 : u_T := fun k => match k with
  | 0 => ("StatueRelief$Rota", "post", "LStatueRelief$Post;", true)
  | 1 => ("StatueRelief$Rota", "standings", "[LStatueRelief$Standing;", true)
  | 2 => ("StatueRelief$Rota", "row", "[I", true)
  | 3 => ("StatueRelief$Rota", "leastRow", "[I", true)
  | 4 => ("StatueRelief$Rota", "leastEyes", "I", false)
  | 5 => ("StatueRelief$Rota", "found", "Z", false)
  | _ => ("StatueRelief$Rota", "plannedHours", "I", false)
def tyX8 : Nat → FieldType := fun k => match k with
  | 0 => .object "StatueRelief$Post"
  | 1 => .array (.object "StatueRelief$Standing")
  | 2 => .array .int
  | 3 => .array .int
  | 4 => .int
  | 5 => .boolean
  | _ => .int
abbrev wsX80 : List Cond := u_ws RX8 TX8 7
theorem nmX8 : ∀ a, a < 7 → ∀ b, b < 7 → a ≠ b → (TX8 a).2.1 ≠ (TX8 b).2.1 := by decide +kernel
theorem tyX8_ok : ∀ k, k < 7 → parseFieldDescriptor (TX8 k).2.2.1 = some (tyX8 k) := by decide +kernel
abbrev cX8_init : ByteArray := prog_10_method_1_code
def yX8_init : MethodName := ⟨RX8, "<init>", "(LStatueRelief$Post;)V"⟩
abbrev cX8_plan : ByteArray := prog_10_method_2_code
def yX8_plan : MethodName := ⟨RX8, "plan", "(LStatueRelief$Standing;I)V"⟩
abbrev cX8_search : ByteArray := prog_10_method_3_code
def yX8_search : MethodName := ⟨RX8, "search", "(II)V"⟩
abbrev cX8_eyesFor : ByteArray := prog_10_method_4_code
def yX8_eyesFor : MethodName := ⟨RX8, "eyesFor", "(LStatueRelief$Standing;I)I"⟩
abbrev cX8_shakes : ByteArray := prog_10_method_5_code
def yX8_shakes : MethodName := ⟨RX8, "shakes", "(LStatueRelief$Standing;I)Z"⟩
abbrev cX8_goOn : ByteArray := prog_10_method_6_code
def yX8_goOn : MethodName := ⟨RX8, "goOn", "(LStatueRelief$Standing;ILStatueRelief$Standing;)V"⟩
def RX9 : String := "StatueRelief$Standing"
def TX9 : u_T := fun k => match k with
  | 0 => ("StatueRelief$Standing", "hold", "[I", true)
  | 1 => ("StatueRelief$Standing", "look", "[I", true)
  | 2 => ("StatueRelief$Standing", "tired", "[I", true)
  | 3 => ("StatueRelief$Standing", "terms", "[I", true)
  | 4 => ("StatueRelief$Standing", "men", "I", false)
  | 5 => ("StatueRelief$Standing", "cashiered", "I", false)
  | 6 => ("StatueRelief$Standing", "up", "I", false)
  | 7 => ("StatueRelief$Standing", "held", "I", false)
  | 8 => ("StatueRelief$Standing", "plates", "I", false)
  | 9 => ("StatueRelief$Standing", "plateHas", "I", false)
  | _ => ("StatueRelief$Standing", "plateLacks", "I", false)
def tyX9 : Nat → FieldType := fun k => match k with
  | 0 => .array .int
  | 1 => .array .int
  | 2 => .array .int
  | 3 => .array .int
  | 4 => .int
  | 5 => .int
  | 6 => .int
  | 7 => .int
  | 8 => .int
  | 9 => .int
  | _ => .int
abbrev wsX90 : List Cond := u_ws RX9 TX9 11
theorem nmX9 : ∀ a, a < 11 → ∀ b, b < 11 → a ≠ b → (TX9 a).2.1 ≠ (TX9 b).2.1 := by decide +kernel
theorem tyX9_ok : ∀ k, k < 11 → parseFieldDescriptor (TX9 k).2.2.1 = some (tyX9 k) := by decide +kernel
abbrev cX9_init : ByteArray := prog_11_method_1_code
def yX9_init : MethodName := ⟨RX9, "<init>", "()V"⟩
abbrev cX9_copyFrom : ByteArray := prog_11_method_2_code
def yX9_copyFrom : MethodName := ⟨RX9, "copyFrom", "(LStatueRelief$Standing;)V"⟩
abbrev cX9_copyMoving : ByteArray := prog_11_method_3_code
def yX9_copyMoving : MethodName := ⟨RX9, "copyMoving", "(LStatueRelief$Standing;)V"⟩
abbrev cX9_isMan : ByteArray := prog_11_method_4_code
def yX9_isMan : MethodName := ⟨RX9, "isMan", "(I)Z"⟩
abbrev cX9_isCashiered : ByteArray := prog_11_method_5_code
def yX9_isCashiered : MethodName := ⟨RX9, "isCashiered", "(I)Z"⟩
abbrev cX9_fit : ByteArray := prog_11_method_6_code
def yX9_fit : MethodName := ⟨RX9, "fit", "()I"⟩
abbrev cX9_add : ByteArray := prog_11_method_7_code
def yX9_add : MethodName := ⟨RX9, "add", "(II)I"⟩
abbrev cX9_unlike : ByteArray := prog_11_method_8_code
def yX9_unlike : MethodName := ⟨RX9, "unlike", "(II)I"⟩
abbrev cX9_groupOf : ByteArray := prog_11_method_9_code
def yX9_groupOf : MethodName := ⟨RX9, "groupOf", "(II)I"⟩
abbrev cX9_alike : ByteArray := prog_11_method_10_code
def yX9_alike : MethodName := ⟨RX9, "alike", "(II)I"⟩
abbrev cX9_groupCount : ByteArray := prog_11_method_11_code
def yX9_groupCount : MethodName := ⟨RX9, "groupCount", "(I)I"⟩
abbrev cX9_possible : ByteArray := prog_11_method_12_code
def yX9_possible : MethodName := ⟨RX9, "possible", "()I"⟩
abbrev cX9_leftAtMost : ByteArray := prog_11_method_13_code
def yX9_leftAtMost : MethodName := ⟨RX9, "leftAtMost", "(II)I"⟩
def RX10 : String := "StatueRelief"
def TX10 : u_T := fun k => match k with
  | 0 => ("StatueRelief", "now", "LStatueRelief$Standing;", true)
  | 1 => ("StatueRelief", "book", "LStatueRelief$Book;", true)
  | 2 => ("StatueRelief", "post", "LStatueRelief$Post;", true)
  | 3 => ("StatueRelief", "desk", "LStatueRelief$Desk;", true)
  | 4 => ("StatueRelief", "rotas", "LStatueRelief$Rota;", true)
  | 5 => ("StatueRelief", "pairs", "LStatueRelief$Pairs;", true)
  | 6 => ("StatueRelief", "paper", "LStatueRelief$Standing;", true)
  | 7 => ("StatueRelief", "drawnStanding", "LStatueRelief$Standing;", true)
  | 8 => ("StatueRelief", "anyDrawn", "Z", false)
  | 9 => ("StatueRelief", "imageStandings", "[LStatueRelief$Standing;", true)
  | 10 => ("StatueRelief", "imageBooks", "[LStatueRelief$Book;", true)
  | 11 => ("StatueRelief", "tape", "[I", true)
  | 12 => ("StatueRelief", "tapeLength", "I", false)
  | 13 => ("StatueRelief", "reader", "LStatueRelief$Reader;", true)
  | 14 => ("StatueRelief", "chances", "[J", true)
  | 15 => ("StatueRelief", "pigeonCount", "I", false)
  | 16 => ("StatueRelief", "faultPlace", "I", false)
  | 17 => ("StatueRelief", "refusals", "[I", true)
  | _ => ("StatueRelief", "latestRefusal", "I", false)
def tyX10 : Nat → FieldType := fun k => match k with
  | 0 => .object "StatueRelief$Standing"
  | 1 => .object "StatueRelief$Book"
  | 2 => .object "StatueRelief$Post"
  | 3 => .object "StatueRelief$Desk"
  | 4 => .object "StatueRelief$Rota"
  | 5 => .object "StatueRelief$Pairs"
  | 6 => .object "StatueRelief$Standing"
  | 7 => .object "StatueRelief$Standing"
  | 8 => .boolean
  | 9 => .array (.object "StatueRelief$Standing")
  | 10 => .array (.object "StatueRelief$Book")
  | 11 => .array .int
  | 12 => .int
  | 13 => .object "StatueRelief$Reader"
  | 14 => .array .long
  | 15 => .int
  | 16 => .int
  | 17 => .array .int
  | _ => .int
abbrev wsX100 : List Cond := u_ws RX10 TX10 19
theorem nmX10 : ∀ a, a < 19 → ∀ b, b < 19 → a ≠ b → (TX10 a).2.1 ≠ (TX10 b).2.1 := by decide +kernel
theorem tyX10_ok : ∀ k, k < 19 → parseFieldDescriptor (TX10 k).2.2.1 = some (tyX10 k) := by decide +kernel
abbrev cX10_init : ByteArray := prog_1_method_1_code
def yX10_init : MethodName := ⟨RX10, "<init>", "()V"⟩
abbrev cX10_man : ByteArray := prog_1_method_2_code
def yX10_man : MethodName := ⟨RX10, "man", "(II)I"⟩
abbrev cX10_of : ByteArray := prog_1_method_3_code
def yX10_of : MethodName := ⟨RX10, "of", "(II)I"⟩
abbrev cX10_two : ByteArray := prog_1_method_4_code
def yX10_two : MethodName := ⟨RX10, "two", "(III)I"⟩
abbrev cX10_terms : ByteArray := prog_1_method_5_code
def yX10_terms : MethodName := ⟨RX10, "terms", "(II)I"⟩
abbrev cX10_feed : ByteArray := prog_1_method_6_code
def yX10_feed : MethodName := ⟨RX10, "feed", "(IIIII)I"⟩
abbrev cX10_end : ByteArray := prog_1_method_7_code
def yX10_end : MethodName := ⟨RX10, "end", "(I)I"⟩
abbrev cX10_row : ByteArray := prog_1_method_8_code
def yX10_row : MethodName := ⟨RX10, "row", "()I"⟩
abbrev cX10_pigeons : ByteArray := prog_1_method_9_code
def yX10_pigeons : MethodName := ⟨RX10, "pigeons", "()I"⟩
abbrev cX10_law : ByteArray := prog_1_method_10_code
def yX10_law : MethodName := ⟨RX10, "law", "()I"⟩
abbrev cX10_orders : ByteArray := prog_1_method_11_code
def yX10_orders : MethodName := ⟨RX10, "orders", "()I"⟩
abbrev cX10_fault : ByteArray := prog_1_method_12_code
def yX10_fault : MethodName := ⟨RX10, "fault", "()I"⟩
abbrev cX10_stopped : ByteArray := prog_1_method_13_code
def yX10_stopped : MethodName := ⟨RX10, "stopped", "()I"⟩
abbrev cX10_force : ByteArray := prog_1_method_14_code
def yX10_force : MethodName := ⟨RX10, "force", "(I)I"⟩
abbrev cX10_relieve : ByteArray := prog_1_method_15_code
def yX10_relieve : MethodName := ⟨RX10, "relieve", "(I)I"⟩
abbrev cX10_sneeze : ByteArray := prog_1_method_16_code
def yX10_sneeze : MethodName := ⟨RX10, "sneeze", "(I)I"⟩
abbrev cX10_pardon : ByteArray := prog_1_method_17_code
def yX10_pardon : MethodName := ⟨RX10, "pardon", "(I)I"⟩
abbrev cX10_pass : ByteArray := prog_1_method_18_code
def yX10_pass : MethodName := ⟨RX10, "pass", "()I"⟩
abbrev cX10_undo : ByteArray := prog_1_method_19_code
def yX10_undo : MethodName := ⟨RX10, "undo", "()I"⟩
abbrev cX10_holds : ByteArray := prog_1_method_20_code
def yX10_holds : MethodName := ⟨RX10, "holds", "(I)I"⟩
abbrev cX10_later : ByteArray := prog_1_method_21_code
def yX10_later : MethodName := ⟨RX10, "later", "(II)I"⟩
abbrev cX10_moment : ByteArray := prog_1_method_22_code
def yX10_moment : MethodName := ⟨RX10, "moment", "(II)I"⟩
abbrev cX10_rota : ByteArray := prog_1_method_23_code
def yX10_rota : MethodName := ⟨RX10, "rota", "(II)I"⟩
abbrev cX10_order : ByteArray := prog_1_method_24_code
def yX10_order : MethodName := ⟨RX10, "order", "(I)I"⟩
abbrev cX10_chain : ByteArray := prog_1_method_25_code
def yX10_chain : MethodName := ⟨RX10, "chain", "(III)I"⟩
abbrev cX10_groups : ByteArray := prog_1_method_26_code
def yX10_groups : MethodName := ⟨RX10, "groups", "(II)I"⟩
abbrev cX10_likest : ByteArray := prog_1_method_27_code
def yX10_likest : MethodName := ⟨RX10, "likest", "(I)I"⟩
abbrev cX10_plate : ByteArray := prog_1_method_28_code
def yX10_plate : MethodName := ⟨RX10, "plate", "(II)I"⟩
abbrev cX10_forget : ByteArray := prog_1_method_29_code
def yX10_forget : MethodName := ⟨RX10, "forget", "()I"⟩
abbrev cX10_canBe : ByteArray := prog_1_method_30_code
def yX10_canBe : MethodName := ⟨RX10, "canBe", "()I"⟩
abbrev cX10_take : ByteArray := prog_1_method_31_code
def yX10_take : MethodName := ⟨RX10, "take", "(I)I"⟩
abbrev cX10_few : ByteArray := prog_1_method_32_code
def yX10_few : MethodName := ⟨RX10, "few", "(II)J"⟩
abbrev cX10_compare : ByteArray := prog_1_method_33_code
def yX10_compare : MethodName := ⟨RX10, "compare", "(III)I"⟩
abbrev cX10_years : ByteArray := prog_1_method_34_code
def yX10_years : MethodName := ⟨RX10, "years", "(II)I"⟩
abbrev cX10_drawn : ByteArray := prog_1_method_35_code
def yX10_drawn : MethodName := ⟨RX10, "drawn", "(II)I"⟩
abbrev cX10_image : ByteArray := prog_1_method_36_code
def yX10_image : MethodName := ⟨RX10, "image", "(I)I"⟩
abbrev cX10_back : ByteArray := prog_1_method_37_code
def yX10_back : MethodName := ⟨RX10, "back", "(I)I"⟩
abbrev cX10_count : ByteArray := prog_1_method_38_code
def yX10_count : MethodName := ⟨RX10, "count", "(I)I"⟩
abbrev cX10_status : ByteArray := prog_1_method_39_code
def yX10_status : MethodName := ⟨RX10, "status", "()I"⟩
abbrev cX10_canBeMan : ByteArray := prog_1_method_40_code
def yX10_canBeMan : MethodName := ⟨RX10, "canBeMan", "(II)Z"⟩
abbrev cX10_bit : ByteArray := prog_1_method_41_code
def yX10_bit : MethodName := ⟨RX10, "bit", "(Z)I"⟩
abbrev cX10_areTwo : ByteArray := prog_1_method_42_code
def yX10_areTwo : MethodName := ⟨RX10, "areTwo", "(II)Z"⟩
abbrev cX10_putOnTape : ByteArray := prog_1_method_43_code
def yX10_putOnTape : MethodName := ⟨RX10, "putOnTape", "(I)V"⟩
abbrev cX10_live : ByteArray := prog_1_method_44_code
def yX10_live : MethodName := ⟨RX10, "live", "(LStatueRelief$Standing;II)I"⟩
abbrev cX10_nextDraw : ByteArray := prog_1_method_45_code
def yX10_nextDraw : MethodName := ⟨RX10, "nextDraw", "(I)I"⟩
abbrev cX10_deedOf : ByteArray := prog_1_method_46_code
def yX10_deedOf : MethodName := ⟨RX10, "deedOf", "(I)I"⟩
abbrev cX10_settled : ByteArray := prog_1_method_47_code
def yX10_settled : MethodName := ⟨RX10, "settled", "(I)I"⟩
abbrev cX10_accepted : ByteArray := prog_1_method_48_code
def yX10_accepted : MethodName := ⟨RX10, "accepted", "(I)I"⟩
abbrev cX10_refused : ByteArray := prog_1_method_49_code
def yX10_refused : MethodName := ⟨RX10, "refused", "(I)I"⟩
def RX11 : String := "StatueReliefModel"
def TX11 : u_T := fun k => match k with
  | 0 => ("StatueReliefModel", "thrown", "I", false)
  | 1 => ("StatueReliefModel", "status", "I", false)
  | 2 => ("StatueReliefModel", "refusals", "[I", true)
  | 3 => ("StatueReliefModel", "row", "[I", true)
  | 4 => ("StatueReliefModel", "images", "[I", true)
  | 5 => ("StatueReliefModel", "isKept", "[Z", true)
  | 6 => ("StatueReliefModel", "undos", "[I", true)
  | 7 => ("StatueReliefModel", "sorts", "[I", true)
  | 8 => ("StatueReliefModel", "nUndo", "I", false)
  | 9 => ("StatueReliefModel", "undosBefore", "[I", true)
  | 10 => ("StatueReliefModel", "sortsBefore", "[I", true)
  | 11 => ("StatueReliefModel", "pigeons", "I", false)
  | 12 => ("StatueReliefModel", "tape", "[I", true)
  | 13 => ("StatueReliefModel", "taped", "I", false)
  | 14 => ("StatueReliefModel", "from", "I", false)
  | 15 => ("StatueReliefModel", "to", "I", false)
  | 16 => ("StatueReliefModel", "sort", "I", false)
  | 17 => ("StatueReliefModel", "worth", "J", false)
  | 18 => ("StatueReliefModel", "fault", "I", false)
  | 19 => ("StatueReliefModel", "bad", "Z", false)
  | 20 => ("StatueReliefModel", "ordered", "Z", false)
  | 21 => ("StatueReliefModel", "nClauses", "I", false)
  | 22 => ("StatueReliefModel", "nClause", "[I", true)
  | 23 => ("StatueReliefModel", "nCode", "I", false)
  | 24 => ("StatueReliefModel", "nOp", "[I", true)
  | 25 => ("StatueReliefModel", "nArg", "[I", true)
  | 26 => ("StatueReliefModel", "nLeaves", "I", false)
  | 27 => ("StatueReliefModel", "pile", "[I", true)
  | 28 => ("StatueReliefModel", "pileAt", "[I", true)
  | 29 => ("StatueReliefModel", "piled", "I", false)
  | 30 => ("StatueReliefModel", "opened", "I", false)
  | 31 => ("StatueReliefModel", "words", "[J", true)
  | 32 => ("StatueReliefModel", "orderWords", "[J", true)
  | 33 => ("StatueReliefModel", "heads", "[J", true)
  | 34 => ("StatueReliefModel", "law", "I", false)
  | 35 => ("StatueReliefModel", "set", "[J", true)
  | 36 => ("StatueReliefModel", "now", "[J", true)
  | 37 => ("StatueReliefModel", "rest", "[J", true)
  | 38 => ("StatueReliefModel", "broken", "Z", false)
  | 39 => ("StatueReliefModel", "value", "J", false)
  | 40 => ("StatueReliefModel", "sum", "J", false)
  | 41 => ("StatueReliefModel", "tiredThen", "[I", true)
  | 42 => ("StatueReliefModel", "deeps", "[I", true)
  | 43 => ("StatueReliefModel", "tried", "[I", true)
  | 44 => ("StatueReliefModel", "eyesAt", "[I", true)
  | 45 => ("StatueReliefModel", "bestRow", "[I", true)
  | 46 => ("StatueReliefModel", "bestEyes", "I", false)
  | 47 => ("StatueReliefModel", "notice", "[I", true)
  | 48 => ("StatueReliefModel", "leastFrom", "[I", true)
  | 49 => ("StatueReliefModel", "awayFrom", "[I", true)
  | 50 => ("StatueReliefModel", "parts", "[J", true)
  | 51 => ("StatueReliefModel", "acts", "[J", true)
  | 52 => ("StatueReliefModel", "nOrder", "[I", true)
  | 53 => ("StatueReliefModel", "done", "I", false)
  | 54 => ("StatueReliefModel", "latest", "I", false)
  | 55 => ("StatueReliefModel", "stopped", "I", false)
  | 56 => ("StatueReliefModel", "off", "Z", false)
  | 57 => ("StatueReliefModel", "state", "J", false)
  | 58 => ("StatueReliefModel", "drawn", "[I", true)
  | _ => ("StatueReliefModel", "drawnMen", "I", false)
def tyX11 : Nat → FieldType := fun k => match k with
  | 0 => .int
  | 1 => .int
  | 2 => .array .int
  | 3 => .array .int
  | 4 => .array .int
  | 5 => .array .boolean
  | 6 => .array .int
  | 7 => .array .int
  | 8 => .int
  | 9 => .array .int
  | 10 => .array .int
  | 11 => .int
  | 12 => .array .int
  | 13 => .int
  | 14 => .int
  | 15 => .int
  | 16 => .int
  | 17 => .long
  | 18 => .int
  | 19 => .boolean
  | 20 => .boolean
  | 21 => .int
  | 22 => .array .int
  | 23 => .int
  | 24 => .array .int
  | 25 => .array .int
  | 26 => .int
  | 27 => .array .int
  | 28 => .array .int
  | 29 => .int
  | 30 => .int
  | 31 => .array .long
  | 32 => .array .long
  | 33 => .array .long
  | 34 => .int
  | 35 => .array .long
  | 36 => .array .long
  | 37 => .array .long
  | 38 => .boolean
  | 39 => .long
  | 40 => .long
  | 41 => .array .int
  | 42 => .array .int
  | 43 => .array .int
  | 44 => .array .int
  | 45 => .array .int
  | 46 => .int
  | 47 => .array .int
  | 48 => .array .int
  | 49 => .array .int
  | 50 => .array .long
  | 51 => .array .long
  | 52 => .array .int
  | 53 => .int
  | 54 => .int
  | 55 => .int
  | 56 => .boolean
  | 57 => .long
  | 58 => .array .int
  | _ => .int
abbrev wsX110 : List Cond := u_ws RX11 TX11 60
theorem nmX11 : ∀ a, a < 60 → ∀ b, b < 60 → a ≠ b → (TX11 a).2.1 ≠ (TX11 b).2.1 := by decide +kernel
theorem tyX11_ok : ∀ k, k < 60 → parseFieldDescriptor (TX11 k).2.2.1 = some (tyX11 k) := by decide +kernel
abbrev cX11_init : ByteArray := prog_13_method_1_code
def yX11_init : MethodName := ⟨RX11, "<init>", "()V"⟩
abbrev cX11_in : ByteArray := prog_13_method_3_code
def yX11_in : MethodName := ⟨RX11, "in", "(JJJ)Z"⟩
abbrev cX11_is : ByteArray := prog_13_method_4_code
def yX11_is : MethodName := ⟨RX11, "is", "(II)Z"⟩
abbrev cX11_bounded : ByteArray := prog_13_method_5_code
def yX11_bounded : MethodName := ⟨RX11, "bounded", "(JII)I"⟩
abbrev cX11_many : ByteArray := prog_13_method_6_code
def yX11_many : MethodName := ⟨RX11, "many", "(I)I"⟩
abbrev cX11_tell : ByteArray := prog_13_method_7_code
def yX11_tell : MethodName := ⟨RX11, "tell", "(I)I"⟩
abbrev cX11_change : ByteArray := prog_13_method_8_code
def yX11_change : MethodName := ⟨RX11, "change", "(II)I"⟩
abbrev cX11_lasting : ByteArray := prog_13_method_9_code
def yX11_lasting : MethodName := ⟨RX11, "lasting", "(I)I"⟩
abbrev cX11_keepAll : ByteArray := prog_13_method_10_code
def yX11_keepAll : MethodName := ⟨RX11, "keepAll", "(I)V"⟩
abbrev cX11_putBack : ByteArray := prog_13_method_11_code
def yX11_putBack : MethodName := ⟨RX11, "putBack", "(I)V"⟩
abbrev cX11_remember : ByteArray := prog_13_method_12_code
def yX11_remember : MethodName := ⟨RX11, "remember", "(I)V"⟩
abbrev cX11_undo : ByteArray := prog_13_method_13_code
def yX11_undo : MethodName := ⟨RX11, "undo", "()I"⟩
abbrev cX11_image : ByteArray := prog_13_method_14_code
def yX11_image : MethodName := ⟨RX11, "image", "(I)I"⟩
abbrev cX11_back : ByteArray := prog_13_method_15_code
def yX11_back : MethodName := ⟨RX11, "back", "(I)I"⟩
abbrev cX11_isMan : ByteArray := prog_13_method_16_code
def yX11_isMan : MethodName := ⟨RX11, "isMan", "(I)Z"⟩
abbrev cX11_isFit : ByteArray := prog_13_method_17_code
def yX11_isFit : MethodName := ⟨RX11, "isFit", "(I)Z"⟩
abbrev cX11_fitBits : ByteArray := prog_13_method_18_code
def yX11_fitBits : MethodName := ⟨RX11, "fitBits", "()I"⟩
abbrev cX11_unlike : ByteArray := prog_13_method_19_code
def yX11_unlike : MethodName := ⟨RX11, "unlike", "(II)I"⟩
abbrev cX11_comes : ByteArray := prog_13_method_20_code
def yX11_comes : MethodName := ⟨RX11, "comes", "(II)I"⟩
abbrev cX11_man : ByteArray := prog_13_method_21_code
def yX11_man : MethodName := ⟨RX11, "man", "(II)I"⟩
abbrev cX11_of : ByteArray := prog_13_method_22_code
def yX11_of : MethodName := ⟨RX11, "of", "(II)I"⟩
abbrev cX11_two : ByteArray := prog_13_method_23_code
def yX11_two : MethodName := ⟨RX11, "two", "(III)I"⟩
abbrev cX11_terms : ByteArray := prog_13_method_24_code
def yX11_terms : MethodName := ⟨RX11, "terms", "(II)I"⟩
abbrev cX11_row : ByteArray := prog_13_method_25_code
def yX11_row : MethodName := ⟨RX11, "row", "()I"⟩
abbrev cX11_pigeons : ByteArray := prog_13_method_26_code
def yX11_pigeons : MethodName := ⟨RX11, "pigeons", "()I"⟩
abbrev cX11_four : ByteArray := prog_13_method_27_code
def yX11_four : MethodName := ⟨RX11, "four", "(I)V"⟩
abbrev cX11_feed : ByteArray := prog_13_method_28_code
def yX11_feed : MethodName := ⟨RX11, "feed", "(IIIII)I"⟩
abbrev cX11_end : ByteArray := prog_13_method_29_code
def yX11_end : MethodName := ⟨RX11, "end", "(I)I"⟩
abbrev cX11_isSmall : ByteArray := prog_13_method_30_code
def yX11_isSmall : MethodName := ⟨RX11, "isSmall", "(I)Z"⟩
abbrev cX11_isDigit : ByteArray := prog_13_method_31_code
def yX11_isDigit : MethodName := ⟨RX11, "isDigit", "(I)Z"⟩
abbrev cX11_begin : ByteArray := prog_13_method_32_code
def yX11_begin : MethodName := ⟨RX11, "begin", "()V"⟩
abbrev cX11_next : ByteArray := prog_13_method_33_code
def yX11_next : MethodName := ⟨RX11, "next", "()V"⟩
abbrev cX11_isWord : ByteArray := prog_13_method_34_code
def yX11_isWord : MethodName := ⟨RX11, "isWord", "(J)Z"⟩
abbrev cX11_isSign : ByteArray := prog_13_method_35_code
def yX11_isSign : MethodName := ⟨RX11, "isSign", "(I)Z"⟩
abbrev cX11_must : ByteArray := prog_13_method_36_code
def yX11_must : MethodName := ⟨RX11, "must", "(Z)V"⟩
abbrev cX11_number : ByteArray := prog_13_method_37_code
def yX11_number : MethodName := ⟨RX11, "number", "(JJ)I"⟩
abbrev cX11_fault : ByteArray := prog_13_method_38_code
def yX11_fault : MethodName := ⟨RX11, "fault", "()I"⟩
abbrev cX11_emit : ByteArray := prog_13_method_39_code
def yX11_emit : MethodName := ⟨RX11, "emit", "(II)V"⟩
abbrev cX11_push : ByteArray := prog_13_method_40_code
def yX11_push : MethodName := ⟨RX11, "push", "(II)V"⟩
abbrev cX11_binds : ByteArray := prog_13_method_41_code
def yX11_binds : MethodName := ⟨RX11, "binds", "(I)I"⟩
abbrev cX11_settle : ByteArray := prog_13_method_42_code
def yX11_settle : MethodName := ⟨RX11, "settle", "(I)V"⟩
abbrev cX11_inner : ByteArray := prog_13_method_43_code
def yX11_inner : MethodName := ⟨RX11, "inner", "()I"⟩
abbrev cX11_isCompared : ByteArray := prog_13_method_44_code
def yX11_isCompared : MethodName := ⟨RX11, "isCompared", "()Z"⟩
abbrev cX11_partAt : ByteArray := prog_13_method_45_code
def yX11_partAt : MethodName := ⟨RX11, "partAt", "()I"⟩
abbrev cX11_orderPartAt : ByteArray := prog_13_method_46_code
def yX11_orderPartAt : MethodName := ⟨RX11, "orderPartAt", "()I"⟩
abbrev cX11_openBracket : ByteArray := prog_13_method_47_code
def yX11_openBracket : MethodName := ⟨RX11, "openBracket", "(I)V"⟩
abbrev cX11_leaf : ByteArray := prog_13_method_48_code
def yX11_leaf : MethodName := ⟨RX11, "leaf", "(ZII)V"⟩
abbrev cX11_readPart : ByteArray := prog_13_method_49_code
def yX11_readPart : MethodName := ⟨RX11, "readPart", "()I"⟩
abbrev cX11_readPlain : ByteArray := prog_13_method_50_code
def yX11_readPlain : MethodName := ⟨RX11, "readPlain", "()I"⟩
abbrev cX11_behindSum : ByteArray := prog_13_method_51_code
def yX11_behindSum : MethodName := ⟨RX11, "behindSum", "(Z)I"⟩
abbrev cX11_behindTest : ByteArray := prog_13_method_52_code
def yX11_behindTest : MethodName := ⟨RX11, "behindTest", "()I"⟩
abbrev cX11_readExpression : ByteArray := prog_13_method_53_code
def yX11_readExpression : MethodName := ⟨RX11, "readExpression", "(Z)V"⟩
abbrev cX11_beginText : ByteArray := prog_13_method_54_code
def yX11_beginText : MethodName := ⟨RX11, "beginText", "(Z)V"⟩
abbrev cX11_endText : ByteArray := prog_13_method_55_code
def yX11_endText : MethodName := ⟨RX11, "endText", "()V"⟩
abbrev cX11_readLaw : ByteArray := prog_13_method_56_code
def yX11_readLaw : MethodName := ⟨RX11, "readLaw", "()V"⟩
abbrev cX11_law : ByteArray := prog_13_method_57_code
def yX11_law : MethodName := ⟨RX11, "law", "()I"⟩
abbrev cX11_isLaw : ByteArray := prog_13_method_58_code
def yX11_isLaw : MethodName := ⟨RX11, "isLaw", "(I)Z"⟩
abbrev cX11_force : ByteArray := prog_13_method_59_code
def yX11_force : MethodName := ⟨RX11, "force", "(I)I"⟩
abbrev cX11_reckon : ByteArray := prog_13_method_60_code
def yX11_reckon : MethodName := ⟨RX11, "reckon", "(IJJ)J"⟩
abbrev cX11_reckonAll : ByteArray := prog_13_method_61_code
def yX11_reckonAll : MethodName := ⟨RX11, "reckonAll", "(II)V"⟩
abbrev cX11_isSo : ByteArray := prog_13_method_62_code
def yX11_isSo : MethodName := ⟨RX11, "isSo", "(I)Z"⟩
abbrev cX11_tells : ByteArray := prog_13_method_63_code
def yX11_tells : MethodName := ⟨RX11, "tells", "(IIIJ)J"⟩
abbrev cX11_tires : ByteArray := prog_13_method_64_code
def yX11_tires : MethodName := ⟨RX11, "tires", "(I)I"⟩
abbrev cX11_rests : ByteArray := prog_13_method_65_code
def yX11_rests : MethodName := ⟨RX11, "rests", "(I)I"⟩
abbrev cX11_isBarred : ByteArray := prog_13_method_66_code
def yX11_isBarred : MethodName := ⟨RX11, "isBarred", "(I)Z"⟩
abbrev cX11_noticed : ByteArray := prog_13_method_67_code
def yX11_noticed : MethodName := ⟨RX11, "noticed", "(II)I"⟩
abbrev cX11_canRelieve : ByteArray := prog_13_method_68_code
def yX11_canRelieve : MethodName := ⟨RX11, "canRelieve", "(I)Z"⟩
abbrev cX11_relieveIt : ByteArray := prog_13_method_69_code
def yX11_relieveIt : MethodName := ⟨RX11, "relieveIt", "(I)I"⟩
abbrev cX11_relieveNow : ByteArray := prog_13_method_70_code
def yX11_relieveNow : MethodName := ⟨RX11, "relieveNow", "(I)I"⟩
abbrev cX11_relieve : ByteArray := prog_13_method_71_code
def yX11_relieve : MethodName := ⟨RX11, "relieve", "(I)I"⟩
abbrev cX11_cashier : ByteArray := prog_13_method_72_code
def yX11_cashier : MethodName := ⟨RX11, "cashier", "(I)V"⟩
abbrev cX11_sneezeNow : ByteArray := prog_13_method_73_code
def yX11_sneezeNow : MethodName := ⟨RX11, "sneezeNow", "(I)I"⟩
abbrev cX11_sneeze : ByteArray := prog_13_method_74_code
def yX11_sneeze : MethodName := ⟨RX11, "sneeze", "(I)I"⟩
abbrev cX11_pardonIt : ByteArray := prog_13_method_75_code
def yX11_pardonIt : MethodName := ⟨RX11, "pardonIt", "(I)V"⟩
abbrev cX11_pardonNow : ByteArray := prog_13_method_76_code
def yX11_pardonNow : MethodName := ⟨RX11, "pardonNow", "(I)I"⟩
abbrev cX11_pardon : ByteArray := prog_13_method_77_code
def yX11_pardon : MethodName := ⟨RX11, "pardon", "(I)I"⟩
abbrev cX11_passIt : ByteArray := prog_13_method_78_code
def yX11_passIt : MethodName := ⟨RX11, "passIt", "()I"⟩
abbrev cX11_passNow : ByteArray := prog_13_method_79_code
def yX11_passNow : MethodName := ⟨RX11, "passNow", "()I"⟩
abbrev cX11_pass : ByteArray := prog_13_method_80_code
def yX11_pass : MethodName := ⟨RX11, "pass", "()I"⟩
abbrev cX11_holds : ByteArray := prog_13_method_81_code
def yX11_holds : MethodName := ⟨RX11, "holds", "(I)I"⟩
abbrev cX11_later : ByteArray := prog_13_method_82_code
def yX11_later : MethodName := ⟨RX11, "later", "(II)I"⟩
abbrev cX11_moment : ByteArray := prog_13_method_83_code
def yX11_moment : MethodName := ⟨RX11, "moment", "(II)I"⟩
abbrev cX11_keepDeep : ByteArray := prog_13_method_84_code
def yX11_keepDeep : MethodName := ⟨RX11, "keepDeep", "(II)V"⟩
abbrev cX11_putDeep : ByteArray := prog_13_method_85_code
def yX11_putDeep : MethodName := ⟨RX11, "putDeep", "(I)V"⟩
abbrev cX11_tryMan : ByteArray := prog_13_method_86_code
def yX11_tryMan : MethodName := ⟨RX11, "tryMan", "(II)Z"⟩
abbrev cX11_layRota : ByteArray := prog_13_method_87_code
def yX11_layRota : MethodName := ⟨RX11, "layRota", "(I)V"⟩
abbrev cX11_rota : ByteArray := prog_13_method_88_code
def yX11_rota : MethodName := ⟨RX11, "rota", "(II)I"⟩
abbrev cX11_layNotice : ByteArray := prog_13_method_89_code
def yX11_layNotice : MethodName := ⟨RX11, "layNotice", "()V"⟩
abbrev cX11_layOrders : ByteArray := prog_13_method_90_code
def yX11_layOrders : MethodName := ⟨RX11, "layOrders", "()V"⟩
abbrev cX11_canBegin : ByteArray := prog_13_method_91_code
def yX11_canBegin : MethodName := ⟨RX11, "canBegin", "(I)Z"⟩
abbrev cX11_order : ByteArray := prog_13_method_92_code
def yX11_order : MethodName := ⟨RX11, "order", "(I)I"⟩
abbrev cX11_links : ByteArray := prog_13_method_93_code
def yX11_links : MethodName := ⟨RX11, "links", "(II)Z"⟩
abbrev cX11_layAway : ByteArray := prog_13_method_94_code
def yX11_layAway : MethodName := ⟨RX11, "layAway", "(I)V"⟩
abbrev cX11_chain : ByteArray := prog_13_method_95_code
def yX11_chain : MethodName := ⟨RX11, "chain", "(III)I"⟩
abbrev cX11_groupOf : ByteArray := prog_13_method_96_code
def yX11_groupOf : MethodName := ⟨RX11, "groupOf", "(II)I"⟩
abbrev cX11_groups : ByteArray := prog_13_method_97_code
def yX11_groups : MethodName := ⟨RX11, "groups", "(II)I"⟩
abbrev cX11_likest : ByteArray := prog_13_method_98_code
def yX11_likest : MethodName := ⟨RX11, "likest", "(I)I"⟩
abbrev cX11_compare : ByteArray := prog_13_method_99_code
def yX11_compare : MethodName := ⟨RX11, "compare", "(III)I"⟩
abbrev cX11_plate : ByteArray := prog_13_method_100_code
def yX11_plate : MethodName := ⟨RX11, "plate", "(II)I"⟩
abbrev cX11_forget : ByteArray := prog_13_method_101_code
def yX11_forget : MethodName := ⟨RX11, "forget", "()I"⟩
abbrev cX11_thatCanBe : ByteArray := prog_13_method_102_code
def yX11_thatCanBe : MethodName := ⟨RX11, "thatCanBe", "()I"⟩
abbrev cX11_canBe : ByteArray := prog_13_method_103_code
def yX11_canBe : MethodName := ⟨RX11, "canBe", "()I"⟩
abbrev cX11_take : ByteArray := prog_13_method_104_code
def yX11_take : MethodName := ⟨RX11, "take", "(I)I"⟩
abbrev cX11_few : ByteArray := prog_13_method_105_code
def yX11_few : MethodName := ⟨RX11, "few", "(II)J"⟩
abbrev cX11_readOrder : ByteArray := prog_13_method_106_code
def yX11_readOrder : MethodName := ⟨RX11, "readOrder", "()V"⟩
abbrev cX11_sumOf : ByteArray := prog_13_method_107_code
def yX11_sumOf : MethodName := ⟨RX11, "sumOf", "(I)I"⟩
abbrev cX11_act : ByteArray := prog_13_method_108_code
def yX11_act : MethodName := ⟨RX11, "act", "(II)I"⟩
abbrev cX11_run : ByteArray := prog_13_method_109_code
def yX11_run : MethodName := ⟨RX11, "run", "(I)I"⟩
abbrev cX11_orders : ByteArray := prog_13_method_110_code
def yX11_orders : MethodName := ⟨RX11, "orders", "()I"⟩
abbrev cX11_giveBack : ByteArray := prog_13_method_111_code
def yX11_giveBack : MethodName := ⟨RX11, "giveBack", "(I)V"⟩
abbrev cX11_stopped : ByteArray := prog_13_method_112_code
def yX11_stopped : MethodName := ⟨RX11, "stopped", "()I"⟩
abbrev cX11_draw : ByteArray := prog_13_method_113_code
def yX11_draw : MethodName := ⟨RX11, "draw", "(I)I"⟩
abbrev cX11_drawnAct : ByteArray := prog_13_method_114_code
def yX11_drawnAct : MethodName := ⟨RX11, "drawnAct", "(II)V"⟩
abbrev cX11_years : ByteArray := prog_13_method_115_code
def yX11_years : MethodName := ⟨RX11, "years", "(II)I"⟩
abbrev cX11_drawn : ByteArray := prog_13_method_116_code
def yX11_drawn : MethodName := ⟨RX11, "drawn", "(II)I"⟩
abbrev cX11_count : ByteArray := prog_13_method_117_code
def yX11_count : MethodName := ⟨RX11, "count", "(I)I"⟩
abbrev cX11_status : ByteArray := prog_13_method_118_code
def yX11_status : MethodName := ⟨RX11, "status", "()I"⟩
def RJ6 : String := "java/lang/Integer"
def TJ6 : u_T := fun k => match k with
  | _ => ("", "", "", false)
def tyJ6 : Nat → FieldType := fun k => match k with
  | _ => .int
abbrev wsJ60 : List Cond := u_ws RJ6 TJ6 0
theorem nmJ6 : ∀ a, a < 0 → ∀ b, b < 0 → a ≠ b → (TJ6 a).2.1 ≠ (TJ6 b).2.1 := by decide +kernel
theorem tyJ6_ok : ∀ k, k < 0 → parseFieldDescriptor (TJ6 k).2.2.1 = some (tyJ6 k) := by decide +kernel
abbrev cJ6_bitCount_0f7a4 : ByteArray := prog_14_method_49_code
def yJ6_bitCount_0f7a4 : MethodName := ⟨RJ6, "bitCount", "(I)I"⟩
def RJ9 : String := "java/lang/Math"
def TJ9 : u_T := fun k => match k with
  | _ => ("", "", "", false)
def tyJ9 : Nat → FieldType := fun k => match k with
  | _ => .int
abbrev wsJ90 : List Cond := u_ws RJ9 TJ9 0
theorem nmJ9 : ∀ a, a < 0 → ∀ b, b < 0 → a ≠ b → (TJ9 a).2.1 ≠ (TJ9 b).2.1 := by decide +kernel
theorem tyJ9_ok : ∀ k, k < 0 → parseFieldDescriptor (TJ9 k).2.2.1 = some (tyJ9 k) := by decide +kernel
abbrev cJ9_max_7cf53 : ByteArray := prog_15_method_65_code
def yJ9_max_7cf53 : MethodName := ⟨RJ9, "max", "(II)I"⟩
abbrev cJ9_min_7cf53 : ByteArray := prog_15_method_69_code
def yJ9_min_7cf53 : MethodName := ⟨RJ9, "min", "(II)I"⟩
def RJ0 : String := "java/lang/String"
def TJ0 : u_T := fun k => match k with
  | _ => ("", "", "", false)
def tyJ0 : Nat → FieldType := fun k => match k with
  | _ => .int
abbrev wsJ00 : List Cond := u_ws RJ0 TJ0 0
theorem nmJ0 : ∀ a, a < 0 → ∀ b, b < 0 → a ≠ b → (TJ0 a).2.1 ≠ (TJ0 b).2.1 := by decide +kernel
theorem tyJ0_ok : ∀ k, k < 0 → parseFieldDescriptor (TJ0 k).2.2.1 = some (tyJ0 k) := by decide +kernel
abbrev cJ0_length_8abf5 : ByteArray := prog_16_method_54_code
def yJ0_length_8abf5 : MethodName := ⟨RJ0, "length", "()I"⟩
abbrev cJ0_charAt_5068e : ByteArray := prog_16_method_56_code
def yJ0_charAt_5068e : MethodName := ⟨RJ0, "charAt", "(I)C"⟩
abbrev cJ0_coder_7d493 : ByteArray := prog_16_method_152_code
def yJ0_coder_7d493 : MethodName := ⟨RJ0, "coder", "()B"⟩
abbrev cJ0_isLatin1_aae02 : ByteArray := prog_16_method_154_code
def yJ0_isLatin1_aae02 : MethodName := ⟨RJ0, "isLatin1", "()Z"⟩
abbrev cJ0_checkIndex_df160 : ByteArray := prog_16_method_155_code
def yJ0_checkIndex_df160 : MethodName := ⟨RJ0, "checkIndex", "(II)V"⟩
def RJ1 : String := "java/lang/StringLatin1"
def TJ1 : u_T := fun k => match k with
  | _ => ("", "", "", false)
def tyJ1 : Nat → FieldType := fun k => match k with
  | _ => .int
abbrev wsJ10 : List Cond := u_ws RJ1 TJ1 0
theorem nmJ1 : ∀ a, a < 0 → ∀ b, b < 0 → a ≠ b → (TJ1 a).2.1 ≠ (TJ1 b).2.1 := by decide +kernel
theorem tyJ1_ok : ∀ k, k < 0 → parseFieldDescriptor (TJ1 k).2.2.1 = some (tyJ1 k) := by decide +kernel
abbrev cJ1_charAt_3b067 : ByteArray := prog_17_method_2_code
def yJ1_charAt_3b067 : MethodName := ⟨RJ1, "charAt", "([BI)C"⟩
def RJ2 : String := "java/lang/StringUTF16"
def TJ2 : u_T := fun k => match k with
  | _ => ("", "", "", false)
def tyJ2 : Nat → FieldType := fun k => match k with
  | _ => .int
abbrev wsJ20 : List Cond := u_ws RJ2 TJ2 0
theorem nmJ2 : ∀ a, a < 0 → ∀ b, b < 0 → a ≠ b → (TJ2 a).2.1 ≠ (TJ2 b).2.1 := by decide +kernel
theorem tyJ2_ok : ∀ k, k < 0 → parseFieldDescriptor (TJ2 k).2.2.1 = some (tyJ2 k) := by decide +kernel
abbrev cJ2_getChar_3b067 : ByteArray := prog_18_method_5_code
def yJ2_getChar_3b067 : MethodName := ⟨RJ2, "getChar", "([BI)C"⟩
abbrev cJ2_length_9d52b : ByteArray := prog_18_method_6_code
def yJ2_length_9d52b : MethodName := ⟨RJ2, "length", "([B)I"⟩
abbrev cJ2_charAt_3b067 : ByteArray := prog_18_method_83_code
def yJ2_charAt_3b067 : MethodName := ⟨RJ2, "charAt", "([BI)C"⟩
abbrev cJ2_checkIndex_2214a : ByteArray := prog_18_method_91_code
def yJ2_checkIndex_2214a : MethodName := ⟨RJ2, "checkIndex", "(I[B)V"⟩
def RJ10 : String := "java/lang/System"
def TJ10 : u_T := fun k => match k with
  | _ => ("", "", "", false)
def tyJ10 : Nat → FieldType := fun k => match k with
  | _ => .int
abbrev wsJ100 : List Cond := u_ws RJ10 TJ10 0
theorem nmJ10 : ∀ a, a < 0 → ∀ b, b < 0 → a ≠ b → (TJ10 a).2.1 ≠ (TJ10 b).2.1 := by decide +kernel
theorem tyJ10_ok : ∀ k, k < 0 → parseFieldDescriptor (TJ10 k).2.2.1 = some (tyJ10 k) := by decide +kernel
def RJ3 : String := "jdk/internal/util/Preconditions"
def TJ3 : u_T := fun k => match k with
  | _ => ("", "", "", false)
def tyJ3 : Nat → FieldType := fun k => match k with
  | _ => .int
abbrev wsJ30 : List Cond := u_ws RJ3 TJ3 0
theorem nmJ3 : ∀ a, a < 0 → ∀ b, b < 0 → a ≠ b → (TJ3 a).2.1 ≠ (TJ3 b).2.1 := by decide +kernel
theorem tyJ3_ok : ∀ k, k < 0 → parseFieldDescriptor (TJ3 k).2.2.1 = some (tyJ3 k) := by decide +kernel
abbrev cJ3_checkIndex_8e157 : ByteArray := prog_20_method_11_code
def yJ3_checkIndex_8e157 : MethodName := ⟨RJ3, "checkIndex", "(IILjava/util/function/BiFunction;)I"⟩
def RL : String := "StatueReliefLaw"
abbrev cL_law : ByteArray := code
def yL_law : MethodName := ⟨RL, "law", "([I)Z"⟩
abbrev vwCl : List vw_C := [(RX0, TX0, 4), (RX1, TX1, 10), (RX2, TX2, 4), (RX3, TX3, 8), (RX4, TX4, 2), (RX5, TX5, 2), (RX6, TX6, 7), (RX7, TX7, 8), (RX8, TX8, 7), (RX9, TX9, 11), (RX10, TX10, 19), (RX11, TX11, 60)]
end
section
-- BASICS: entries, lookups
/-- an instruction with what its operand names: instruction, its length, a, b, c, the place of its word, a value -/
abbrev sm_E : Type := Instr × Nat × Nat × Nat × Nat × Nat × Value
def sm_lk {α : Type} : List (Nat × α) → Nat → Option α
  | [], _ => none
  | (p, a) :: t, q => match Nat.beq p q with
    | true => some a
    | false => sm_lk t q
def sm_nth {α : Type} (d : α) : List α → Nat → α
  | [], _ => d
  | a :: _, 0 => a
  | _ :: t, n + 1 => sm_nth d t n
end
section
-- THE CODE TABLES, by program out of the names, decode rows, javap and the tables
def sm_cnl : List String := [RX0, RX1, RX2, RX3, RX4, RX5, RX6, RX7, RX8, RX9, RX10, RX11]
def sm_cn (q : Nat) : String := sm_nth "" sm_cnl q
def sm_nfl : List Nat := [4, 10, 4, 8, 2, 2, 7, 8, 7, 11, 19, 60]
def sm_nf (q : Nat) : Nat := sm_nth 0 sm_nfl q
def sm_kdl : List (List Nat) := [[2, 2, 0, 0], [2, 2, 2, 2, 2, 2, 2, 0, 0, 0], [2, 2, 0, 0], [2, 2, 3, 2, 2, 0, 3, 2], [2, 0], [2, 2], [2, 2, 2, 2, 2, 0, 0], [2, 0, 3, 2, 0, 0, 0, 0], [2, 2, 2, 2, 0, 3, 0], [2, 2, 2, 2, 0, 0, 0, 0, 0, 0, 0], [2, 2, 2, 2, 2, 2, 2, 2, 3, 2, 2, 2, 0, 2, 2, 0, 0, 2, 0], [0, 0, 2, 2, 2, 2, 2, 2, 0, 2, 2, 0, 2, 0, 0, 0, 0, 1, 0, 3, 3, 0, 2, 0, 2, 2, 0, 2, 2, 0, 0, 2, 2, 2, 0, 2, 2, 2, 3, 1, 1, 2, 2, 2, 2, 2, 0, 2, 2, 2, 2, 2, 2, 0, 0, 0, 3, 1, 2, 0]]
def sm_kd (q j : Nat) : Nat := sm_nth 0 (sm_nth [] sm_kdl q) j
noncomputable def sm_yl : List MethodName := [yX0_init, yX0_copyFrom, yX0_isLawOrNone, yX0_lawOrNone, yX0_inForce, yX1_init, yX1_act, yX1_run, yX1_runOnce, yX1_setWords, yX2_init, yX2_works, yX2_join, yX3_init, yX3_lookAtAll, yX3_arrange, yX3_place, yX3_measure, yX3_nextTo, yX3_along, yX4_init, yX4_clear, yX4_copyFrom, yX4_keep, yX4_takeBack, yX5_init, yX5_told, yX5_setWords, yX5_can, yX5_move, yX5_goUp, yX5_cashier, yX5_hour, yX5_wouldShake, yX6_init, yX6_copyFrom, yX6_open, yX6_put, yX6_closeSkip, yX7_init, yX7_faultOf, yX7_clause, yX7_test, yX7_both, yX7_plain, yX7_sum, yX7_term, yX7_part, yX7_number, yX7_word, yX7_advance, yX7_kindAt, yX7_isSign, yX7_wordIn, yX7_numberOf, yX8_init, yX8_plan, yX8_search, yX8_eyesFor, yX8_shakes, yX8_goOn, yX9_init, yX9_copyFrom, yX9_copyMoving, yX9_isMan, yX9_isCashiered, yX9_fit, yX9_add, yX9_unlike, yX9_groupOf, yX9_alike, yX9_groupCount, yX9_possible, yX9_leftAtMost, yX10_init, yX10_man, yX10_of, yX10_two, yX10_terms, yX10_feed, yX10_end, yX10_row, yX10_pigeons, yX10_law, yX10_orders, yX10_fault, yX10_stopped, yX10_force, yX10_relieve, yX10_sneeze, yX10_pardon, yX10_pass, yX10_undo, yX10_holds, yX10_later, yX10_moment, yX10_rota, yX10_order, yX10_chain, yX10_groups, yX10_likest, yX10_plate, yX10_forget, yX10_canBe, yX10_take, yX10_few, yX10_compare, yX10_years, yX10_drawn, yX10_image, yX10_back, yX10_count, yX10_status, yX10_canBeMan, yX10_bit, yX10_areTwo, yX10_putOnTape, yX10_live, yX10_nextDraw, yX10_deedOf, yX10_settled, yX10_accepted, yX10_refused, yX11_init, yX11_in, yX11_is, yX11_bounded, yX11_many, yX11_tell, yX11_change, yX11_lasting, yX11_keepAll, yX11_putBack, yX11_remember, yX11_undo, yX11_image, yX11_back, yX11_isMan, yX11_isFit, yX11_fitBits, yX11_unlike, yX11_comes, yX11_man, yX11_of, yX11_two, yX11_terms, yX11_row, yX11_pigeons, yX11_four, yX11_feed, yX11_end, yX11_isSmall, yX11_isDigit, yX11_begin, yX11_next, yX11_isWord, yX11_isSign, yX11_must, yX11_number, yX11_fault, yX11_emit, yX11_push, yX11_binds, yX11_settle, yX11_inner, yX11_isCompared, yX11_partAt, yX11_orderPartAt, yX11_openBracket, yX11_leaf, yX11_readPart, yX11_readPlain, yX11_behindSum, yX11_behindTest, yX11_readExpression, yX11_beginText, yX11_endText, yX11_readLaw, yX11_law, yX11_isLaw, yX11_force, yX11_reckon, yX11_reckonAll, yX11_isSo, yX11_tells, yX11_tires, yX11_rests, yX11_isBarred, yX11_noticed, yX11_canRelieve, yX11_relieveIt, yX11_relieveNow, yX11_relieve, yX11_cashier, yX11_sneezeNow, yX11_sneeze, yX11_pardonIt, yX11_pardonNow, yX11_pardon, yX11_passIt, yX11_passNow, yX11_pass, yX11_holds, yX11_later, yX11_moment, yX11_keepDeep, yX11_putDeep, yX11_tryMan, yX11_layRota, yX11_rota, yX11_layNotice, yX11_layOrders, yX11_canBegin, yX11_order, yX11_links, yX11_layAway, yX11_chain, yX11_groupOf, yX11_groups, yX11_likest, yX11_compare, yX11_plate, yX11_forget, yX11_thatCanBe, yX11_canBe, yX11_take, yX11_few, yX11_readOrder, yX11_sumOf, yX11_act, yX11_run, yX11_orders, yX11_giveBack, yX11_stopped, yX11_draw, yX11_drawnAct, yX11_years, yX11_drawn, yX11_count, yX11_status, yJ6_bitCount_0f7a4, x]
noncomputable def sm_y (k : Nat) : MethodName := sm_nth x sm_yl k
noncomputable def sm_byl : List ByteArray := [cX0_init, cX0_copyFrom, cX0_isLawOrNone, cX0_lawOrNone, cX0_inForce, cX1_init, cX1_act, cX1_run, cX1_runOnce, cX1_setWords, cX2_init, cX2_works, cX2_join, cX3_init, cX3_lookAtAll, cX3_arrange, cX3_place, cX3_measure, cX3_nextTo, cX3_along, cX4_init, cX4_clear, cX4_copyFrom, cX4_keep, cX4_takeBack, cX5_init, cX5_told, cX5_setWords, cX5_can, cX5_move, cX5_goUp, cX5_cashier, cX5_hour, cX5_wouldShake, cX6_init, cX6_copyFrom, cX6_open, cX6_put, cX6_closeSkip, cX7_init, cX7_faultOf, cX7_clause, cX7_test, cX7_both, cX7_plain, cX7_sum, cX7_term, cX7_part, cX7_number, cX7_word, cX7_advance, cX7_kindAt, cX7_isSign, cX7_wordIn, cX7_numberOf, cX8_init, cX8_plan, cX8_search, cX8_eyesFor, cX8_shakes, cX8_goOn, cX9_init, cX9_copyFrom, cX9_copyMoving, cX9_isMan, cX9_isCashiered, cX9_fit, cX9_add, cX9_unlike, cX9_groupOf, cX9_alike, cX9_groupCount, cX9_possible, cX9_leftAtMost, cX10_init, cX10_man, cX10_of, cX10_two, cX10_terms, cX10_feed, cX10_end, cX10_row, cX10_pigeons, cX10_law, cX10_orders, cX10_fault, cX10_stopped, cX10_force, cX10_relieve, cX10_sneeze, cX10_pardon, cX10_pass, cX10_undo, cX10_holds, cX10_later, cX10_moment, cX10_rota, cX10_order, cX10_chain, cX10_groups, cX10_likest, cX10_plate, cX10_forget, cX10_canBe, cX10_take, cX10_few, cX10_compare, cX10_years, cX10_drawn, cX10_image, cX10_back, cX10_count, cX10_status, cX10_canBeMan, cX10_bit, cX10_areTwo, cX10_putOnTape, cX10_live, cX10_nextDraw, cX10_deedOf, cX10_settled, cX10_accepted, cX10_refused, cX11_init, cX11_in, cX11_is, cX11_bounded, cX11_many, cX11_tell, cX11_change, cX11_lasting, cX11_keepAll, cX11_putBack, cX11_remember, cX11_undo, cX11_image, cX11_back, cX11_isMan, cX11_isFit, cX11_fitBits, cX11_unlike, cX11_comes, cX11_man, cX11_of, cX11_two, cX11_terms, cX11_row, cX11_pigeons, cX11_four, cX11_feed, cX11_end, cX11_isSmall, cX11_isDigit, cX11_begin, cX11_next, cX11_isWord, cX11_isSign, cX11_must, cX11_number, cX11_fault, cX11_emit, cX11_push, cX11_binds, cX11_settle, cX11_inner, cX11_isCompared, cX11_partAt, cX11_orderPartAt, cX11_openBracket, cX11_leaf, cX11_readPart, cX11_readPlain, cX11_behindSum, cX11_behindTest, cX11_readExpression, cX11_beginText, cX11_endText, cX11_readLaw, cX11_law, cX11_isLaw, cX11_force, cX11_reckon, cX11_reckonAll, cX11_isSo, cX11_tells, cX11_tires, cX11_rests, cX11_isBarred, cX11_noticed, cX11_canRelieve, cX11_relieveIt, cX11_relieveNow, cX11_relieve, cX11_cashier, cX11_sneezeNow, cX11_sneeze, cX11_pardonIt, cX11_pardonNow, cX11_pardon, cX11_passIt, cX11_passNow, cX11_pass, cX11_holds, cX11_later, cX11_moment, cX11_keepDeep, cX11_putDeep, cX11_tryMan, cX11_layRota, cX11_rota, cX11_layNotice, cX11_layOrders, cX11_canBegin, cX11_order, cX11_links, cX11_layAway, cX11_chain, cX11_groupOf, cX11_groups, cX11_likest, cX11_compare, cX11_plate, cX11_forget, cX11_thatCanBe, cX11_canBe, cX11_take, cX11_few, cX11_readOrder, cX11_sumOf, cX11_act, cX11_run, cX11_orders, cX11_giveBack, cX11_stopped, cX11_draw, cX11_drawnAct, cX11_years, cX11_drawn, cX11_count, cX11_status, cJ6_bitCount_0f7a4, code]
noncomputable def sm_by (k : Nat) : ByteArray := sm_nth code sm_byl k
def sm_mll : List Nat := [2, 3, 2, 2, 1, 3, 3, 3, 3, 3, 1, 6, 8, 2, 4, 2, 8, 5, 5, 6, 1, 1, 2, 4, 3, 2, 8, 6, 4, 5, 3, 3, 6, 3, 3, 2, 2, 3, 2, 3, 5, 3, 5, 5, 4, 5, 5, 2, 2, 3, 1, 3, 2, 7, 5, 3, 4, 6, 3, 6, 4, 1, 2, 2, 2, 2, 1, 3, 3, 6, 5, 5, 4, 5, 1, 3, 3, 4, 4, 6, 2, 5, 1, 2, 2, 1, 1, 3, 2, 2, 2, 1, 1, 3, 4, 7, 3, 2, 5, 3, 4, 3, 2, 1, 5, 11, 4, 3, 3, 2, 2, 2, 1, 2, 1, 3, 3, 9, 1, 1, 2, 2, 2, 1, 6, 2, 4, 3, 2, 4, 2, 3, 3, 3, 1, 3, 3, 2, 2, 3, 5, 4, 3, 3, 4, 4, 4, 1, 3, 6, 2, 1, 1, 1, 1, 3, 2, 2, 6, 1, 3, 3, 1, 2, 3, 2, 3, 3, 2, 4, 4, 1, 4, 2, 3, 2, 1, 4, 3, 2, 2, 6, 7, 2, 10, 2, 2, 2, 3, 2, 3, 2, 2, 2, 2, 2, 2, 2, 2, 3, 1, 1, 4, 4, 7, 4, 3, 3, 5, 3, 3, 6, 2, 7, 3, 5, 7, 7, 6, 6, 6, 4, 2, 5, 1, 9, 8, 4, 2, 3, 4, 4, 3, 1, 2, 3, 7, 3, 2, 1, 1, 4]
def sm_ml (k : Nat) : Nat := sm_nth 0 sm_mll k
def sm_rtl : List (Option FieldType) := [none, none, (some .boolean), (some (.object "StatueRelief$Program")), (some (.object "StatueRelief$Program")), none, (some .int), (some .int), (some .boolean), none, none, (some .boolean), (some .boolean), none, none, none, none, none, (some .int), (some .int), none, none, none, none, (some .int), none, (some .int), none, (some .boolean), (some .int), none, none, (some .int), (some .boolean), none, none, (some .boolean), (some .boolean), none, none, (some .int), (some .boolean), (some .boolean), (some .boolean), (some .boolean), (some .boolean), (some .boolean), (some .boolean), (some .boolean), (some .boolean), none, (some .int), (some .boolean), (some .int), (some .int), none, none, none, (some .int), (some .boolean), none, none, none, none, (some .boolean), (some .boolean), (some .int), (some .int), (some .int), (some .int), (some .int), (some .int), (some .int), (some .int), none, (some .int), (some .int), (some .int), (some .int), (some .int), (some .int), (some .int), (some .int), (some .int), (some .int), (some .int), (some .int), (some .int), (some .int), (some .int), (some .int), (some .int), (some .int), (some .int), (some .int), (some .int), (some .int), (some .int), (some .int), (some .int), (some .int), (some .int), (some .int), (some .int), (some .int), (some .long), (some .int), (some .int), (some .int), (some .int), (some .int), (some .int), (some .int), (some .boolean), (some .int), (some .boolean), none, (some .int), (some .int), (some .int), (some .int), (some .int), (some .int), none, (some .boolean), (some .boolean), (some .int), (some .int), (some .int), (some .int), (some .int), none, none, none, (some .int), (some .int), (some .int), (some .boolean), (some .boolean), (some .int), (some .int), (some .int), (some .int), (some .int), (some .int), (some .int), (some .int), (some .int), none, (some .int), (some .int), (some .boolean), (some .boolean), none, none, (some .boolean), (some .boolean), none, (some .int), (some .int), none, none, (some .int), none, (some .int), (some .boolean), (some .int), (some .int), none, none, (some .int), (some .int), (some .int), (some .int), none, none, none, none, (some .int), (some .boolean), (some .int), (some .long), none, (some .boolean), (some .long), (some .int), (some .int), (some .boolean), (some .int), (some .boolean), (some .int), (some .int), (some .int), none, (some .int), (some .int), none, (some .int), (some .int), (some .int), (some .int), (some .int), (some .int), (some .int), (some .int), none, none, (some .boolean), none, (some .int), none, none, (some .boolean), (some .int), (some .boolean), none, (some .int), (some .int), (some .int), (some .int), (some .int), (some .int), (some .int), (some .int), (some .int), (some .int), (some .long), none, (some .int), (some .int), (some .int), (some .int), none, (some .int), (some .int), none, (some .int), (some .int), (some .int), (some .int), (some .int), (some .boolean)]
def sm_rt (k : Nat) : Option FieldType := sm_nth none sm_rtl k
def sm_klaw : Nat := 241
noncomputable def sm_o0 : List (Nat × sm_E) := [(0, .aload_n 0, 1, 0, 0, 0, 0, .null), (1, .invokespecial 3, 3, 0, 0, 1, 110, .null), (4, .aload_n 0, 1, 0, 0, 0, 0, .null), (5, .bipush 6, 2, 0, 0, 0, 0, .int 6), (7, .anewarray 9, 3, 6, 7, 0, 111, .null), (10, .putfield 11, 3, 0, 0, 6, 156, .null), (13, .aload_n 0, 1, 0, 0, 0, 0, .null), (14, .new 9, 3, 6, 7, 0, 111, .null), (17, .dup, 1, 0, 0, 0, 0, .null), (18, .iconst 0, 1, 0, 0, 0, 0, .int 0), (19, .iconst 0, 1, 0, 0, 0, 0, .int 0), (20, .invokespecial 17, 3, 34, 2, 0, 114, .ref 3), (23, .putfield 20, 3, 0, 1, 6, 158, .null), (26, .aload_n 0, 1, 0, 0, 0, 0, .null), (27, .iconst (-1), 1, 0, 0, 0, 0, .int (-1)), (28, .putfield 24, 3, 0, 3, 0, 161, .null), (31, .iconst 0, 1, 0, 0, 0, 0, .int 0), (32, .istore_n 1, 1, 0, 0, 0, 0, .null), (33, .iload_n 1, 1, 0, 0, 0, 0, .null), (34, .bipush 6, 2, 0, 0, 0, 0, .int 6), (36, .if_icmp .ge 27, 3, 63, 0, 0, 0, .null), (39, .aload_n 0, 1, 0, 0, 0, 0, .null), (40, .getfield 11, 3, 0, 0, 2, 156, .null), (43, .iload_n 1, 1, 0, 0, 0, 0, .null), (44, .new 9, 3, 6, 7, 0, 111, .null), (47, .dup, 1, 0, 0, 0, 0, .null), (48, .bipush 12, 2, 0, 0, 0, 0, .int 12), (50, .sipush 200, 3, 0, 0, 0, 0, .int 200), (53, .invokespecial 17, 3, 34, 2, 0, 114, .ref 3), (56, .aastore, 1, 0, 0, 0, 0, .null), (57, .iinc 1 1, 3, 0, 0, 0, 0, .int 1), (60, .goto (-27), 3, 33, 0, 0, 0, .null), (63, .return_, 1, 0, 0, 0, 0, .null)]
noncomputable def sm_o1 : List (Nat × sm_E) := [(0, .iconst 0, 1, 0, 0, 0, 0, .int 0), (1, .istore_n 2, 1, 0, 0, 0, 0, .null), (2, .iload_n 2, 1, 0, 0, 0, 0, .null), (3, .aload_n 1, 1, 0, 0, 0, 0, .null), (4, .getfield 28, 3, 0, 2, 0, 159, .null), (7, .if_icmp .ge 24, 3, 31, 0, 0, 0, .null), (10, .aload_n 0, 1, 0, 0, 0, 0, .null), (11, .getfield 11, 3, 0, 0, 2, 156, .null), (14, .iload_n 2, 1, 0, 0, 0, 0, .null), (15, .aaload, 1, 0, 0, 0, 0, .null), (16, .aload_n 1, 1, 0, 0, 0, 0, .null), (17, .getfield 11, 3, 0, 0, 2, 156, .null), (20, .iload_n 2, 1, 0, 0, 0, 0, .null), (21, .aaload, 1, 0, 0, 0, 0, .null), (22, .invokevirtual 31, 3, 35, 1, 0, 980, .ref 2), (25, .iinc 2 1, 3, 0, 0, 0, 0, .int 1), (28, .goto (-26), 3, 2, 0, 0, 0, .null), (31, .aload_n 0, 1, 0, 0, 0, 0, .null), (32, .aload_n 1, 1, 0, 0, 0, 0, .null), (33, .getfield 28, 3, 0, 2, 0, 159, .null), (36, .putfield 28, 3, 0, 2, 0, 159, .null), (39, .aload_n 0, 1, 0, 0, 0, 0, .null), (40, .aload_n 1, 1, 0, 0, 0, 0, .null), (41, .getfield 24, 3, 0, 3, 0, 161, .null), (44, .putfield 24, 3, 0, 3, 0, 161, .null), (47, .return_, 1, 0, 0, 0, 0, .null)]
noncomputable def sm_o2 : List (Nat × sm_E) := [(0, .iload_n 1, 1, 0, 0, 0, 0, .null), (1, .iconst (-1), 1, 0, 0, 0, 0, .int (-1)), (2, .if_icmp .lt 15, 3, 17, 0, 0, 0, .null), (5, .iload_n 1, 1, 0, 0, 0, 0, .null), (6, .aload_n 0, 1, 0, 0, 0, 0, .null), (7, .getfield 28, 3, 0, 2, 0, 159, .null), (10, .if_icmp .ge 7, 3, 17, 0, 0, 0, .null), (13, .iconst 1, 1, 0, 0, 0, 0, .int 1), (14, .goto 4, 3, 18, 0, 0, 0, .null), (17, .iconst 0, 1, 0, 0, 0, 0, .int 0), (18, .ireturn, 1, 0, 0, 1, 0, .null)]
noncomputable def sm_o3 : List (Nat × sm_E) := [(0, .iload_n 1, 1, 0, 0, 0, 0, .null), (1, .ifCond .lt 20, 3, 21, 0, 0, 0, .null), (4, .iload_n 1, 1, 0, 0, 0, 0, .null), (5, .aload_n 0, 1, 0, 0, 0, 0, .null), (6, .getfield 28, 3, 0, 2, 0, 159, .null), (9, .if_icmp .ge 12, 3, 21, 0, 0, 0, .null), (12, .aload_n 0, 1, 0, 0, 0, 0, .null), (13, .getfield 11, 3, 0, 0, 2, 156, .null), (16, .iload_n 1, 1, 0, 0, 0, 0, .null), (17, .aaload, 1, 0, 0, 0, 0, .null), (18, .goto 7, 3, 25, 0, 0, 0, .null), (21, .aload_n 0, 1, 0, 0, 0, 0, .null), (22, .getfield 20, 3, 0, 1, 2, 158, .null), (25, .areturn, 1, 0, 0, 0, 0, .null)]
noncomputable def sm_o4 : List (Nat × sm_E) := [(0, .aload_n 0, 1, 0, 0, 0, 0, .null), (1, .aload_n 0, 1, 0, 0, 0, 0, .null), (2, .getfield 24, 3, 0, 3, 0, 161, .null), (5, .invokevirtual 35, 3, 3, 1, 0, 474, .ref 2), (8, .areturn, 1, 0, 0, 0, 0, .null)]
noncomputable def sm_o5 : List (Nat × sm_E) := [(0, .aload_n 0, 1, 0, 0, 0, 0, .null), (1, .invokespecial 3, 3, 0, 0, 1, 215, .null), (4, .aload_n 0, 1, 0, 0, 0, 0, .null), (5, .new 9, 3, 2, 4, 0, 216, .null), (8, .dup, 1, 0, 0, 0, 0, .null), (9, .invokespecial 11, 3, 10, 0, 0, 100217, .ref 1), (12, .putfield 12, 3, 1, 2, 6, 238, .null), (15, .aload_n 0, 1, 0, 0, 0, 0, .null), (16, .new 18, 3, 9, 11, 0, 218, .null), (19, .dup, 1, 0, 0, 0, 0, .null), (20, .invokespecial 20, 3, 61, 0, 0, 219, .ref 1), (23, .putfield 21, 3, 1, 3, 6, 239, .null), (26, .aload_n 0, 1, 0, 0, 0, 0, .null), (27, .new 25, 3, 4, 2, 0, 220, .null), (30, .dup, 1, 0, 0, 0, 0, .null), (31, .invokespecial 27, 3, 20, 0, 0, 100222, .ref 1), (34, .putfield 28, 3, 1, 4, 6, 240, .null), (37, .aload_n 0, 1, 0, 0, 0, 0, .null), (38, .new 25, 3, 4, 2, 0, 220, .null), (41, .dup, 1, 0, 0, 0, 0, .null), (42, .invokespecial 27, 3, 20, 0, 0, 100222, .ref 1), (45, .putfield 32, 3, 1, 5, 6, 241, .null), (48, .aload_n 0, 1, 0, 0, 0, 0, .null), (49, .new 35, 3, 6, 7, 0, 234, .null), (52, .dup, 1, 0, 0, 0, 0, .null), (53, .bipush 12, 2, 0, 0, 0, 0, .int 12), (55, .sipush 200, 3, 0, 0, 0, 0, .int 200), (58, .invokespecial 37, 3, 34, 2, 0, 235, .ref 3), (61, .putfield 40, 3, 1, 6, 6, 243, .null), (64, .aload_n 0, 1, 0, 0, 0, 0, .null), (65, .iconst (-1), 1, 0, 0, 0, 0, .int (-1)), (66, .putfield 44, 3, 1, 9, 0, 247, .null), (69, .aload_n 0, 1, 0, 0, 0, 0, .null), (70, .aload_n 1, 1, 0, 0, 0, 0, .null), (71, .putfield 48, 3, 1, 0, 6, 236, .null), (74, .aload_n 0, 1, 0, 0, 0, 0, .null), (75, .aload_n 2, 1, 0, 0, 0, 0, .null), (76, .putfield 51, 3, 1, 1, 6, 237, .null), (79, .return_, 1, 0, 0, 0, 0, .null)]
noncomputable def sm_o6 : List (Nat × sm_E) := [(0, .iload_n 1, 1, 0, 0, 0, 0, .null), (1, .iconst 3, 1, 0, 0, 0, 0, .int 3), (2, .if_icmp .eq 17, 3, 19, 0, 0, 0, .null), (5, .aload_n 0, 1, 0, 0, 0, 0, .null), (6, .getfield 48, 3, 1, 0, 2, 236, .null), (9, .iload_n 2, 1, 0, 0, 0, 0, .null), (10, .invokevirtual 55, 3, 64, 1, 0, 732, .ref 2), (13, .ifCond .ne 6, 3, 19, 0, 0, 0, .null), (16, .bipush (-2), 2, 0, 0, 0, 0, .int (-2)), (18, .ireturn, 1, 0, 0, 0, 0, .null), (19, .aload_n 0, 1, 0, 0, 0, 0, .null), (20, .getfield 51, 3, 1, 1, 2, 237, .null), (23, .iload_n 1, 1, 0, 0, 0, 0, .null), (24, .aload_n 0, 1, 0, 0, 0, 0, .null), (25, .getfield 48, 3, 1, 0, 2, 236, .null), (28, .iload_n 2, 1, 0, 0, 0, 0, .null), (29, .invokevirtual 59, 3, 28, 3, 0, 733, .ref 4), (32, .ifCond .ne 6, 3, 38, 0, 0, 0, .null), (35, .bipush (-3), 2, 0, 0, 0, 0, .int (-3)), (37, .ireturn, 1, 0, 0, 0, 0, .null), (38, .aload_n 0, 1, 0, 0, 0, 0, .null), (39, .getfield 32, 3, 1, 5, 2, 241, .null), (42, .iload_n 1, 1, 0, 0, 0, 0, .null), (43, .aload_n 0, 1, 0, 0, 0, 0, .null), (44, .getfield 48, 3, 1, 0, 2, 236, .null), (47, .invokevirtual 65, 3, 23, 2, 0, 734, .ref 4), (50, .iload_n 1, 1, 0, 0, 0, 0, .null), (51, .iconst 3, 1, 0, 0, 0, 0, .int 3), (52, .if_icmp .ne 17, 3, 69, 0, 0, 0, .null), (55, .aload_n 0, 1, 0, 0, 0, 0, .null), (56, .getfield 51, 3, 1, 1, 2, 237, .null), (59, .aload_n 0, 1, 0, 0, 0, 0, .null), (60, .getfield 48, 3, 1, 0, 2, 236, .null), (63, .invokevirtual 69, 3, 32, 1, 0, 738, .ref 6), (66, .goto 16, 3, 82, 0, 0, 0, .null), (69, .aload_n 0, 1, 0, 0, 0, 0, .null), (70, .getfield 51, 3, 1, 1, 2, 237, .null), (73, .iload_n 1, 1, 0, 0, 0, 0, .null), (74, .aload_n 0, 1, 0, 0, 0, 0, .null), (75, .getfield 48, 3, 1, 0, 2, 236, .null), (78, .iload_n 2, 1, 0, 0, 0, 0, .null), (79, .invokevirtual 73, 3, 29, 3, 0, 751, .ref 5), (82, .ireturn, 1, 0, 0, 0, 0, .null)]
noncomputable def sm_o7 : List (Nat × sm_E) := [(0, .aload_n 0, 1, 0, 0, 0, 0, .null), (1, .getfield 21, 3, 1, 3, 2, 239, .null), (4, .aload_n 0, 1, 0, 0, 0, 0, .null), (5, .getfield 48, 3, 1, 0, 2, 236, .null), (8, .invokevirtual 77, 3, 62, 1, 0, 699, .ref 2), (11, .aload_n 0, 1, 0, 0, 0, 0, .null), (12, .getfield 28, 3, 1, 4, 2, 240, .null), (15, .aload_n 0, 1, 0, 0, 0, 0, .null), (16, .getfield 32, 3, 1, 5, 2, 241, .null), (19, .invokevirtual 81, 3, 22, 1, 0, 710, .ref 2), (22, .aload_n 0, 1, 0, 0, 0, 0, .null), (23, .iconst 0, 1, 0, 0, 0, 0, .int 0), (24, .putfield 84, 3, 1, 7, 0, 245, .null), (27, .aload_n 0, 1, 0, 0, 0, 0, .null), (28, .iconst (-1), 1, 0, 0, 0, 0, .int (-1)), (29, .putfield 87, 3, 1, 8, 0, 246, .null), (32, .iconst 0, 1, 0, 0, 0, 0, .int 0), (33, .istore_n 1, 1, 0, 0, 0, 0, .null), (34, .iload_n 1, 1, 0, 0, 0, 0, .null), (35, .aload_n 0, 1, 0, 0, 0, 0, .null), (36, .getfield 40, 3, 1, 6, 2, 243, .null), (39, .getfield 90, 3, 6, 5, 0, 137, .null), (42, .if_icmp .ge 68, 3, 110, 0, 0, 0, .null), (45, .iconst 0, 1, 0, 0, 0, 0, .int 0), (46, .istore_n 2, 1, 0, 0, 0, 0, .null), (47, .iload_n 2, 1, 0, 0, 0, 0, .null), (48, .aload_n 0, 1, 0, 0, 0, 0, .null), (49, .getfield 40, 3, 1, 6, 2, 243, .null), (52, .getfield 93, 3, 6, 4, 2, 132, .null), (55, .iload_n 1, 1, 0, 0, 0, 0, .null), (56, .iaload, 1, 0, 0, 0, 0, .null), (57, .if_icmp .ge 47, 3, 104, 0, 0, 0, .null), (60, .aload_n 0, 1, 0, 0, 0, 0, .null), (61, .iload_n 1, 1, 0, 0, 0, 0, .null), (62, .invokevirtual 97, 3, 8, 1, 0, 715, .ref 3), (65, .ifCond .ne 33, 3, 98, 0, 0, 0, .null), (68, .aload_n 0, 1, 0, 0, 0, 0, .null), (69, .getfield 48, 3, 1, 0, 2, 236, .null), (72, .aload_n 0, 1, 0, 0, 0, 0, .null), (73, .getfield 21, 3, 1, 3, 2, 239, .null), (76, .invokevirtual 77, 3, 62, 1, 0, 699, .ref 2), (79, .aload_n 0, 1, 0, 0, 0, 0, .null), (80, .getfield 32, 3, 1, 5, 2, 241, .null), (83, .aload_n 0, 1, 0, 0, 0, 0, .null), (84, .getfield 28, 3, 1, 4, 2, 240, .null), (87, .invokevirtual 81, 3, 22, 1, 0, 710, .ref 2), (90, .aload_n 0, 1, 0, 0, 0, 0, .null), (91, .iload_n 1, 1, 0, 0, 0, 0, .null), (92, .putfield 44, 3, 1, 9, 0, 247, .null), (95, .bipush (-3), 2, 0, 0, 0, 0, .int (-3)), (97, .ireturn, 1, 0, 0, 0, 0, .null), (98, .iinc 2 1, 3, 0, 0, 0, 0, .int 1), (101, .goto (-54), 3, 47, 0, 0, 0, .null), (104, .iinc 1 1, 3, 0, 0, 0, 0, .int 1), (107, .goto (-73), 3, 34, 0, 0, 0, .null), (110, .aload_n 0, 1, 0, 0, 0, 0, .null), (111, .getfield 84, 3, 1, 7, 0, 245, .null), (114, .ireturn, 1, 0, 0, 0, 0, .null)]
noncomputable def sm_o8 : List (Nat × sm_E) := [(0, .aload_n 0, 1, 0, 0, 0, 0, .null), (1, .invokevirtual 100, 3, 9, 0, 0, 719, .ref 3), (4, .aload_n 0, 1, 0, 0, 0, 0, .null), (5, .getfield 40, 3, 1, 6, 2, 243, .null), (8, .getfield 103, 3, 6, 3, 2, 130, .null), (11, .iload_n 1, 1, 0, 0, 0, 0, .null), (12, .iaload, 1, 0, 0, 0, 0, .null), (13, .iconst (-1), 1, 0, 0, 0, 0, .int (-1)), (14, .if_icmp .eq 39, 3, 53, 0, 0, 0, .null), (17, .aload_n 0, 1, 0, 0, 0, 0, .null), (18, .getfield 12, 3, 1, 2, 2, 238, .null), (21, .aload_n 0, 1, 0, 0, 0, 0, .null), (22, .getfield 40, 3, 1, 6, 2, 243, .null), (25, .aload_n 0, 1, 0, 0, 0, 0, .null), (26, .getfield 40, 3, 1, 6, 2, 243, .null), (29, .getfield 103, 3, 6, 3, 2, 130, .null), (32, .iload_n 1, 1, 0, 0, 0, 0, .null), (33, .iaload, 1, 0, 0, 0, 0, .null), (34, .invokevirtual 106, 3, 11, 2, 0, 727, .ref 6), (37, .ifCond .eq 14, 3, 51, 0, 0, 0, .null), (40, .aload_n 0, 1, 0, 0, 0, 0, .null), (41, .getfield 12, 3, 1, 2, 2, 238, .null), (44, .getfield 110, 3, 2, 3, 0, 191, .null), (47, .iconst 1, 1, 0, 0, 0, 0, .int 1), (48, .if_icmp .eq 5, 3, 53, 0, 0, 0, .null), (51, .iconst 1, 1, 0, 0, 0, 0, .int 1), (52, .ireturn, 1, 0, 0, 1, 0, .null), (53, .aload_n 0, 1, 0, 0, 0, 0, .null), (54, .getfield 40, 3, 1, 6, 2, 243, .null), (57, .getfield 113, 3, 6, 2, 2, 126, .null), (60, .iload_n 1, 1, 0, 0, 0, 0, .null), (61, .iaload, 1, 0, 0, 0, 0, .null), (62, .iconst (-1), 1, 0, 0, 0, 0, .int (-1)), (63, .if_icmp .eq 28, 3, 91, 0, 0, 0, .null), (66, .aload_n 0, 1, 0, 0, 0, 0, .null), (67, .getfield 12, 3, 1, 2, 2, 238, .null), (70, .aload_n 0, 1, 0, 0, 0, 0, .null), (71, .getfield 40, 3, 1, 6, 2, 243, .null), (74, .aload_n 0, 1, 0, 0, 0, 0, .null), (75, .getfield 40, 3, 1, 6, 2, 243, .null), (78, .getfield 113, 3, 6, 2, 2, 126, .null), (81, .iload_n 1, 1, 0, 0, 0, 0, .null), (82, .iaload, 1, 0, 0, 0, 0, .null), (83, .invokevirtual 106, 3, 11, 2, 0, 727, .ref 6), (86, .ifCond .ne 5, 3, 91, 0, 0, 0, .null), (89, .iconst 0, 1, 0, 0, 0, 0, .int 0), (90, .ireturn, 1, 0, 0, 1, 0, .null), (91, .aload_n 0, 1, 0, 0, 0, 0, .null), (92, .aload_n 0, 1, 0, 0, 0, 0, .null), (93, .getfield 40, 3, 1, 6, 2, 243, .null), (96, .getfield 116, 3, 6, 1, 2, 122, .null), (99, .iload_n 1, 1, 0, 0, 0, 0, .null), (100, .iaload, 1, 0, 0, 0, 0, .null), (101, .aload_n 0, 1, 0, 0, 0, 0, .null), (102, .getfield 40, 3, 1, 6, 2, 243, .null), (105, .getfield 113, 3, 6, 2, 2, 126, .null), (108, .iload_n 1, 1, 0, 0, 0, 0, .null), (109, .iaload, 1, 0, 0, 0, 0, .null), (110, .iconst (-1), 1, 0, 0, 0, 0, .int (-1)), (111, .if_icmp .eq 13, 3, 124, 0, 0, 0, .null), (114, .aload_n 0, 1, 0, 0, 0, 0, .null), (115, .getfield 12, 3, 1, 2, 2, 238, .null), (118, .getfield 110, 3, 2, 3, 0, 191, .null), (121, .goto 4, 3, 125, 0, 0, 0, .null), (124, .iconst (-1), 1, 0, 0, 0, 0, .int (-1)), (125, .invokevirtual 119, 3, 6, 2, 0, 728, .ref 3), (128, .istore_n 2, 1, 0, 0, 0, 0, .null), (129, .iload_n 2, 1, 0, 0, 0, 0, .null), (130, .ifCond .ge 5, 3, 135, 0, 0, 0, .null), (133, .iconst 0, 1, 0, 0, 0, 0, .int 0), (134, .ireturn, 1, 0, 0, 1, 0, .null), (135, .aload_n 0, 1, 0, 0, 0, 0, .null), (136, .getfield 40, 3, 1, 6, 2, 243, .null), (139, .getfield 116, 3, 6, 1, 2, 122, .null), (142, .iload_n 1, 1, 0, 0, 0, 0, .null), (143, .iaload, 1, 0, 0, 0, 0, .null), (144, .ifCond .ne 8, 3, 152, 0, 0, 0, .null), (147, .aload_n 0, 1, 0, 0, 0, 0, .null), (148, .iload_n 2, 1, 0, 0, 0, 0, .null), (149, .putfield 87, 3, 1, 8, 0, 246, .null), (152, .aload_n 0, 1, 0, 0, 0, 0, .null), (153, .dup, 1, 0, 0, 0, 0, .null), (154, .getfield 84, 3, 1, 7, 0, 245, .null), (157, .iconst 1, 1, 0, 0, 0, 0, .int 1), (158, .iadd, 1, 0, 0, 0, 0, .null), (159, .putfield 84, 3, 1, 7, 0, 245, .null), (162, .iconst 1, 1, 0, 0, 0, 0, .int 1), (163, .ireturn, 1, 0, 0, 1, 0, .null)]
noncomputable def sm_o9 : List (Nat × sm_E) := [(0, .aload_n 0, 1, 0, 0, 0, 0, .null), (1, .getfield 12, 3, 1, 2, 2, 238, .null), (4, .getfield 123, 3, 2, 0, 2, 186, .null), (7, .astore_n 1, 1, 0, 0, 0, 0, .null), (8, .aload_n 1, 1, 0, 0, 0, 0, .null), (9, .iconst 0, 1, 0, 0, 0, 0, .int 0), (10, .aload_n 0, 1, 0, 0, 0, 0, .null), (11, .getfield 48, 3, 1, 0, 2, 236, .null), (14, .getfield 126, 3, 9, 3, 2, 49, .null), (17, .iconst 0, 1, 0, 0, 0, 0, .int 0), (18, .iaload, 1, 0, 0, 0, 0, .null), (19, .iastore, 1, 0, 0, 0, 0, .null), (20, .aload_n 1, 1, 0, 0, 0, 0, .null), (21, .iconst 1, 1, 0, 0, 0, 0, .int 1), (22, .aload_n 0, 1, 0, 0, 0, 0, .null), (23, .getfield 84, 3, 1, 7, 0, 245, .null), (26, .iastore, 1, 0, 0, 0, 0, .null), (27, .aload_n 1, 1, 0, 0, 0, 0, .null), (28, .iconst 2, 1, 0, 0, 0, 0, .int 2), (29, .aload_n 0, 1, 0, 0, 0, 0, .null), (30, .getfield 87, 3, 1, 8, 0, 246, .null), (33, .iastore, 1, 0, 0, 0, 0, .null), (34, .aload_n 1, 1, 0, 0, 0, 0, .null), (35, .iconst 3, 1, 0, 0, 0, 0, .int 3), (36, .aload_n 0, 1, 0, 0, 0, 0, .null), (37, .getfield 48, 3, 1, 0, 2, 236, .null), (40, .getfield 129, 3, 9, 6, 0, 68, .null), (43, .iastore, 1, 0, 0, 0, 0, .null), (44, .aload_n 1, 1, 0, 0, 0, 0, .null), (45, .iconst 4, 1, 0, 0, 0, 0, .int 4), (46, .aload_n 0, 1, 0, 0, 0, 0, .null), (47, .getfield 48, 3, 1, 0, 2, 236, .null), (50, .getfield 132, 3, 9, 7, 0, 73, .null), (53, .iastore, 1, 0, 0, 0, 0, .null), (54, .aload_n 1, 1, 0, 0, 0, 0, .null), (55, .iconst 5, 1, 0, 0, 0, 0, .int 5), (56, .aload_n 0, 1, 0, 0, 0, 0, .null), (57, .getfield 48, 3, 1, 0, 2, 236, .null), (60, .invokevirtual 135, 3, 66, 0, 0, 723, .ref 1), (63, .iastore, 1, 0, 0, 0, 0, .null), (64, .iconst 0, 1, 0, 0, 0, 0, .int 0), (65, .istore_n 2, 1, 0, 0, 0, 0, .null), (66, .iload_n 2, 1, 0, 0, 0, 0, .null), (67, .bipush 7, 2, 0, 0, 0, 0, .int 7), (69, .if_icmp .ge 39, 3, 108, 0, 0, 0, .null), (72, .aload_n 1, 1, 0, 0, 0, 0, .null), (73, .bipush 6, 2, 0, 0, 0, 0, .int 6), (75, .iload_n 2, 1, 0, 0, 0, 0, .null), (76, .iadd, 1, 0, 0, 0, 0, .null), (77, .iload_n 2, 1, 0, 0, 0, 0, .null), (78, .aload_n 0, 1, 0, 0, 0, 0, .null), (79, .getfield 48, 3, 1, 0, 2, 236, .null), (82, .getfield 139, 3, 9, 4, 0, 56, .null), (85, .if_icmp .ge 15, 3, 100, 0, 0, 0, .null), (88, .aload_n 0, 1, 0, 0, 0, 0, .null), (89, .getfield 48, 3, 1, 0, 2, 236, .null), (92, .getfield 142, 3, 9, 2, 2, 45, .null), (95, .iload_n 2, 1, 0, 0, 0, 0, .null), (96, .iaload, 1, 0, 0, 0, 0, .null), (97, .goto 4, 3, 101, 0, 0, 0, .null), (100, .iconst (-1), 1, 0, 0, 0, 0, .int (-1)), (101, .iastore, 1, 0, 0, 0, 0, .null), (102, .iinc 2 1, 3, 0, 0, 0, 0, .int 1), (105, .goto (-39), 3, 66, 0, 0, 0, .null), (108, .return_, 1, 0, 0, 0, 0, .null)]
noncomputable def sm_o10 : List (Nat × sm_E) := [(0, .aload_n 0, 1, 0, 0, 0, 0, .null), (1, .invokespecial 3, 3, 0, 0, 1, 183, .null), (4, .aload_n 0, 1, 0, 0, 0, 0, .null), (5, .bipush 13, 2, 0, 0, 0, 0, .int 13), (7, .newarray .int, 2, 0, 0, 0, 0, .null), (9, .putfield 9, 3, 2, 0, 6, 184, .null), (12, .aload_n 0, 1, 0, 0, 0, 0, .null), (13, .bipush 40, 2, 0, 0, 0, 0, .int 40), (15, .newarray .int, 2, 0, 0, 0, 0, .null), (17, .putfield 15, 3, 2, 1, 6, 187, .null), (20, .return_, 1, 0, 0, 0, 0, .null)]
noncomputable def sm_o11 : List (Nat × sm_E) := [(0, .aload_n 0, 1, 0, 0, 0, 0, .null), (1, .iconst 0, 1, 0, 0, 0, 0, .int 0), (2, .putfield 18, 3, 2, 2, 0, 188, .null), (5, .iload_n 2, 1, 0, 0, 0, 0, .null), (6, .iconst 0, 1, 0, 0, 0, 0, .int 0), (7, .invokestatic 22, 3, 0, 0, 2, 500, .null), (10, .istore_n 3, 1, 0, 0, 0, 0, .null), (11, .iload_n 3, 1, 0, 0, 0, 0, .null), (12, .aload_n 1, 1, 0, 0, 0, 0, .null), (13, .getfield 28, 3, 6, 6, 0, 139, .null), (16, .if_icmp .ge 229, 3, 245, 0, 0, 0, .null), (19, .aload_n 1, 1, 0, 0, 0, 0, .null), (20, .getfield 33, 3, 6, 0, 2, 119, .null), (23, .iload_n 3, 1, 0, 0, 0, 0, .null), (24, .iaload, 1, 0, 0, 0, 0, .null), (25, .bipush 15, 2, 0, 0, 0, 0, .int 15), (27, .iand, 1, 0, 0, 0, 0, .null), (28, .istore 4, 2, 0, 0, 0, 0, .null), (30, .aload_n 1, 1, 0, 0, 0, 0, .null), (31, .getfield 33, 3, 6, 0, 2, 119, .null), (34, .iload_n 3, 1, 0, 0, 0, 0, .null), (35, .iaload, 1, 0, 0, 0, 0, .null), (36, .iconst 4, 1, 0, 0, 0, 0, .int 4), (37, .ishr, 1, 0, 0, 0, 0, .null), (38, .istore 5, 2, 0, 0, 0, 0, .null), (40, .iload 4, 2, 0, 0, 0, 0, .null), (42, .ifCond .ne 6, 3, 48, 0, 0, 0, .null), (45, .goto 200, 3, 245, 0, 0, 0, .null), (48, .iload 4, 2, 0, 0, 0, 0, .null), (50, .iconst 1, 1, 0, 0, 0, 0, .int 1), (51, .if_icmp .eq 9, 3, 60, 0, 0, 0, .null), (54, .iload 4, 2, 0, 0, 0, 0, .null), (56, .iconst 2, 1, 0, 0, 0, 0, .int 2), (57, .if_icmp .ne 67, 3, 124, 0, 0, 0, .null), (60, .aload_n 0, 1, 0, 0, 0, 0, .null), (61, .getfield 18, 3, 2, 2, 0, 188, .null), (64, .bipush 40, 2, 0, 0, 0, 0, .int 40), (66, .if_icmp .ge 16, 3, 82, 0, 0, 0, .null), (69, .iload 4, 2, 0, 0, 0, 0, .null), (71, .iconst 2, 1, 0, 0, 0, 0, .int 2), (72, .if_icmp .ne 12, 3, 84, 0, 0, 0, .null), (75, .iload 5, 2, 0, 0, 0, 0, .null), (77, .bipush 13, 2, 0, 0, 0, 0, .int 13), (79, .if_icmp .lt 5, 3, 84, 0, 0, 0, .null), (82, .iconst 0, 1, 0, 0, 0, 0, .int 0), (83, .ireturn, 1, 0, 0, 1, 0, .null), (84, .aload_n 0, 1, 0, 0, 0, 0, .null), (85, .getfield 15, 3, 2, 1, 2, 187, .null), (88, .aload_n 0, 1, 0, 0, 0, 0, .null), (89, .getfield 18, 3, 2, 2, 0, 188, .null), (92, .iload 4, 2, 0, 0, 0, 0, .null), (94, .iconst 2, 1, 0, 0, 0, 0, .int 2), (95, .if_icmp .ne 13, 3, 108, 0, 0, 0, .null), (98, .aload_n 0, 1, 0, 0, 0, 0, .null), (99, .getfield 9, 3, 2, 0, 2, 184, .null), (102, .iload 5, 2, 0, 0, 0, 0, .null), (104, .iaload, 1, 0, 0, 0, 0, .null), (105, .goto 5, 3, 110, 0, 0, 0, .null), (108, .iload 5, 2, 0, 0, 0, 0, .null), (110, .iastore, 1, 0, 0, 0, 0, .null), (111, .aload_n 0, 1, 0, 0, 0, 0, .null), (112, .dup, 1, 0, 0, 0, 0, .null), (113, .getfield 18, 3, 2, 2, 0, 188, .null), (116, .iconst 1, 1, 0, 0, 0, 0, .int 1), (117, .iadd, 1, 0, 0, 0, 0, .null), (118, .putfield 18, 3, 2, 2, 0, 188, .null), (121, .goto 118, 3, 239, 0, 0, 0, .null), (124, .aload_n 0, 1, 0, 0, 0, 0, .null), (125, .getfield 18, 3, 2, 2, 0, 188, .null), (128, .ifCond .ne 5, 3, 133, 0, 0, 0, .null), (131, .iconst 0, 1, 0, 0, 0, 0, .int 0), (132, .ireturn, 1, 0, 0, 1, 0, .null), (133, .iload 4, 2, 0, 0, 0, 0, .null), (135, .bipush 11, 2, 0, 0, 0, 0, .int 11), (137, .if_icmp .ne 30, 3, 167, 0, 0, 0, .null), (140, .aload_n 0, 1, 0, 0, 0, 0, .null), (141, .getfield 15, 3, 2, 1, 2, 187, .null), (144, .aload_n 0, 1, 0, 0, 0, 0, .null), (145, .getfield 18, 3, 2, 2, 0, 188, .null), (148, .iconst 1, 1, 0, 0, 0, 0, .int 1), (149, .isub, 1, 0, 0, 0, 0, .null), (150, .iconst 1, 1, 0, 0, 0, 0, .int 1), (151, .aload_n 0, 1, 0, 0, 0, 0, .null), (152, .getfield 15, 3, 2, 1, 2, 187, .null), (155, .aload_n 0, 1, 0, 0, 0, 0, .null), (156, .getfield 18, 3, 2, 2, 0, 188, .null), (159, .iconst 1, 1, 0, 0, 0, 0, .int 1), (160, .isub, 1, 0, 0, 0, 0, .null), (161, .iaload, 1, 0, 0, 0, 0, .null), (162, .isub, 1, 0, 0, 0, 0, .null), (163, .iastore, 1, 0, 0, 0, 0, .null), (164, .goto 75, 3, 239, 0, 0, 0, .null), (167, .iload 4, 2, 0, 0, 0, 0, .null), (169, .bipush 12, 2, 0, 0, 0, 0, .int 12), (171, .if_icmp .eq 10, 3, 181, 0, 0, 0, .null), (174, .iload 4, 2, 0, 0, 0, 0, .null), (176, .bipush 13, 2, 0, 0, 0, 0, .int 13), (178, .if_icmp .ne 50, 3, 228, 0, 0, 0, .null), (181, .aload_n 0, 1, 0, 0, 0, 0, .null), (182, .getfield 15, 3, 2, 1, 2, 187, .null), (185, .aload_n 0, 1, 0, 0, 0, 0, .null), (186, .getfield 18, 3, 2, 2, 0, 188, .null), (189, .iconst 1, 1, 0, 0, 0, 0, .int 1), (190, .isub, 1, 0, 0, 0, 0, .null), (191, .iaload, 1, 0, 0, 0, 0, .null), (192, .iload 4, 2, 0, 0, 0, 0, .null), (194, .bipush 12, 2, 0, 0, 0, 0, .int 12), (196, .if_icmp .ne 7, 3, 203, 0, 0, 0, .null), (199, .iconst 1, 1, 0, 0, 0, 0, .int 1), (200, .goto 4, 3, 204, 0, 0, 0, .null), (203, .iconst 0, 1, 0, 0, 0, 0, .int 0), (204, .if_icmp .ne 11, 3, 215, 0, 0, 0, .null), (207, .iload_n 3, 1, 0, 0, 0, 0, .null), (208, .iload 5, 2, 0, 0, 0, 0, .null), (210, .iadd, 1, 0, 0, 0, 0, .null), (211, .istore_n 3, 1, 0, 0, 0, 0, .null), (212, .goto 27, 3, 239, 0, 0, 0, .null), (215, .aload_n 0, 1, 0, 0, 0, 0, .null), (216, .dup, 1, 0, 0, 0, 0, .null), (217, .getfield 18, 3, 2, 2, 0, 188, .null), (220, .iconst 1, 1, 0, 0, 0, 0, .int 1), (221, .isub, 1, 0, 0, 0, 0, .null), (222, .putfield 18, 3, 2, 2, 0, 188, .null), (225, .goto 14, 3, 239, 0, 0, 0, .null), (228, .aload_n 0, 1, 0, 0, 0, 0, .null), (229, .iload 4, 2, 0, 0, 0, 0, .null), (231, .invokevirtual 36, 3, 12, 1, 0, 503, .ref 8), (234, .ifCond .ne 5, 3, 239, 0, 0, 0, .null), (237, .iconst 0, 1, 0, 0, 0, 0, .int 0), (238, .ireturn, 1, 0, 0, 1, 0, .null), (239, .iinc 3 1, 3, 0, 0, 0, 0, .int 1), (242, .goto (-231), 3, 11, 0, 0, 0, .null), (245, .aload_n 0, 1, 0, 0, 0, 0, .null), (246, .aload_n 0, 1, 0, 0, 0, 0, .null), (247, .getfield 18, 3, 2, 2, 0, 188, .null), (250, .ifCond .le 17, 3, 267, 0, 0, 0, .null), (253, .aload_n 0, 1, 0, 0, 0, 0, .null), (254, .getfield 15, 3, 2, 1, 2, 187, .null), (257, .aload_n 0, 1, 0, 0, 0, 0, .null), (258, .getfield 18, 3, 2, 2, 0, 188, .null), (261, .iconst 1, 1, 0, 0, 0, 0, .int 1), (262, .isub, 1, 0, 0, 0, 0, .null), (263, .iaload, 1, 0, 0, 0, 0, .null), (264, .goto 4, 3, 268, 0, 0, 0, .null), (267, .iconst 0, 1, 0, 0, 0, 0, .int 0), (268, .putfield 40, 3, 2, 3, 0, 190, .null), (271, .aload_n 0, 1, 0, 0, 0, 0, .null), (272, .getfield 18, 3, 2, 2, 0, 188, .null), (275, .ifCond .le 7, 3, 282, 0, 0, 0, .null), (278, .iconst 1, 1, 0, 0, 0, 0, .int 1), (279, .goto 4, 3, 283, 0, 0, 0, .null), (282, .iconst 0, 1, 0, 0, 0, 0, .int 0), (283, .ireturn, 1, 0, 0, 1, 0, .null)]
noncomputable def sm_o12 : List (Nat × sm_E) := [(0, .aload_n 0, 1, 0, 0, 0, 0, .null), (1, .getfield 18, 3, 2, 2, 0, 188, .null), (4, .iconst 2, 1, 0, 0, 0, 0, .int 2), (5, .if_icmp .ge 5, 3, 10, 0, 0, 0, .null), (8, .iconst 0, 1, 0, 0, 0, 0, .int 0), (9, .ireturn, 1, 0, 0, 1, 0, .null), (10, .aload_n 0, 1, 0, 0, 0, 0, .null), (11, .getfield 15, 3, 2, 1, 2, 187, .null), (14, .aload_n 0, 1, 0, 0, 0, 0, .null), (15, .getfield 18, 3, 2, 2, 0, 188, .null), (18, .iconst 2, 1, 0, 0, 0, 0, .int 2), (19, .isub, 1, 0, 0, 0, 0, .null), (20, .iaload, 1, 0, 0, 0, 0, .null), (21, .i2l, 1, 0, 0, 0, 0, .null), (22, .lstore_n 2, 1, 0, 0, 0, 0, .null), (23, .aload_n 0, 1, 0, 0, 0, 0, .null), (24, .getfield 15, 3, 2, 1, 2, 187, .null), (27, .aload_n 0, 1, 0, 0, 0, 0, .null), (28, .getfield 18, 3, 2, 2, 0, 188, .null), (31, .iconst 1, 1, 0, 0, 0, 0, .int 1), (32, .isub, 1, 0, 0, 0, 0, .null), (33, .iaload, 1, 0, 0, 0, 0, .null), (34, .i2l, 1, 0, 0, 0, 0, .null), (35, .lstore 4, 2, 0, 0, 0, 0, .null), (37, .lload 4, 2, 0, 0, 0, 0, .null), (39, .lconst 0, 1, 0, 0, 0, 0, .long 0), (40, .lcmp, 1, 0, 0, 0, 0, .null), (41, .ifCond .ne 17, 3, 58, 0, 0, 0, .null), (44, .iload_n 1, 1, 0, 0, 0, 0, .null), (45, .bipush 6, 2, 0, 0, 0, 0, .int 6), (47, .if_icmp .eq 9, 3, 56, 0, 0, 0, .null), (50, .iload_n 1, 1, 0, 0, 0, 0, .null), (51, .bipush 7, 2, 0, 0, 0, 0, .int 7), (53, .if_icmp .ne 5, 3, 58, 0, 0, 0, .null), (56, .iconst 0, 1, 0, 0, 0, 0, .int 0), (57, .ireturn, 1, 0, 0, 1, 0, .null), (58, .iload_n 1, 1, 0, 0, 0, 0, .null), (59, .tableswitch 142 3 9 #[41, 50, 59, 68, 88, 108, 125], 41, 201, 0, 0, 0, .null), (100, .lload_n 2, 1, 0, 0, 0, 0, .null), (101, .lload 4, 2, 0, 0, 0, 0, .null), (103, .ladd, 1, 0, 0, 0, 0, .null), (104, .lstore 6, 2, 0, 0, 0, 0, .null), (106, .goto 109, 3, 215, 0, 0, 0, .null), (109, .lload_n 2, 1, 0, 0, 0, 0, .null), (110, .lload 4, 2, 0, 0, 0, 0, .null), (112, .lsub, 1, 0, 0, 0, 0, .null), (113, .lstore 6, 2, 0, 0, 0, 0, .null), (115, .goto 100, 3, 215, 0, 0, 0, .null), (118, .lload_n 2, 1, 0, 0, 0, 0, .null), (119, .lload 4, 2, 0, 0, 0, 0, .null), (121, .lmul, 1, 0, 0, 0, 0, .null), (122, .lstore 6, 2, 0, 0, 0, 0, .null), (124, .goto 91, 3, 215, 0, 0, 0, .null), (127, .lload 4, 2, 0, 0, 0, 0, .null), (129, .lconst 0, 1, 0, 0, 0, 0, .long 0), (130, .lcmp, 1, 0, 0, 0, 0, .null), (131, .ifCond .ne 7, 3, 138, 0, 0, 0, .null), (134, .lconst 0, 1, 0, 0, 0, 0, .long 0), (135, .goto 7, 3, 142, 0, 0, 0, .null), (138, .lload_n 2, 1, 0, 0, 0, 0, .null), (139, .lload 4, 2, 0, 0, 0, 0, .null), (141, .ldiv, 1, 0, 0, 0, 0, .null), (142, .lstore 6, 2, 0, 0, 0, 0, .null), (144, .goto 71, 3, 215, 0, 0, 0, .null), (147, .lload 4, 2, 0, 0, 0, 0, .null), (149, .lconst 0, 1, 0, 0, 0, 0, .long 0), (150, .lcmp, 1, 0, 0, 0, 0, .null), (151, .ifCond .ne 7, 3, 158, 0, 0, 0, .null), (154, .lconst 0, 1, 0, 0, 0, 0, .long 0), (155, .goto 7, 3, 162, 0, 0, 0, .null), (158, .lload_n 2, 1, 0, 0, 0, 0, .null), (159, .lload 4, 2, 0, 0, 0, 0, .null), (161, .lrem, 1, 0, 0, 0, 0, .null), (162, .lstore 6, 2, 0, 0, 0, 0, .null), (164, .goto 51, 3, 215, 0, 0, 0, .null), (167, .lload_n 2, 1, 0, 0, 0, 0, .null), (168, .lload 4, 2, 0, 0, 0, 0, .null), (170, .lcmp, 1, 0, 0, 0, 0, .null), (171, .ifCond .ge 7, 3, 178, 0, 0, 0, .null), (174, .lconst 1, 1, 0, 0, 0, 0, .long 1), (175, .goto 4, 3, 179, 0, 0, 0, .null), (178, .lconst 0, 1, 0, 0, 0, 0, .long 0), (179, .lstore 6, 2, 0, 0, 0, 0, .null), (181, .goto 34, 3, 215, 0, 0, 0, .null), (184, .lload_n 2, 1, 0, 0, 0, 0, .null), (185, .lload 4, 2, 0, 0, 0, 0, .null), (187, .lcmp, 1, 0, 0, 0, 0, .null), (188, .ifCond .le 7, 3, 195, 0, 0, 0, .null), (191, .lconst 1, 1, 0, 0, 0, 0, .long 1), (192, .goto 4, 3, 196, 0, 0, 0, .null), (195, .lconst 0, 1, 0, 0, 0, 0, .long 0), (196, .lstore 6, 2, 0, 0, 0, 0, .null), (198, .goto 17, 3, 215, 0, 0, 0, .null), (201, .lload_n 2, 1, 0, 0, 0, 0, .null), (202, .lload 4, 2, 0, 0, 0, 0, .null), (204, .lcmp, 1, 0, 0, 0, 0, .null), (205, .ifCond .ne 7, 3, 212, 0, 0, 0, .null), (208, .lconst 1, 1, 0, 0, 0, 0, .long 1), (209, .goto 4, 3, 213, 0, 0, 0, .null), (212, .lconst 0, 1, 0, 0, 0, 0, .long 0), (213, .lstore 6, 2, 0, 0, 0, 0, .null), (215, .lload 6, 2, 0, 0, 0, 0, .null), (217, .ldc2_w 43, 3, 0, 0, 0, 507, .long 1000000000), (220, .lcmp, 1, 0, 0, 0, 0, .null), (221, .ifCond .gt 12, 3, 233, 0, 0, 0, .null), (224, .lload 6, 2, 0, 0, 0, 0, .null), (226, .ldc2_w 45, 3, 0, 0, 0, 508, .long (-1000000000)), (229, .lcmp, 1, 0, 0, 0, 0, .null), (230, .ifCond .ge 5, 3, 235, 0, 0, 0, .null), (233, .iconst 0, 1, 0, 0, 0, 0, .int 0), (234, .ireturn, 1, 0, 0, 1, 0, .null), (235, .aload_n 0, 1, 0, 0, 0, 0, .null), (236, .dup, 1, 0, 0, 0, 0, .null), (237, .getfield 18, 3, 2, 2, 0, 188, .null), (240, .iconst 1, 1, 0, 0, 0, 0, .int 1), (241, .isub, 1, 0, 0, 0, 0, .null), (242, .putfield 18, 3, 2, 2, 0, 188, .null), (245, .aload_n 0, 1, 0, 0, 0, 0, .null), (246, .getfield 15, 3, 2, 1, 2, 187, .null), (249, .aload_n 0, 1, 0, 0, 0, 0, .null), (250, .getfield 18, 3, 2, 2, 0, 188, .null), (253, .iconst 1, 1, 0, 0, 0, 0, .int 1), (254, .isub, 1, 0, 0, 0, 0, .null), (255, .lload 6, 2, 0, 0, 0, 0, .null), (257, .l2i, 1, 0, 0, 0, 0, .null), (258, .iastore, 1, 0, 0, 0, 0, .null), (259, .iconst 1, 1, 0, 0, 0, 0, .int 1), (260, .ireturn, 1, 0, 0, 1, 0, .null)]
noncomputable def sm_o13 : List (Nat × sm_E) := [(0, .aload_n 0, 1, 0, 0, 0, 0, .null), (1, .invokespecial 3, 3, 0, 0, 1, 310, .null), (4, .aload_n 0, 1, 0, 0, 0, 0, .null), (5, .bipush 49, 2, 0, 0, 0, 0, .int 49), (7, .newarray .int, 2, 0, 0, 0, 0, .null), (9, .putfield 9, 3, 3, 1, 6, 312, .null), (12, .aload_n 0, 1, 0, 0, 0, 0, .null), (13, .bipush 7, 2, 0, 0, 0, 0, .int 7), (15, .newarray .int, 2, 0, 0, 0, 0, .null), (17, .putfield 15, 3, 3, 3, 6, 315, .null), (20, .aload_n 0, 1, 0, 0, 0, 0, .null), (21, .bipush 7, 2, 0, 0, 0, 0, .int 7), (23, .newarray .int, 2, 0, 0, 0, 0, .null), (25, .putfield 18, 3, 3, 4, 6, 316, .null), (28, .aload_n 0, 1, 0, 0, 0, 0, .null), (29, .bipush 7, 2, 0, 0, 0, 0, .int 7), (31, .newarray .int, 2, 0, 0, 0, 0, .null), (33, .putfield 21, 3, 3, 7, 6, 322, .null), (36, .aload_n 0, 1, 0, 0, 0, 0, .null), (37, .aload_n 1, 1, 0, 0, 0, 0, .null), (38, .putfield 24, 3, 3, 0, 6, 311, .null), (41, .return_, 1, 0, 0, 0, 0, .null)]
noncomputable def sm_o14 : List (Nat × sm_E) := [(0, .aload_n 0, 1, 0, 0, 0, 0, .null), (1, .getfield 28, 3, 3, 2, 3, 313, .null), (4, .ifCond .eq 4, 3, 8, 0, 0, 0, .null), (7, .return_, 1, 0, 0, 0, 0, .null), (8, .iconst 0, 1, 0, 0, 0, 0, .int 0), (9, .istore_n 2, 1, 0, 0, 0, 0, .null), (10, .iload_n 2, 1, 0, 0, 0, 0, .null), (11, .aload_n 1, 1, 0, 0, 0, 0, .null), (12, .getfield 32, 3, 9, 4, 0, 52, .null), (15, .if_icmp .ge 66, 3, 81, 0, 0, 0, .null), (18, .iconst 0, 1, 0, 0, 0, 0, .int 0), (19, .istore_n 3, 1, 0, 0, 0, 0, .null), (20, .iload_n 3, 1, 0, 0, 0, 0, .null), (21, .aload_n 1, 1, 0, 0, 0, 0, .null), (22, .getfield 32, 3, 9, 4, 0, 52, .null), (25, .if_icmp .ge 50, 3, 75, 0, 0, 0, .null), (28, .aload_n 0, 1, 0, 0, 0, 0, .null), (29, .getfield 9, 3, 3, 1, 2, 312, .null), (32, .iload_n 2, 1, 0, 0, 0, 0, .null), (33, .bipush 7, 2, 0, 0, 0, 0, .int 7), (35, .imul, 1, 0, 0, 0, 0, .null), (36, .iload_n 3, 1, 0, 0, 0, 0, .null), (37, .iadd, 1, 0, 0, 0, 0, .null), (38, .iload_n 3, 1, 0, 0, 0, 0, .null), (39, .iload_n 2, 1, 0, 0, 0, 0, .null), (40, .if_icmp .ne 7, 3, 47, 0, 0, 0, .null), (43, .iconst 0, 1, 0, 0, 0, 0, .int 0), (44, .goto 24, 3, 68, 0, 0, 0, .null), (47, .aload_n 0, 1, 0, 0, 0, 0, .null), (48, .getfield 24, 3, 3, 0, 2, 311, .null), (51, .aload_n 0, 1, 0, 0, 0, 0, .null), (52, .getfield 24, 3, 3, 0, 2, 311, .null), (55, .getfield 38, 3, 5, 0, 10, 202, .null), (58, .invokevirtual 44, 3, 4, 0, 0, 866, .ref 1), (61, .iconst 2, 1, 0, 0, 0, 0, .int 2), (62, .aload_n 1, 1, 0, 0, 0, 0, .null), (63, .iload_n 3, 1, 0, 0, 0, 0, .null), (64, .iload_n 2, 1, 0, 0, 0, 0, .null), (65, .invokevirtual 50, 3, 26, 5, 0, 867, .ref 8), (68, .iastore, 1, 0, 0, 0, 0, .null), (69, .iinc 3 1, 3, 0, 0, 0, 0, .int 1), (72, .goto (-52), 3, 20, 0, 0, 0, .null), (75, .iinc 2 1, 3, 0, 0, 0, 0, .int 1), (78, .goto (-68), 3, 10, 0, 0, 0, .null), (81, .aload_n 0, 1, 0, 0, 0, 0, .null), (82, .iconst 1, 1, 0, 0, 0, 0, .int 1), (83, .putfield 28, 3, 3, 2, 3, 313, .null), (86, .return_, 1, 0, 0, 0, 0, .null)]
noncomputable def sm_o15 : List (Nat × sm_E) := [(0, .aload_n 0, 1, 0, 0, 0, 0, .null), (1, .getfield 54, 3, 3, 6, 3, 320, .null), (4, .ifCond .eq 4, 3, 8, 0, 0, 0, .null), (7, .return_, 1, 0, 0, 0, 0, .null), (8, .aload_n 0, 1, 0, 0, 0, 0, .null), (9, .aload_n 1, 1, 0, 0, 0, 0, .null), (10, .invokevirtual 57, 3, 14, 1, 0, 862, .ref 4), (13, .aload_n 0, 1, 0, 0, 0, 0, .null), (14, .ldc 61, 2, 0, 0, 0, 868, .int 1000000), (16, .putfield 62, 3, 3, 5, 0, 318, .null), (19, .aload_n 0, 1, 0, 0, 0, 0, .null), (20, .aload_n 1, 1, 0, 0, 0, 0, .null), (21, .iconst 0, 1, 0, 0, 0, 0, .int 0), (22, .aload_n 1, 1, 0, 0, 0, 0, .null), (23, .getfield 65, 3, 9, 5, 0, 59, .null), (26, .iconst 0, 1, 0, 0, 0, 0, .int 0), (27, .invokevirtual 68, 3, 16, 4, 0, 869, .ref 8), (30, .aload_n 0, 1, 0, 0, 0, 0, .null), (31, .iconst 1, 1, 0, 0, 0, 0, .int 1), (32, .putfield 54, 3, 3, 6, 3, 320, .null), (35, .return_, 1, 0, 0, 0, 0, .null)]
noncomputable def sm_o16 : List (Nat × sm_E) := [(0, .iload_n 2, 1, 0, 0, 0, 0, .null), (1, .aload_n 1, 1, 0, 0, 0, 0, .null), (2, .invokevirtual 72, 3, 66, 0, 0, 873, .ref 1), (5, .if_icmp .ge 9, 3, 14, 0, 0, 0, .null), (8, .iload_n 2, 1, 0, 0, 0, 0, .null), (9, .bipush 7, 2, 0, 0, 0, 0, .int 7), (11, .if_icmp .lt 25, 3, 36, 0, 0, 0, .null), (14, .aload_n 0, 1, 0, 0, 0, 0, .null), (15, .iload 4, 2, 0, 0, 0, 0, .null), (17, .putfield 62, 3, 3, 5, 0, 318, .null), (20, .aload_n 0, 1, 0, 0, 0, 0, .null), (21, .getfield 15, 3, 3, 3, 2, 315, .null), (24, .iconst 0, 1, 0, 0, 0, 0, .int 0), (25, .aload_n 0, 1, 0, 0, 0, 0, .null), (26, .getfield 18, 3, 3, 4, 2, 316, .null), (29, .iconst 0, 1, 0, 0, 0, 0, .int 0), (30, .bipush 7, 2, 0, 0, 0, 0, .int 7), (32, .invokestatic 76, 3, 0, 0, 3, 874, .null), (35, .return_, 1, 0, 0, 0, 0, .null), (36, .iconst 0, 1, 0, 0, 0, 0, .int 0), (37, .istore 5, 2, 0, 0, 0, 0, .null), (39, .iload 5, 2, 0, 0, 0, 0, .null), (41, .aload_n 1, 1, 0, 0, 0, 0, .null), (42, .getfield 32, 3, 9, 4, 0, 52, .null), (45, .if_icmp .ge 123, 3, 168, 0, 0, 0, .null), (48, .iload_n 2, 1, 0, 0, 0, 0, .null), (49, .ifCond .ne 24, 3, 73, 0, 0, 0, .null), (52, .aload_n 1, 1, 0, 0, 0, 0, .null), (53, .getfield 82, 3, 9, 6, 0, 65, .null), (56, .iconst (-1), 1, 0, 0, 0, 0, .int (-1)), (57, .if_icmp .eq 16, 3, 73, 0, 0, 0, .null), (60, .aload_n 1, 1, 0, 0, 0, 0, .null), (61, .getfield 82, 3, 9, 6, 0, 65, .null), (64, .iload 5, 2, 0, 0, 0, 0, .null), (66, .if_icmp .eq 7, 3, 73, 0, 0, 0, .null), (69, .iconst 1, 1, 0, 0, 0, 0, .int 1), (70, .goto 4, 3, 74, 0, 0, 0, .null), (73, .iconst 0, 1, 0, 0, 0, 0, .int 0), (74, .istore 6, 2, 0, 0, 0, 0, .null), (76, .iload 6, 2, 0, 0, 0, 0, .null), (78, .ifCond .ne 84, 3, 162, 0, 0, 0, .null), (81, .iload_n 3, 1, 0, 0, 0, 0, .null), (82, .iload 5, 2, 0, 0, 0, 0, .null), (84, .ishr, 1, 0, 0, 0, 0, .null), (85, .iconst 1, 1, 0, 0, 0, 0, .int 1), (86, .iand, 1, 0, 0, 0, 0, .null), (87, .iconst 1, 1, 0, 0, 0, 0, .int 1), (88, .if_icmp .ne 6, 3, 94, 0, 0, 0, .null), (91, .goto 71, 3, 162, 0, 0, 0, .null), (94, .iload_n 2, 1, 0, 0, 0, 0, .null), (95, .ifCond .ne 7, 3, 102, 0, 0, 0, .null), (98, .iconst 0, 1, 0, 0, 0, 0, .int 0), (99, .goto 22, 3, 121, 0, 0, 0, .null), (102, .aload_n 0, 1, 0, 0, 0, 0, .null), (103, .getfield 9, 3, 3, 1, 2, 312, .null), (106, .aload_n 0, 1, 0, 0, 0, 0, .null), (107, .getfield 15, 3, 3, 3, 2, 315, .null), (110, .iload_n 2, 1, 0, 0, 0, 0, .null), (111, .iconst 1, 1, 0, 0, 0, 0, .int 1), (112, .isub, 1, 0, 0, 0, 0, .null), (113, .iaload, 1, 0, 0, 0, 0, .null), (114, .bipush 7, 2, 0, 0, 0, 0, .int 7), (116, .imul, 1, 0, 0, 0, 0, .null), (117, .iload 5, 2, 0, 0, 0, 0, .null), (119, .iadd, 1, 0, 0, 0, 0, .null), (120, .iaload, 1, 0, 0, 0, 0, .null), (121, .istore 7, 2, 0, 0, 0, 0, .null), (123, .iload 4, 2, 0, 0, 0, 0, .null), (125, .iload 7, 2, 0, 0, 0, 0, .null), (127, .iadd, 1, 0, 0, 0, 0, .null), (128, .aload_n 0, 1, 0, 0, 0, 0, .null), (129, .getfield 62, 3, 3, 5, 0, 318, .null), (132, .if_icmp .ge 30, 3, 162, 0, 0, 0, .null), (135, .aload_n 0, 1, 0, 0, 0, 0, .null), (136, .getfield 15, 3, 3, 3, 2, 315, .null), (139, .iload_n 2, 1, 0, 0, 0, 0, .null), (140, .iload 5, 2, 0, 0, 0, 0, .null), (142, .iastore, 1, 0, 0, 0, 0, .null), (143, .aload_n 0, 1, 0, 0, 0, 0, .null), (144, .aload_n 1, 1, 0, 0, 0, 0, .null), (145, .iload_n 2, 1, 0, 0, 0, 0, .null), (146, .iconst 1, 1, 0, 0, 0, 0, .int 1), (147, .iadd, 1, 0, 0, 0, 0, .null), (148, .iload_n 3, 1, 0, 0, 0, 0, .null), (149, .iconst 1, 1, 0, 0, 0, 0, .int 1), (150, .iload 5, 2, 0, 0, 0, 0, .null), (152, .ishl, 1, 0, 0, 0, 0, .null), (153, .ior, 1, 0, 0, 0, 0, .null), (154, .iload 4, 2, 0, 0, 0, 0, .null), (156, .iload 7, 2, 0, 0, 0, 0, .null), (158, .iadd, 1, 0, 0, 0, 0, .null), (159, .invokevirtual 68, 3, 16, 4, 0, 869, .ref 8), (162, .iinc 5 1, 3, 0, 0, 0, 0, .int 1), (165, .goto (-126), 3, 39, 0, 0, 0, .null), (168, .return_, 1, 0, 0, 0, 0, .null)]
noncomputable def sm_o17 : List (Nat × sm_E) := [(0, .aload_n 0, 1, 0, 0, 0, 0, .null), (1, .aload_n 1, 1, 0, 0, 0, 0, .null), (2, .invokevirtual 57, 3, 14, 1, 0, 862, .ref 4), (5, .iconst 0, 1, 0, 0, 0, 0, .int 0), (6, .istore_n 3, 1, 0, 0, 0, 0, .null), (7, .iload_n 3, 1, 0, 0, 0, 0, .null), (8, .bipush 7, 2, 0, 0, 0, 0, .int 7), (10, .if_icmp .ge 25, 3, 35, 0, 0, 0, .null), (13, .aload_n 0, 1, 0, 0, 0, 0, .null), (14, .getfield 21, 3, 3, 7, 2, 322, .null), (17, .iload_n 3, 1, 0, 0, 0, 0, .null), (18, .iload_n 3, 1, 0, 0, 0, 0, .null), (19, .iload_n 2, 1, 0, 0, 0, 0, .null), (20, .if_icmp .ne 7, 3, 27, 0, 0, 0, .null), (23, .iconst 0, 1, 0, 0, 0, 0, .int 0), (24, .goto 4, 3, 28, 0, 0, 0, .null), (27, .iconst (-1), 1, 0, 0, 0, 0, .int (-1)), (28, .iastore, 1, 0, 0, 0, 0, .null), (29, .iinc 3 1, 3, 0, 0, 0, 0, .int 1), (32, .goto (-25), 3, 7, 0, 0, 0, .null), (35, .iconst 1, 1, 0, 0, 0, 0, .int 1), (36, .istore_n 3, 1, 0, 0, 0, 0, .null), (37, .iload_n 3, 1, 0, 0, 0, 0, .null), (38, .aload_n 1, 1, 0, 0, 0, 0, .null), (39, .getfield 32, 3, 9, 4, 0, 52, .null), (42, .if_icmp .ge 60, 3, 102, 0, 0, 0, .null), (45, .iconst 0, 1, 0, 0, 0, 0, .int 0), (46, .istore 4, 2, 0, 0, 0, 0, .null), (48, .iload 4, 2, 0, 0, 0, 0, .null), (50, .aload_n 1, 1, 0, 0, 0, 0, .null), (51, .getfield 32, 3, 9, 4, 0, 52, .null), (54, .if_icmp .ge 42, 3, 96, 0, 0, 0, .null), (57, .aload_n 0, 1, 0, 0, 0, 0, .null), (58, .getfield 21, 3, 3, 7, 2, 322, .null), (61, .iload 4, 2, 0, 0, 0, 0, .null), (63, .iaload, 1, 0, 0, 0, 0, .null), (64, .iconst (-1), 1, 0, 0, 0, 0, .int (-1)), (65, .if_icmp .ne 25, 3, 90, 0, 0, 0, .null), (68, .aload_n 0, 1, 0, 0, 0, 0, .null), (69, .aload_n 1, 1, 0, 0, 0, 0, .null), (70, .iload 4, 2, 0, 0, 0, 0, .null), (72, .iload_n 3, 1, 0, 0, 0, 0, .null), (73, .iconst 1, 1, 0, 0, 0, 0, .int 1), (74, .isub, 1, 0, 0, 0, 0, .null), (75, .invokevirtual 85, 3, 18, 3, 0, 883, .ref 5), (78, .iconst (-1), 1, 0, 0, 0, 0, .int (-1)), (79, .if_icmp .eq 11, 3, 90, 0, 0, 0, .null), (82, .aload_n 0, 1, 0, 0, 0, 0, .null), (83, .getfield 21, 3, 3, 7, 2, 322, .null), (86, .iload 4, 2, 0, 0, 0, 0, .null), (88, .iload_n 3, 1, 0, 0, 0, 0, .null), (89, .iastore, 1, 0, 0, 0, 0, .null), (90, .iinc 4 1, 3, 0, 0, 0, 0, .int 1), (93, .goto (-45), 3, 48, 0, 0, 0, .null), (96, .iinc 3 1, 3, 0, 0, 0, 0, .int 1), (99, .goto (-62), 3, 37, 0, 0, 0, .null), (102, .return_, 1, 0, 0, 0, 0, .null)]
noncomputable def sm_o18 : List (Nat × sm_E) := [(0, .iconst 0, 1, 0, 0, 0, 0, .int 0), (1, .istore 4, 2, 0, 0, 0, 0, .null), (3, .iload 4, 2, 0, 0, 0, 0, .null), (5, .aload_n 1, 1, 0, 0, 0, 0, .null), (6, .getfield 32, 3, 9, 4, 0, 52, .null), (9, .if_icmp .ge 44, 3, 53, 0, 0, 0, .null), (12, .aload_n 0, 1, 0, 0, 0, 0, .null), (13, .getfield 21, 3, 3, 7, 2, 322, .null), (16, .iload 4, 2, 0, 0, 0, 0, .null), (18, .iaload, 1, 0, 0, 0, 0, .null), (19, .iload_n 3, 1, 0, 0, 0, 0, .null), (20, .if_icmp .ne 27, 3, 47, 0, 0, 0, .null), (23, .aload_n 0, 1, 0, 0, 0, 0, .null), (24, .getfield 9, 3, 3, 1, 2, 312, .null), (27, .iload_n 2, 1, 0, 0, 0, 0, .null), (28, .bipush 7, 2, 0, 0, 0, 0, .int 7), (30, .imul, 1, 0, 0, 0, 0, .null), (31, .iload 4, 2, 0, 0, 0, 0, .null), (33, .iadd, 1, 0, 0, 0, 0, .null), (34, .iaload, 1, 0, 0, 0, 0, .null), (35, .aload_n 1, 1, 0, 0, 0, 0, .null), (36, .getfield 89, 3, 9, 3, 2, 51, .null), (39, .iconst 3, 1, 0, 0, 0, 0, .int 3), (40, .iaload, 1, 0, 0, 0, 0, .null), (41, .if_icmp .gt 6, 3, 47, 0, 0, 0, .null), (44, .iload 4, 2, 0, 0, 0, 0, .null), (46, .ireturn, 1, 0, 0, 0, 0, .null), (47, .iinc 4 1, 3, 0, 0, 0, 0, .int 1), (50, .goto (-47), 3, 3, 0, 0, 0, .null), (53, .iconst (-1), 1, 0, 0, 0, 0, .int (-1)), (54, .ireturn, 1, 0, 0, 0, 0, .null)]
noncomputable def sm_o19 : List (Nat × sm_E) := [(0, .iload_n 2, 1, 0, 0, 0, 0, .null), (1, .istore 4, 2, 0, 0, 0, 0, .null), (3, .iconst 0, 1, 0, 0, 0, 0, .int 0), (4, .istore 5, 2, 0, 0, 0, 0, .null), (6, .iload 5, 2, 0, 0, 0, 0, .null), (8, .iload_n 3, 1, 0, 0, 0, 0, .null), (9, .if_icmp .gt 36, 3, 45, 0, 0, 0, .null), (12, .aload_n 1, 1, 0, 0, 0, 0, .null), (13, .iload 4, 2, 0, 0, 0, 0, .null), (15, .invokevirtual 92, 3, 64, 1, 0, 891, .ref 2), (18, .ifCond .eq 27, 3, 45, 0, 0, 0, .null), (21, .aload_n 0, 1, 0, 0, 0, 0, .null), (22, .aload_n 1, 1, 0, 0, 0, 0, .null), (23, .iload 4, 2, 0, 0, 0, 0, .null), (25, .aload_n 0, 1, 0, 0, 0, 0, .null), (26, .getfield 21, 3, 3, 7, 2, 322, .null), (29, .iload 4, 2, 0, 0, 0, 0, .null), (31, .iaload, 1, 0, 0, 0, 0, .null), (32, .iconst 1, 1, 0, 0, 0, 0, .int 1), (33, .isub, 1, 0, 0, 0, 0, .null), (34, .invokevirtual 85, 3, 18, 3, 0, 883, .ref 5), (37, .istore 4, 2, 0, 0, 0, 0, .null), (39, .iinc 5 1, 3, 0, 0, 0, 0, .int 1), (42, .goto (-36), 3, 6, 0, 0, 0, .null), (45, .iload 4, 2, 0, 0, 0, 0, .null), (47, .ireturn, 1, 0, 0, 0, 0, .null)]
noncomputable def sm_o20 : List (Nat × sm_E) := [(0, .aload_n 0, 1, 0, 0, 0, 0, .null), (1, .invokespecial 5, 3, 0, 0, 1, 225, .null), (4, .aload_n 0, 1, 0, 0, 0, 0, .null), (5, .sipush 192, 3, 0, 0, 0, 0, .int 192), (8, .newarray .int, 2, 0, 0, 0, 0, .null), (10, .putfield 11, 3, 4, 0, 6, 226, .null), (13, .return_, 1, 0, 0, 0, 0, .null)]
noncomputable def sm_o21 : List (Nat × sm_E) := [(0, .aload_n 0, 1, 0, 0, 0, 0, .null), (1, .iconst 0, 1, 0, 0, 0, 0, .int 0), (2, .putfield 15, 3, 4, 1, 0, 227, .null), (5, .return_, 1, 0, 0, 0, 0, .null)]
noncomputable def sm_o22 : List (Nat × sm_E) := [(0, .aload_n 1, 1, 0, 0, 0, 0, .null), (1, .getfield 11, 3, 4, 0, 2, 226, .null), (4, .iconst 0, 1, 0, 0, 0, 0, .int 0), (5, .aload_n 0, 1, 0, 0, 0, 0, .null), (6, .getfield 11, 3, 4, 0, 2, 226, .null), (9, .iconst 0, 1, 0, 0, 0, 0, .int 0), (10, .aload_n 0, 1, 0, 0, 0, 0, .null), (11, .getfield 11, 3, 4, 0, 2, 226, .null), (14, .arraylength, 1, 0, 0, 0, 0, .null), (15, .invokestatic 19, 3, 0, 0, 3, 714, .null), (18, .aload_n 0, 1, 0, 0, 0, 0, .null), (19, .aload_n 1, 1, 0, 0, 0, 0, .null), (20, .getfield 15, 3, 4, 1, 0, 227, .null), (23, .putfield 15, 3, 4, 1, 0, 227, .null), (26, .return_, 1, 0, 0, 0, 0, .null)]
noncomputable def sm_o23 : List (Nat × sm_E) := [(0, .aload_n 0, 1, 0, 0, 0, 0, .null), (1, .getfield 15, 3, 4, 1, 0, 227, .null), (4, .bipush 16, 2, 0, 0, 0, 0, .int 16), (6, .if_icmp .lt 26, 3, 32, 0, 0, 0, .null), (9, .aload_n 0, 1, 0, 0, 0, 0, .null), (10, .getfield 11, 3, 4, 0, 2, 226, .null), (13, .bipush 12, 2, 0, 0, 0, 0, .int 12), (15, .aload_n 0, 1, 0, 0, 0, 0, .null), (16, .getfield 11, 3, 4, 0, 2, 226, .null), (19, .iconst 0, 1, 0, 0, 0, 0, .int 0), (20, .sipush 180, 3, 0, 0, 0, 0, .int 180), (23, .invokestatic 19, 3, 0, 0, 3, 714, .null), (26, .aload_n 0, 1, 0, 0, 0, 0, .null), (27, .bipush 15, 2, 0, 0, 0, 0, .int 15), (29, .putfield 15, 3, 4, 1, 0, 227, .null), (32, .aload_n 0, 1, 0, 0, 0, 0, .null), (33, .getfield 15, 3, 4, 1, 0, 227, .null), (36, .bipush 12, 2, 0, 0, 0, 0, .int 12), (38, .imul, 1, 0, 0, 0, 0, .null), (39, .istore_n 3, 1, 0, 0, 0, 0, .null), (40, .aload_n 0, 1, 0, 0, 0, 0, .null), (41, .getfield 11, 3, 4, 0, 2, 226, .null), (44, .iload_n 3, 1, 0, 0, 0, 0, .null), (45, .iload_n 1, 1, 0, 0, 0, 0, .null), (46, .iastore, 1, 0, 0, 0, 0, .null), (47, .aload_n 0, 1, 0, 0, 0, 0, .null), (48, .getfield 11, 3, 4, 0, 2, 226, .null), (51, .iload_n 3, 1, 0, 0, 0, 0, .null), (52, .iconst 1, 1, 0, 0, 0, 0, .int 1), (53, .iadd, 1, 0, 0, 0, 0, .null), (54, .aload_n 2, 1, 0, 0, 0, 0, .null), (55, .getfield 25, 3, 9, 6, 0, 67, .null), (58, .iastore, 1, 0, 0, 0, 0, .null), (59, .aload_n 0, 1, 0, 0, 0, 0, .null), (60, .getfield 11, 3, 4, 0, 2, 226, .null), (63, .iload_n 3, 1, 0, 0, 0, 0, .null), (64, .iconst 2, 1, 0, 0, 0, 0, .int 2), (65, .iadd, 1, 0, 0, 0, 0, .null), (66, .aload_n 2, 1, 0, 0, 0, 0, .null), (67, .getfield 30, 3, 9, 7, 0, 71, .null), (70, .iastore, 1, 0, 0, 0, 0, .null), (71, .aload_n 0, 1, 0, 0, 0, 0, .null), (72, .getfield 11, 3, 4, 0, 2, 226, .null), (75, .iload_n 3, 1, 0, 0, 0, 0, .null), (76, .iconst 3, 1, 0, 0, 0, 0, .int 3), (77, .iadd, 1, 0, 0, 0, 0, .null), (78, .aload_n 2, 1, 0, 0, 0, 0, .null), (79, .getfield 33, 3, 9, 5, 0, 60, .null), (82, .iastore, 1, 0, 0, 0, 0, .null), (83, .aload_n 0, 1, 0, 0, 0, 0, .null), (84, .getfield 11, 3, 4, 0, 2, 226, .null), (87, .iload_n 3, 1, 0, 0, 0, 0, .null), (88, .iconst 4, 1, 0, 0, 0, 0, .int 4), (89, .iadd, 1, 0, 0, 0, 0, .null), (90, .aload_n 2, 1, 0, 0, 0, 0, .null), (91, .getfield 36, 3, 9, 3, 2, 48, .null), (94, .iconst 0, 1, 0, 0, 0, 0, .int 0), (95, .iaload, 1, 0, 0, 0, 0, .null), (96, .iastore, 1, 0, 0, 0, 0, .null), (97, .aload_n 2, 1, 0, 0, 0, 0, .null), (98, .getfield 39, 3, 9, 2, 2, 44, .null), (101, .iconst 0, 1, 0, 0, 0, 0, .int 0), (102, .aload_n 0, 1, 0, 0, 0, 0, .null), (103, .getfield 11, 3, 4, 0, 2, 226, .null), (106, .iload_n 3, 1, 0, 0, 0, 0, .null), (107, .iconst 5, 1, 0, 0, 0, 0, .int 5), (108, .iadd, 1, 0, 0, 0, 0, .null), (109, .bipush 7, 2, 0, 0, 0, 0, .int 7), (111, .invokestatic 19, 3, 0, 0, 3, 714, .null), (114, .aload_n 0, 1, 0, 0, 0, 0, .null), (115, .dup, 1, 0, 0, 0, 0, .null), (116, .getfield 15, 3, 4, 1, 0, 227, .null), (119, .iconst 1, 1, 0, 0, 0, 0, .int 1), (120, .iadd, 1, 0, 0, 0, 0, .null), (121, .putfield 15, 3, 4, 1, 0, 227, .null), (124, .return_, 1, 0, 0, 0, 0, .null)]
noncomputable def sm_o24 : List (Nat × sm_E) := [(0, .aload_n 0, 1, 0, 0, 0, 0, .null), (1, .getfield 15, 3, 4, 1, 0, 227, .null), (4, .ifCond .ne 5, 3, 9, 0, 0, 0, .null), (7, .iconst (-1), 1, 0, 0, 0, 0, .int (-1)), (8, .ireturn, 1, 0, 0, 0, 0, .null), (9, .aload_n 0, 1, 0, 0, 0, 0, .null), (10, .dup, 1, 0, 0, 0, 0, .null), (11, .getfield 15, 3, 4, 1, 0, 227, .null), (14, .iconst 1, 1, 0, 0, 0, 0, .int 1), (15, .isub, 1, 0, 0, 0, 0, .null), (16, .putfield 15, 3, 4, 1, 0, 227, .null), (19, .aload_n 0, 1, 0, 0, 0, 0, .null), (20, .getfield 15, 3, 4, 1, 0, 227, .null), (23, .bipush 12, 2, 0, 0, 0, 0, .int 12), (25, .imul, 1, 0, 0, 0, 0, .null), (26, .istore_n 2, 1, 0, 0, 0, 0, .null), (27, .aload_n 1, 1, 0, 0, 0, 0, .null), (28, .aload_n 0, 1, 0, 0, 0, 0, .null), (29, .getfield 11, 3, 4, 0, 2, 226, .null), (32, .iload_n 2, 1, 0, 0, 0, 0, .null), (33, .iconst 1, 1, 0, 0, 0, 0, .int 1), (34, .iadd, 1, 0, 0, 0, 0, .null), (35, .iaload, 1, 0, 0, 0, 0, .null), (36, .putfield 25, 3, 9, 6, 0, 67, .null), (39, .aload_n 1, 1, 0, 0, 0, 0, .null), (40, .aload_n 0, 1, 0, 0, 0, 0, .null), (41, .getfield 11, 3, 4, 0, 2, 226, .null), (44, .iload_n 2, 1, 0, 0, 0, 0, .null), (45, .iconst 2, 1, 0, 0, 0, 0, .int 2), (46, .iadd, 1, 0, 0, 0, 0, .null), (47, .iaload, 1, 0, 0, 0, 0, .null), (48, .putfield 30, 3, 9, 7, 0, 71, .null), (51, .aload_n 1, 1, 0, 0, 0, 0, .null), (52, .aload_n 0, 1, 0, 0, 0, 0, .null), (53, .getfield 11, 3, 4, 0, 2, 226, .null), (56, .iload_n 2, 1, 0, 0, 0, 0, .null), (57, .iconst 3, 1, 0, 0, 0, 0, .int 3), (58, .iadd, 1, 0, 0, 0, 0, .null), (59, .iaload, 1, 0, 0, 0, 0, .null), (60, .putfield 33, 3, 9, 5, 0, 60, .null), (63, .aload_n 1, 1, 0, 0, 0, 0, .null), (64, .getfield 36, 3, 9, 3, 2, 48, .null), (67, .iconst 0, 1, 0, 0, 0, 0, .int 0), (68, .aload_n 0, 1, 0, 0, 0, 0, .null), (69, .getfield 11, 3, 4, 0, 2, 226, .null), (72, .iload_n 2, 1, 0, 0, 0, 0, .null), (73, .iconst 4, 1, 0, 0, 0, 0, .int 4), (74, .iadd, 1, 0, 0, 0, 0, .null), (75, .iaload, 1, 0, 0, 0, 0, .null), (76, .iastore, 1, 0, 0, 0, 0, .null), (77, .aload_n 0, 1, 0, 0, 0, 0, .null), (78, .getfield 11, 3, 4, 0, 2, 226, .null), (81, .iload_n 2, 1, 0, 0, 0, 0, .null), (82, .iconst 5, 1, 0, 0, 0, 0, .int 5), (83, .iadd, 1, 0, 0, 0, 0, .null), (84, .aload_n 1, 1, 0, 0, 0, 0, .null), (85, .getfield 39, 3, 9, 2, 2, 44, .null), (88, .iconst 0, 1, 0, 0, 0, 0, .int 0), (89, .bipush 7, 2, 0, 0, 0, 0, .int 7), (91, .invokestatic 19, 3, 0, 0, 3, 714, .null), (94, .aload_n 0, 1, 0, 0, 0, 0, .null), (95, .getfield 11, 3, 4, 0, 2, 226, .null), (98, .iload_n 2, 1, 0, 0, 0, 0, .null), (99, .iaload, 1, 0, 0, 0, 0, .null), (100, .ireturn, 1, 0, 0, 0, 0, .null)]
noncomputable def sm_o25 : List (Nat × sm_E) := [(0, .aload_n 0, 1, 0, 0, 0, 0, .null), (1, .invokespecial 3, 3, 0, 0, 1, 177, .null), (4, .aload_n 0, 1, 0, 0, 0, 0, .null), (5, .new 9, 3, 2, 4, 0, 178, .null), (8, .dup, 1, 0, 0, 0, 0, .null), (9, .invokespecial 11, 3, 10, 0, 0, 100180, .ref 1), (12, .putfield 12, 3, 5, 1, 6, 204, .null), (15, .aload_n 0, 1, 0, 0, 0, 0, .null), (16, .aload_n 1, 1, 0, 0, 0, 0, .null), (17, .putfield 18, 3, 5, 0, 6, 201, .null), (20, .return_, 1, 0, 0, 0, 0, .null)]
noncomputable def sm_o26 : List (Nat × sm_E) := [(0, .iload_n 2, 1, 0, 0, 0, 0, .null), (1, .iconst 2, 1, 0, 0, 0, 0, .int 2), (2, .if_icmp .ne 11, 3, 13, 0, 0, 0, .null), (5, .iload 5, 2, 0, 0, 0, 0, .null), (7, .iconst (-1), 1, 0, 0, 0, 0, .int (-1)), (8, .if_icmp .ne 5, 3, 13, 0, 0, 0, .null), (11, .iconst 0, 1, 0, 0, 0, 0, .int 0), (12, .ireturn, 1, 0, 0, 0, 0, .null), (13, .iload 5, 2, 0, 0, 0, 0, .null), (15, .iconst (-1), 1, 0, 0, 0, 0, .int (-1)), (16, .if_icmp .ne 7, 3, 23, 0, 0, 0, .null), (19, .iconst (-1), 1, 0, 0, 0, 0, .int (-1)), (20, .goto 11, 3, 31, 0, 0, 0, .null), (23, .aload_n 3, 1, 0, 0, 0, 0, .null), (24, .iload 4, 2, 0, 0, 0, 0, .null), (26, .iload 5, 2, 0, 0, 0, 0, .null), (28, .invokevirtual 22, 3, 68, 2, 0, 482, .ref 3), (31, .istore 6, 2, 0, 0, 0, 0, .null), (33, .aload_n 0, 1, 0, 0, 0, 0, .null), (34, .aload_n 3, 1, 0, 0, 0, 0, .null), (35, .iload 4, 2, 0, 0, 0, 0, .null), (37, .iload 5, 2, 0, 0, 0, 0, .null), (39, .iload 6, 2, 0, 0, 0, 0, .null), (41, .invokevirtual 28, 3, 27, 4, 0, 492, .ref 6), (44, .aload_n 1, 1, 0, 0, 0, 0, .null), (45, .getfield 32, 3, 6, 5, 0, 136, .null), (48, .iconst 1, 1, 0, 0, 0, 0, .int 1), (49, .isub, 1, 0, 0, 0, 0, .null), (50, .istore 7, 2, 0, 0, 0, 0, .null), (52, .iload 7, 2, 0, 0, 0, 0, .null), (54, .ifCond .lt 118, 3, 172, 0, 0, 0, .null), (57, .aload_n 1, 1, 0, 0, 0, 0, .null), (58, .getfield 38, 3, 6, 1, 2, 121, .null), (61, .iload 7, 2, 0, 0, 0, 0, .null), (63, .iaload, 1, 0, 0, 0, 0, .null), (64, .iload_n 2, 1, 0, 0, 0, 0, .null), (65, .if_icmp .eq 6, 3, 71, 0, 0, 0, .null), (68, .goto 98, 3, 166, 0, 0, 0, .null), (71, .aload_n 1, 1, 0, 0, 0, 0, .null), (72, .getfield 42, 3, 6, 3, 2, 128, .null), (75, .iload 7, 2, 0, 0, 0, 0, .null), (77, .iaload, 1, 0, 0, 0, 0, .null), (78, .iconst (-1), 1, 0, 0, 0, 0, .int (-1)), (79, .if_icmp .eq 35, 3, 114, 0, 0, 0, .null), (82, .aload_n 0, 1, 0, 0, 0, 0, .null), (83, .getfield 12, 3, 5, 1, 2, 204, .null), (86, .aload_n 1, 1, 0, 0, 0, 0, .null), (87, .aload_n 1, 1, 0, 0, 0, 0, .null), (88, .getfield 42, 3, 6, 3, 2, 128, .null), (91, .iload 7, 2, 0, 0, 0, 0, .null), (93, .iaload, 1, 0, 0, 0, 0, .null), (94, .invokevirtual 45, 3, 11, 2, 0, 496, .ref 6), (97, .ifCond .eq 69, 3, 166, 0, 0, 0, .null), (100, .aload_n 0, 1, 0, 0, 0, 0, .null), (101, .getfield 12, 3, 5, 1, 2, 204, .null), (104, .getfield 49, 3, 2, 3, 0, 189, .null), (107, .iconst 1, 1, 0, 0, 0, 0, .int 1), (108, .if_icmp .eq 6, 3, 114, 0, 0, 0, .null), (111, .goto 55, 3, 166, 0, 0, 0, .null), (114, .iload_n 2, 1, 0, 0, 0, 0, .null), (115, .iconst 3, 1, 0, 0, 0, 0, .int 3), (116, .if_icmp .ne 5, 3, 121, 0, 0, 0, .null), (119, .iconst 1, 1, 0, 0, 0, 0, .int 1), (120, .ireturn, 1, 0, 0, 0, 0, .null), (121, .aload_n 0, 1, 0, 0, 0, 0, .null), (122, .getfield 12, 3, 5, 1, 2, 204, .null), (125, .aload_n 1, 1, 0, 0, 0, 0, .null), (126, .aload_n 1, 1, 0, 0, 0, 0, .null), (127, .getfield 52, 3, 6, 2, 2, 124, .null), (130, .iload 7, 2, 0, 0, 0, 0, .null), (132, .iaload, 1, 0, 0, 0, 0, .null), (133, .invokevirtual 45, 3, 11, 2, 0, 496, .ref 6), (136, .ifCond .eq 30, 3, 166, 0, 0, 0, .null), (139, .iconst 0, 1, 0, 0, 0, 0, .int 0), (140, .aload_n 0, 1, 0, 0, 0, 0, .null), (141, .getfield 12, 3, 5, 1, 2, 204, .null), (144, .getfield 49, 3, 2, 3, 0, 189, .null), (147, .iload_n 2, 1, 0, 0, 0, 0, .null), (148, .iconst 2, 1, 0, 0, 0, 0, .int 2), (149, .if_icmp .ne 8, 3, 157, 0, 0, 0, .null), (152, .bipush 99, 2, 0, 0, 0, 0, .int 99), (154, .goto 5, 3, 159, 0, 0, 0, .null), (157, .bipush 9, 2, 0, 0, 0, 0, .int 9), (159, .invokestatic 55, 3, 0, 0, 1, 509, .null), (162, .invokestatic 60, 3, 0, 0, 2, 512, .null), (165, .ireturn, 1, 0, 0, 0, 0, .null), (166, .iinc 7 (-1), 3, 0, 0, 0, 0, .int (-1)), (169, .goto (-117), 3, 52, 0, 0, 0, .null), (172, .iload_n 2, 1, 0, 0, 0, 0, .null), (173, .iconst 3, 1, 0, 0, 0, 0, .int 3), (174, .if_icmp .ne 5, 3, 179, 0, 0, 0, .null), (177, .iconst 0, 1, 0, 0, 0, 0, .int 0), (178, .ireturn, 1, 0, 0, 0, 0, .null), (179, .iload_n 2, 1, 0, 0, 0, 0, .null), (180, .iconst 2, 1, 0, 0, 0, 0, .int 2), (181, .if_icmp .ne 8, 3, 189, 0, 0, 0, .null), (184, .iload 6, 2, 0, 0, 0, 0, .null), (186, .goto 4, 3, 190, 0, 0, 0, .null), (189, .iconst 1, 1, 0, 0, 0, 0, .int 1), (190, .ireturn, 1, 0, 0, 0, 0, .null)]
noncomputable def sm_o27 : List (Nat × sm_E) := [(0, .aload_n 0, 1, 0, 0, 0, 0, .null), (1, .getfield 12, 3, 5, 1, 2, 204, .null), (4, .getfield 63, 3, 2, 0, 2, 185, .null), (7, .astore 5, 2, 0, 0, 0, 0, .null), (9, .aload 5, 2, 0, 0, 0, 0, .null), (11, .iconst 0, 1, 0, 0, 0, 0, .int 0), (12, .iload_n 2, 1, 0, 0, 0, 0, .null), (13, .iastore, 1, 0, 0, 0, 0, .null), (14, .aload 5, 2, 0, 0, 0, 0, .null), (16, .iconst 1, 1, 0, 0, 0, 0, .int 1), (17, .aload_n 1, 1, 0, 0, 0, 0, .null), (18, .getfield 66, 3, 9, 0, 2, 37, .null), (21, .iload_n 2, 1, 0, 0, 0, 0, .null), (22, .iaload, 1, 0, 0, 0, 0, .null), (23, .iastore, 1, 0, 0, 0, 0, .null), (24, .aload 5, 2, 0, 0, 0, 0, .null), (26, .iconst 2, 1, 0, 0, 0, 0, .int 2), (27, .aload_n 1, 1, 0, 0, 0, 0, .null), (28, .getfield 69, 3, 9, 2, 2, 42, .null), (31, .iload_n 2, 1, 0, 0, 0, 0, .null), (32, .iaload, 1, 0, 0, 0, 0, .null), (33, .iastore, 1, 0, 0, 0, 0, .null), (34, .aload 5, 2, 0, 0, 0, 0, .null), (36, .iconst 3, 1, 0, 0, 0, 0, .int 3), (37, .aload_n 1, 1, 0, 0, 0, 0, .null), (38, .getfield 72, 3, 9, 7, 0, 70, .null), (41, .iastore, 1, 0, 0, 0, 0, .null), (42, .aload 5, 2, 0, 0, 0, 0, .null), (44, .iconst 4, 1, 0, 0, 0, 0, .int 4), (45, .iload_n 3, 1, 0, 0, 0, 0, .null), (46, .iastore, 1, 0, 0, 0, 0, .null), (47, .aload 5, 2, 0, 0, 0, 0, .null), (49, .iconst 5, 1, 0, 0, 0, 0, .int 5), (50, .iload 4, 2, 0, 0, 0, 0, .null), (52, .iastore, 1, 0, 0, 0, 0, .null), (53, .aload 5, 2, 0, 0, 0, 0, .null), (55, .bipush 6, 2, 0, 0, 0, 0, .int 6), (57, .aload_n 1, 1, 0, 0, 0, 0, .null), (58, .getfield 75, 3, 9, 3, 2, 47, .null), (61, .iconst 0, 1, 0, 0, 0, 0, .int 0), (62, .iaload, 1, 0, 0, 0, 0, .null), (63, .iastore, 1, 0, 0, 0, 0, .null), (64, .aload 5, 2, 0, 0, 0, 0, .null), (66, .bipush 7, 2, 0, 0, 0, 0, .int 7), (68, .aload_n 1, 1, 0, 0, 0, 0, .null), (69, .getfield 75, 3, 9, 3, 2, 47, .null), (72, .iconst 2, 1, 0, 0, 0, 0, .int 2), (73, .iaload, 1, 0, 0, 0, 0, .null), (74, .iastore, 1, 0, 0, 0, 0, .null), (75, .return_, 1, 0, 0, 0, 0, .null)]
noncomputable def sm_o28 : List (Nat × sm_E) := [(0, .iload_n 1, 1, 0, 0, 0, 0, .null), (1, .iconst 3, 1, 0, 0, 0, 0, .int 3), (2, .if_icmp .ne 23, 3, 25, 0, 0, 0, .null), (5, .aload_n 2, 1, 0, 0, 0, 0, .null), (6, .getfield 75, 3, 9, 3, 2, 47, .null), (9, .iconst 0, 1, 0, 0, 0, 0, .int 0), (10, .iaload, 1, 0, 0, 0, 0, .null), (11, .getstatic 78, 3, 0, 0, 8, 517, .retAddr 0), (14, .iconst 0, 1, 0, 0, 0, 0, .int 0), (15, .iaload, 1, 0, 0, 0, 0, .null), (16, .if_icmp .ge 7, 3, 23, 0, 0, 0, .null), (19, .iconst 1, 1, 0, 0, 0, 0, .int 1), (20, .goto 4, 3, 24, 0, 0, 0, .null), (23, .iconst 0, 1, 0, 0, 0, 0, .int 0), (24, .ireturn, 1, 0, 0, 1, 0, .null), (25, .iload_n 1, 1, 0, 0, 0, 0, .null), (26, .ifCond .eq 27, 3, 53, 0, 0, 0, .null), (29, .aload_n 2, 1, 0, 0, 0, 0, .null), (30, .iload_n 3, 1, 0, 0, 0, 0, .null), (31, .invokevirtual 81, 3, 65, 1, 0, 518, .ref 2), (34, .iload_n 1, 1, 0, 0, 0, 0, .null), (35, .iconst 2, 1, 0, 0, 0, 0, .int 2), (36, .if_icmp .ne 7, 3, 43, 0, 0, 0, .null), (39, .iconst 1, 1, 0, 0, 0, 0, .int 1), (40, .goto 4, 3, 44, 0, 0, 0, .null), (43, .iconst 0, 1, 0, 0, 0, 0, .int 0), (44, .if_icmp .ne 7, 3, 51, 0, 0, 0, .null), (47, .iconst 1, 1, 0, 0, 0, 0, .int 1), (48, .goto 4, 3, 52, 0, 0, 0, .null), (51, .iconst 0, 1, 0, 0, 0, 0, .int 0), (52, .ireturn, 1, 0, 0, 1, 0, .null), (53, .aload_n 2, 1, 0, 0, 0, 0, .null), (54, .getfield 85, 3, 9, 6, 0, 66, .null), (57, .iload_n 3, 1, 0, 0, 0, 0, .null), (58, .if_icmp .eq 48, 3, 106, 0, 0, 0, .null), (61, .aload_n 2, 1, 0, 0, 0, 0, .null), (62, .iload_n 3, 1, 0, 0, 0, 0, .null), (63, .invokevirtual 81, 3, 65, 1, 0, 518, .ref 2), (66, .ifCond .ne 40, 3, 106, 0, 0, 0, .null), (69, .aload_n 2, 1, 0, 0, 0, 0, .null), (70, .getfield 69, 3, 9, 2, 2, 42, .null), (73, .iload_n 3, 1, 0, 0, 0, 0, .null), (74, .iaload, 1, 0, 0, 0, 0, .null), (75, .aload_n 2, 1, 0, 0, 0, 0, .null), (76, .getfield 66, 3, 9, 0, 2, 37, .null), (79, .iload_n 3, 1, 0, 0, 0, 0, .null), (80, .iaload, 1, 0, 0, 0, 0, .null), (81, .if_icmp .ge 25, 3, 106, 0, 0, 0, .null), (84, .aload_n 0, 1, 0, 0, 0, 0, .null), (85, .aload_n 0, 1, 0, 0, 0, 0, .null), (86, .getfield 18, 3, 5, 0, 2, 201, .null), (89, .invokevirtual 88, 3, 4, 0, 0, 519, .ref 1), (92, .iconst 3, 1, 0, 0, 0, 0, .int 3), (93, .aload_n 2, 1, 0, 0, 0, 0, .null), (94, .iload_n 3, 1, 0, 0, 0, 0, .null), (95, .iconst (-1), 1, 0, 0, 0, 0, .int (-1)), (96, .invokevirtual 94, 3, 26, 5, 0, 520, .ref 8), (99, .ifCond .ne 7, 3, 106, 0, 0, 0, .null), (102, .iconst 1, 1, 0, 0, 0, 0, .int 1), (103, .goto 4, 3, 107, 0, 0, 0, .null), (106, .iconst 0, 1, 0, 0, 0, 0, .int 0), (107, .ireturn, 1, 0, 0, 1, 0, .null)]
noncomputable def sm_o29 : List (Nat × sm_E) := [(0, .iload_n 1, 1, 0, 0, 0, 0, .null), (1, .ifCond .ne 32, 3, 33, 0, 0, 0, .null), (4, .aload_n 0, 1, 0, 0, 0, 0, .null), (5, .aload_n 0, 1, 0, 0, 0, 0, .null), (6, .getfield 18, 3, 5, 0, 2, 201, .null), (9, .invokevirtual 88, 3, 4, 0, 0, 519, .ref 1), (12, .iconst 2, 1, 0, 0, 0, 0, .int 2), (13, .aload_n 2, 1, 0, 0, 0, 0, .null), (14, .iload_n 3, 1, 0, 0, 0, 0, .null), (15, .aload_n 2, 1, 0, 0, 0, 0, .null), (16, .getfield 85, 3, 9, 6, 0, 66, .null), (19, .invokevirtual 94, 3, 26, 5, 0, 520, .ref 8), (22, .istore 4, 2, 0, 0, 0, 0, .null), (24, .aload_n 0, 1, 0, 0, 0, 0, .null), (25, .aload_n 2, 1, 0, 0, 0, 0, .null), (26, .iload_n 3, 1, 0, 0, 0, 0, .null), (27, .invokevirtual 98, 3, 30, 2, 0, 747, .ref 3), (30, .iload 4, 2, 0, 0, 0, 0, .null), (32, .ireturn, 1, 0, 0, 0, 0, .null), (33, .iload_n 1, 1, 0, 0, 0, 0, .null), (34, .iconst 1, 1, 0, 0, 0, 0, .int 1), (35, .if_icmp .ne 12, 3, 47, 0, 0, 0, .null), (38, .aload_n 0, 1, 0, 0, 0, 0, .null), (39, .aload_n 2, 1, 0, 0, 0, 0, .null), (40, .iload_n 3, 1, 0, 0, 0, 0, .null), (41, .invokevirtual 102, 3, 31, 2, 0, 743, .ref 3), (44, .goto 24, 3, 68, 0, 0, 0, .null), (47, .aload_n 2, 1, 0, 0, 0, 0, .null), (48, .dup, 1, 0, 0, 0, 0, .null), (49, .getfield 105, 3, 9, 5, 0, 61, .null), (52, .iconst 1, 1, 0, 0, 0, 0, .int 1), (53, .iload_n 3, 1, 0, 0, 0, 0, .null), (54, .ishl, 1, 0, 0, 0, 0, .null), (55, .iconst (-1), 1, 0, 0, 0, 0, .int (-1)), (56, .ixor, 1, 0, 0, 0, 0, .null), (57, .iand, 1, 0, 0, 0, 0, .null), (58, .putfield 105, 3, 9, 5, 0, 61, .null), (61, .aload_n 2, 1, 0, 0, 0, 0, .null), (62, .getfield 69, 3, 9, 2, 2, 42, .null), (65, .iload_n 3, 1, 0, 0, 0, 0, .null), (66, .iconst 0, 1, 0, 0, 0, 0, .int 0), (67, .iastore, 1, 0, 0, 0, 0, .null), (68, .aload_n 2, 1, 0, 0, 0, 0, .null), (69, .invokevirtual 108, 3, 66, 0, 0, 755, .ref 1), (72, .ireturn, 1, 0, 0, 0, 0, .null)]
noncomputable def sm_o30 : List (Nat × sm_E) := [(0, .aload_n 1, 1, 0, 0, 0, 0, .null), (1, .iload_n 2, 1, 0, 0, 0, 0, .null), (2, .putfield 85, 3, 9, 6, 0, 66, .null), (5, .aload_n 1, 1, 0, 0, 0, 0, .null), (6, .iconst 0, 1, 0, 0, 0, 0, .int 0), (7, .putfield 72, 3, 9, 7, 0, 70, .null), (10, .return_, 1, 0, 0, 0, 0, .null)]
noncomputable def sm_o31 : List (Nat × sm_E) := [(0, .aload_n 1, 1, 0, 0, 0, 0, .null), (1, .dup, 1, 0, 0, 0, 0, .null), (2, .getfield 105, 3, 9, 5, 0, 61, .null), (5, .iconst 1, 1, 0, 0, 0, 0, .int 1), (6, .iload_n 2, 1, 0, 0, 0, 0, .null), (7, .ishl, 1, 0, 0, 0, 0, .null), (8, .ior, 1, 0, 0, 0, 0, .null), (9, .putfield 105, 3, 9, 5, 0, 61, .null), (12, .aload_n 1, 1, 0, 0, 0, 0, .null), (13, .getfield 85, 3, 9, 6, 0, 66, .null), (16, .iload_n 2, 1, 0, 0, 0, 0, .null), (17, .if_icmp .ne 9, 3, 26, 0, 0, 0, .null), (20, .aload_n 0, 1, 0, 0, 0, 0, .null), (21, .aload_n 1, 1, 0, 0, 0, 0, .null), (22, .iconst (-1), 1, 0, 0, 0, 0, .int (-1)), (23, .invokevirtual 98, 3, 30, 2, 0, 747, .ref 3), (26, .return_, 1, 0, 0, 0, 0, .null)]
noncomputable def sm_o32 : List (Nat × sm_E) := [(0, .aload_n 0, 1, 0, 0, 0, 0, .null), (1, .getfield 18, 3, 5, 0, 2, 201, .null), (4, .invokevirtual 88, 3, 4, 0, 0, 519, .ref 1), (7, .astore_n 2, 1, 0, 0, 0, 0, .null), (8, .aload_n 1, 1, 0, 0, 0, 0, .null), (9, .getfield 85, 3, 9, 6, 0, 66, .null), (12, .istore_n 3, 1, 0, 0, 0, 0, .null), (13, .iconst 0, 1, 0, 0, 0, 0, .int 0), (14, .istore 4, 2, 0, 0, 0, 0, .null), (16, .iload 4, 2, 0, 0, 0, 0, .null), (18, .aload_n 1, 1, 0, 0, 0, 0, .null), (19, .getfield 112, 3, 9, 4, 0, 57, .null), (22, .if_icmp .ge 75, 3, 97, 0, 0, 0, .null), (25, .aload_n 1, 1, 0, 0, 0, 0, .null), (26, .getfield 69, 3, 9, 2, 2, 42, .null), (29, .iload 4, 2, 0, 0, 0, 0, .null), (31, .iaload, 1, 0, 0, 0, 0, .null), (32, .istore 5, 2, 0, 0, 0, 0, .null), (34, .iload 4, 2, 0, 0, 0, 0, .null), (36, .iload_n 3, 1, 0, 0, 0, 0, .null), (37, .if_icmp .ne 26, 3, 63, 0, 0, 0, .null), (40, .bipush 99, 2, 0, 0, 0, 0, .int 99), (42, .iload 5, 2, 0, 0, 0, 0, .null), (44, .aload_n 0, 1, 0, 0, 0, 0, .null), (45, .aload_n 2, 1, 0, 0, 0, 0, .null), (46, .iconst 0, 1, 0, 0, 0, 0, .int 0), (47, .aload_n 1, 1, 0, 0, 0, 0, .null), (48, .iload 4, 2, 0, 0, 0, 0, .null), (50, .iconst (-1), 1, 0, 0, 0, 0, .int (-1)), (51, .invokevirtual 94, 3, 26, 5, 0, 520, .ref 8), (54, .iadd, 1, 0, 0, 0, 0, .null), (55, .invokestatic 55, 3, 0, 0, 1, 509, .null), (58, .istore 5, 2, 0, 0, 0, 0, .null), (60, .goto 22, 3, 82, 0, 0, 0, .null), (63, .iconst 0, 1, 0, 0, 0, 0, .int 0), (64, .iload 5, 2, 0, 0, 0, 0, .null), (66, .aload_n 0, 1, 0, 0, 0, 0, .null), (67, .aload_n 2, 1, 0, 0, 0, 0, .null), (68, .iconst 1, 1, 0, 0, 0, 0, .int 1), (69, .aload_n 1, 1, 0, 0, 0, 0, .null), (70, .iload 4, 2, 0, 0, 0, 0, .null), (72, .iconst (-1), 1, 0, 0, 0, 0, .int (-1)), (73, .invokevirtual 94, 3, 26, 5, 0, 520, .ref 8), (76, .isub, 1, 0, 0, 0, 0, .null), (77, .invokestatic 60, 3, 0, 0, 2, 512, .null), (80, .istore 5, 2, 0, 0, 0, 0, .null), (82, .aload_n 1, 1, 0, 0, 0, 0, .null), (83, .getfield 69, 3, 9, 2, 2, 42, .null), (86, .iload 4, 2, 0, 0, 0, 0, .null), (88, .iload 5, 2, 0, 0, 0, 0, .null), (90, .iastore, 1, 0, 0, 0, 0, .null), (91, .iinc 4 1, 3, 0, 0, 0, 0, .int 1), (94, .goto (-78), 3, 16, 0, 0, 0, .null), (97, .aload_n 1, 1, 0, 0, 0, 0, .null), (98, .getfield 75, 3, 9, 3, 2, 47, .null), (101, .iconst 0, 1, 0, 0, 0, 0, .int 0), (102, .dup2, 1, 0, 0, 0, 0, .null), (103, .iaload, 1, 0, 0, 0, 0, .null), (104, .iconst 1, 1, 0, 0, 0, 0, .int 1), (105, .iadd, 1, 0, 0, 0, 0, .null), (106, .iastore, 1, 0, 0, 0, 0, .null), (107, .aload_n 1, 1, 0, 0, 0, 0, .null), (108, .iload_n 3, 1, 0, 0, 0, 0, .null), (109, .invokevirtual 115, 3, 64, 1, 0, 742, .ref 2), (112, .ifCond .ne 5, 3, 117, 0, 0, 0, .null), (115, .iconst 0, 1, 0, 0, 0, 0, .int 0), (116, .ireturn, 1, 0, 0, 0, 0, .null), (117, .aload_n 1, 1, 0, 0, 0, 0, .null), (118, .bipush 99, 2, 0, 0, 0, 0, .int 99), (120, .aload_n 1, 1, 0, 0, 0, 0, .null), (121, .getfield 72, 3, 9, 7, 0, 70, .null), (124, .iconst 1, 1, 0, 0, 0, 0, .int 1), (125, .iadd, 1, 0, 0, 0, 0, .null), (126, .invokestatic 55, 3, 0, 0, 1, 509, .null), (129, .putfield 72, 3, 9, 7, 0, 70, .null), (132, .aload_n 1, 1, 0, 0, 0, 0, .null), (133, .getfield 69, 3, 9, 2, 2, 42, .null), (136, .iload_n 3, 1, 0, 0, 0, 0, .null), (137, .iaload, 1, 0, 0, 0, 0, .null), (138, .aload_n 1, 1, 0, 0, 0, 0, .null), (139, .getfield 66, 3, 9, 0, 2, 37, .null), (142, .iload_n 3, 1, 0, 0, 0, 0, .null), (143, .iaload, 1, 0, 0, 0, 0, .null), (144, .if_icmp .gt 5, 3, 149, 0, 0, 0, .null), (147, .iconst 0, 1, 0, 0, 0, 0, .int 0), (148, .ireturn, 1, 0, 0, 0, 0, .null), (149, .aload_n 0, 1, 0, 0, 0, 0, .null), (150, .aload_n 1, 1, 0, 0, 0, 0, .null), (151, .iload_n 3, 1, 0, 0, 0, 0, .null), (152, .invokevirtual 102, 3, 31, 2, 0, 743, .ref 3), (155, .iconst 1, 1, 0, 0, 0, 0, .int 1), (156, .ireturn, 1, 0, 0, 0, 0, .null)]
noncomputable def sm_o33 : List (Nat × sm_E) := [(0, .aload_n 1, 1, 0, 0, 0, 0, .null), (1, .getfield 85, 3, 9, 6, 0, 66, .null), (4, .istore_n 2, 1, 0, 0, 0, 0, .null), (5, .aload_n 1, 1, 0, 0, 0, 0, .null), (6, .iload_n 2, 1, 0, 0, 0, 0, .null), (7, .invokevirtual 115, 3, 64, 1, 0, 742, .ref 2), (10, .ifCond .ne 5, 3, 15, 0, 0, 0, .null), (13, .iconst 0, 1, 0, 0, 0, 0, .int 0), (14, .ireturn, 1, 0, 0, 1, 0, .null), (15, .aload_n 1, 1, 0, 0, 0, 0, .null), (16, .getfield 69, 3, 9, 2, 2, 42, .null), (19, .iload_n 2, 1, 0, 0, 0, 0, .null), (20, .iaload, 1, 0, 0, 0, 0, .null), (21, .aload_n 0, 1, 0, 0, 0, 0, .null), (22, .aload_n 0, 1, 0, 0, 0, 0, .null), (23, .getfield 18, 3, 5, 0, 2, 201, .null), (26, .invokevirtual 88, 3, 4, 0, 0, 519, .ref 1), (29, .iconst 0, 1, 0, 0, 0, 0, .int 0), (30, .aload_n 1, 1, 0, 0, 0, 0, .null), (31, .iload_n 2, 1, 0, 0, 0, 0, .null), (32, .iconst (-1), 1, 0, 0, 0, 0, .int (-1)), (33, .invokevirtual 94, 3, 26, 5, 0, 520, .ref 8), (36, .iadd, 1, 0, 0, 0, 0, .null), (37, .aload_n 1, 1, 0, 0, 0, 0, .null), (38, .getfield 66, 3, 9, 0, 2, 37, .null), (41, .iload_n 2, 1, 0, 0, 0, 0, .null), (42, .iaload, 1, 0, 0, 0, 0, .null), (43, .if_icmp .le 7, 3, 50, 0, 0, 0, .null), (46, .iconst 1, 1, 0, 0, 0, 0, .int 1), (47, .goto 4, 3, 51, 0, 0, 0, .null), (50, .iconst 0, 1, 0, 0, 0, 0, .int 0), (51, .ireturn, 1, 0, 0, 1, 0, .null)]
noncomputable def sm_o34 : List (Nat × sm_E) := [(0, .aload_n 0, 1, 0, 0, 0, 0, .null), (1, .invokespecial 3, 3, 0, 0, 1, 117, .null), (4, .aload_n 0, 1, 0, 0, 0, 0, .null), (5, .iload_n 2, 1, 0, 0, 0, 0, .null), (6, .newarray .int, 2, 0, 0, 0, 0, .null), (8, .putfield 9, 3, 6, 0, 6, 118, .null), (11, .aload_n 0, 1, 0, 0, 0, 0, .null), (12, .iload_n 1, 1, 0, 0, 0, 0, .null), (13, .newarray .int, 2, 0, 0, 0, 0, .null), (15, .putfield 15, 3, 6, 1, 6, 120, .null), (18, .aload_n 0, 1, 0, 0, 0, 0, .null), (19, .iload_n 1, 1, 0, 0, 0, 0, .null), (20, .newarray .int, 2, 0, 0, 0, 0, .null), (22, .putfield 18, 3, 6, 2, 6, 123, .null), (25, .aload_n 0, 1, 0, 0, 0, 0, .null), (26, .iload_n 1, 1, 0, 0, 0, 0, .null), (27, .newarray .int, 2, 0, 0, 0, 0, .null), (29, .putfield 21, 3, 6, 3, 6, 127, .null), (32, .aload_n 0, 1, 0, 0, 0, 0, .null), (33, .iload_n 1, 1, 0, 0, 0, 0, .null), (34, .newarray .int, 2, 0, 0, 0, 0, .null), (36, .putfield 24, 3, 6, 4, 6, 131, .null), (39, .return_, 1, 0, 0, 0, 0, .null)]
noncomputable def sm_o35 : List (Nat × sm_E) := [(0, .aload_n 1, 1, 0, 0, 0, 0, .null), (1, .getfield 9, 3, 6, 0, 2, 118, .null), (4, .iconst 0, 1, 0, 0, 0, 0, .int 0), (5, .aload_n 0, 1, 0, 0, 0, 0, .null), (6, .getfield 9, 3, 6, 0, 2, 118, .null), (9, .iconst 0, 1, 0, 0, 0, 0, .int 0), (10, .aload_n 1, 1, 0, 0, 0, 0, .null), (11, .getfield 27, 3, 6, 6, 0, 138, .null), (14, .invokestatic 31, 3, 0, 0, 3, 984, .null), (17, .aload_n 1, 1, 0, 0, 0, 0, .null), (18, .getfield 15, 3, 6, 1, 2, 120, .null), (21, .iconst 0, 1, 0, 0, 0, 0, .int 0), (22, .aload_n 0, 1, 0, 0, 0, 0, .null), (23, .getfield 15, 3, 6, 1, 2, 120, .null), (26, .iconst 0, 1, 0, 0, 0, 0, .int 0), (27, .aload_n 1, 1, 0, 0, 0, 0, .null), (28, .getfield 37, 3, 6, 5, 0, 135, .null), (31, .invokestatic 31, 3, 0, 0, 3, 984, .null), (34, .aload_n 1, 1, 0, 0, 0, 0, .null), (35, .getfield 18, 3, 6, 2, 2, 123, .null), (38, .iconst 0, 1, 0, 0, 0, 0, .int 0), (39, .aload_n 0, 1, 0, 0, 0, 0, .null), (40, .getfield 18, 3, 6, 2, 2, 123, .null), (43, .iconst 0, 1, 0, 0, 0, 0, .int 0), (44, .aload_n 1, 1, 0, 0, 0, 0, .null), (45, .getfield 37, 3, 6, 5, 0, 135, .null), (48, .invokestatic 31, 3, 0, 0, 3, 984, .null), (51, .aload_n 1, 1, 0, 0, 0, 0, .null), (52, .getfield 21, 3, 6, 3, 2, 127, .null), (55, .iconst 0, 1, 0, 0, 0, 0, .int 0), (56, .aload_n 0, 1, 0, 0, 0, 0, .null), (57, .getfield 21, 3, 6, 3, 2, 127, .null), (60, .iconst 0, 1, 0, 0, 0, 0, .int 0), (61, .aload_n 1, 1, 0, 0, 0, 0, .null), (62, .getfield 37, 3, 6, 5, 0, 135, .null), (65, .invokestatic 31, 3, 0, 0, 3, 984, .null), (68, .aload_n 1, 1, 0, 0, 0, 0, .null), (69, .getfield 24, 3, 6, 4, 2, 131, .null), (72, .iconst 0, 1, 0, 0, 0, 0, .int 0), (73, .aload_n 0, 1, 0, 0, 0, 0, .null), (74, .getfield 24, 3, 6, 4, 2, 131, .null), (77, .iconst 0, 1, 0, 0, 0, 0, .int 0), (78, .aload_n 1, 1, 0, 0, 0, 0, .null), (79, .getfield 37, 3, 6, 5, 0, 135, .null), (82, .invokestatic 31, 3, 0, 0, 3, 984, .null), (85, .aload_n 0, 1, 0, 0, 0, 0, .null), (86, .aload_n 1, 1, 0, 0, 0, 0, .null), (87, .getfield 37, 3, 6, 5, 0, 135, .null), (90, .putfield 37, 3, 6, 5, 0, 135, .null), (93, .aload_n 0, 1, 0, 0, 0, 0, .null), (94, .aload_n 1, 1, 0, 0, 0, 0, .null), (95, .getfield 27, 3, 6, 6, 0, 138, .null), (98, .putfield 27, 3, 6, 6, 0, 138, .null), (101, .return_, 1, 0, 0, 0, 0, .null)]
noncomputable def sm_o36 : List (Nat × sm_E) := [(0, .aload_n 0, 1, 0, 0, 0, 0, .null), (1, .getfield 37, 3, 6, 5, 0, 135, .null), (4, .aload_n 0, 1, 0, 0, 0, 0, .null), (5, .getfield 15, 3, 6, 1, 2, 120, .null), (8, .arraylength, 1, 0, 0, 0, 0, .null), (9, .if_icmp .lt 5, 3, 14, 0, 0, 0, .null), (12, .iconst 0, 1, 0, 0, 0, 0, .int 0), (13, .ireturn, 1, 0, 0, 1, 0, .null), (14, .aload_n 0, 1, 0, 0, 0, 0, .null), (15, .getfield 15, 3, 6, 1, 2, 120, .null), (18, .aload_n 0, 1, 0, 0, 0, 0, .null), (19, .getfield 37, 3, 6, 5, 0, 135, .null), (22, .iload_n 1, 1, 0, 0, 0, 0, .null), (23, .iastore, 1, 0, 0, 0, 0, .null), (24, .aload_n 0, 1, 0, 0, 0, 0, .null), (25, .getfield 18, 3, 6, 2, 2, 123, .null), (28, .aload_n 0, 1, 0, 0, 0, 0, .null), (29, .getfield 37, 3, 6, 5, 0, 135, .null), (32, .iconst (-1), 1, 0, 0, 0, 0, .int (-1)), (33, .iastore, 1, 0, 0, 0, 0, .null), (34, .aload_n 0, 1, 0, 0, 0, 0, .null), (35, .getfield 21, 3, 6, 3, 2, 127, .null), (38, .aload_n 0, 1, 0, 0, 0, 0, .null), (39, .getfield 37, 3, 6, 5, 0, 135, .null), (42, .iconst (-1), 1, 0, 0, 0, 0, .int (-1)), (43, .iastore, 1, 0, 0, 0, 0, .null), (44, .aload_n 0, 1, 0, 0, 0, 0, .null), (45, .getfield 24, 3, 6, 4, 2, 131, .null), (48, .aload_n 0, 1, 0, 0, 0, 0, .null), (49, .getfield 37, 3, 6, 5, 0, 135, .null), (52, .iconst 1, 1, 0, 0, 0, 0, .int 1), (53, .iastore, 1, 0, 0, 0, 0, .null), (54, .aload_n 0, 1, 0, 0, 0, 0, .null), (55, .dup, 1, 0, 0, 0, 0, .null), (56, .getfield 37, 3, 6, 5, 0, 135, .null), (59, .iconst 1, 1, 0, 0, 0, 0, .int 1), (60, .iadd, 1, 0, 0, 0, 0, .null), (61, .putfield 37, 3, 6, 5, 0, 135, .null), (64, .iconst 1, 1, 0, 0, 0, 0, .int 1), (65, .ireturn, 1, 0, 0, 1, 0, .null)]
noncomputable def sm_o37 : List (Nat × sm_E) := [(0, .aload_n 0, 1, 0, 0, 0, 0, .null), (1, .getfield 27, 3, 6, 6, 0, 138, .null), (4, .aload_n 0, 1, 0, 0, 0, 0, .null), (5, .getfield 9, 3, 6, 0, 2, 118, .null), (8, .arraylength, 1, 0, 0, 0, 0, .null), (9, .if_icmp .lt 5, 3, 14, 0, 0, 0, .null), (12, .iconst 0, 1, 0, 0, 0, 0, .int 0), (13, .ireturn, 1, 0, 0, 1, 0, .null), (14, .aload_n 0, 1, 0, 0, 0, 0, .null), (15, .getfield 9, 3, 6, 0, 2, 118, .null), (18, .aload_n 0, 1, 0, 0, 0, 0, .null), (19, .getfield 27, 3, 6, 6, 0, 138, .null), (22, .iload_n 1, 1, 0, 0, 0, 0, .null), (23, .iload_n 2, 1, 0, 0, 0, 0, .null), (24, .iconst 4, 1, 0, 0, 0, 0, .int 4), (25, .ishl, 1, 0, 0, 0, 0, .null), (26, .ior, 1, 0, 0, 0, 0, .null), (27, .iastore, 1, 0, 0, 0, 0, .null), (28, .aload_n 0, 1, 0, 0, 0, 0, .null), (29, .dup, 1, 0, 0, 0, 0, .null), (30, .getfield 27, 3, 6, 6, 0, 138, .null), (33, .iconst 1, 1, 0, 0, 0, 0, .int 1), (34, .iadd, 1, 0, 0, 0, 0, .null), (35, .putfield 27, 3, 6, 6, 0, 138, .null), (38, .iconst 1, 1, 0, 0, 0, 0, .int 1), (39, .ireturn, 1, 0, 0, 1, 0, .null)]
noncomputable def sm_o38 : List (Nat × sm_E) := [(0, .iload_n 1, 1, 0, 0, 0, 0, .null), (1, .ifCond .lt 30, 3, 31, 0, 0, 0, .null), (4, .iload_n 1, 1, 0, 0, 0, 0, .null), (5, .aload_n 0, 1, 0, 0, 0, 0, .null), (6, .getfield 27, 3, 6, 6, 0, 138, .null), (9, .if_icmp .ge 22, 3, 31, 0, 0, 0, .null), (12, .aload_n 0, 1, 0, 0, 0, 0, .null), (13, .getfield 9, 3, 6, 0, 2, 118, .null), (16, .iload_n 1, 1, 0, 0, 0, 0, .null), (17, .dup2, 1, 0, 0, 0, 0, .null), (18, .iaload, 1, 0, 0, 0, 0, .null), (19, .aload_n 0, 1, 0, 0, 0, 0, .null), (20, .getfield 27, 3, 6, 6, 0, 138, .null), (23, .iload_n 1, 1, 0, 0, 0, 0, .null), (24, .isub, 1, 0, 0, 0, 0, .null), (25, .iconst 1, 1, 0, 0, 0, 0, .int 1), (26, .isub, 1, 0, 0, 0, 0, .null), (27, .iconst 4, 1, 0, 0, 0, 0, .int 4), (28, .ishl, 1, 0, 0, 0, 0, .null), (29, .ior, 1, 0, 0, 0, 0, .null), (30, .iastore, 1, 0, 0, 0, 0, .null), (31, .return_, 1, 0, 0, 0, 0, .null)]
noncomputable def sm_o39 : List (Nat × sm_E) := [(0, .aload_n 0, 1, 0, 0, 0, 0, .null), (1, .invokespecial 3, 3, 0, 0, 1, 347, .null), (4, .aload_n 0, 1, 0, 0, 0, 0, .null), (5, .aload_n 1, 1, 0, 0, 0, 0, .null), (6, .putfield 9, 3, 7, 0, 6, 348, .null), (9, .aload_n 0, 1, 0, 0, 0, 0, .null), (10, .aload_n 2, 1, 0, 0, 0, 0, .null), (11, .putfield 15, 3, 7, 3, 2, 351, .null), (14, .return_, 1, 0, 0, 0, 0, .null)]
noncomputable def sm_o40 : List (Nat × sm_E) := [(0, .aload_n 0, 1, 0, 0, 0, 0, .null), (1, .iload_n 1, 1, 0, 0, 0, 0, .null), (2, .aload_n 0, 1, 0, 0, 0, 0, .null), (3, .getfield 9, 3, 7, 0, 2, 348, .null), (6, .arraylength, 1, 0, 0, 0, 0, .null), (7, .invokestatic 19, 3, 0, 0, 1, 563, .null), (10, .putfield 25, 3, 7, 1, 0, 349, .null), (13, .aload_n 0, 1, 0, 0, 0, 0, .null), (14, .iload_n 3, 1, 0, 0, 0, 0, .null), (15, .putfield 29, 3, 7, 2, 3, 350, .null), (18, .aload_n 0, 1, 0, 0, 0, 0, .null), (19, .aload_n 2, 1, 0, 0, 0, 0, .null), (20, .putfield 15, 3, 7, 3, 2, 351, .null), (23, .aload_n 0, 1, 0, 0, 0, 0, .null), (24, .getfield 15, 3, 7, 3, 2, 351, .null), (27, .iconst 0, 1, 0, 0, 0, 0, .int 0), (28, .putfield 33, 3, 6, 5, 0, 134, .null), (31, .aload_n 0, 1, 0, 0, 0, 0, .null), (32, .getfield 15, 3, 7, 3, 2, 351, .null), (35, .iconst 0, 1, 0, 0, 0, 0, .int 0), (36, .putfield 38, 3, 6, 6, 0, 140, .null), (39, .aload_n 0, 1, 0, 0, 0, 0, .null), (40, .iconst 0, 1, 0, 0, 0, 0, .int 0), (41, .putfield 39, 3, 7, 5, 0, 353, .null), (44, .aload_n 0, 1, 0, 0, 0, 0, .null), (45, .iconst 0, 1, 0, 0, 0, 0, .int 0), (46, .putfield 42, 3, 7, 7, 0, 355, .null), (49, .aload_n 0, 1, 0, 0, 0, 0, .null), (50, .invokevirtual 45, 3, 50, 0, 0, 564, .ref 1), (53, .iconst 0, 1, 0, 0, 0, 0, .int 0), (54, .istore 4, 2, 0, 0, 0, 0, .null), (56, .iload 4, 2, 0, 0, 0, 0, .null), (58, .bipush 12, 2, 0, 0, 0, 0, .int 12), (60, .if_icmp .ge 43, 3, 103, 0, 0, 0, .null), (63, .aload_n 0, 1, 0, 0, 0, 0, .null), (64, .invokevirtual 48, 3, 41, 0, 0, 572, .ref 3), (67, .ifCond .eq 36, 3, 103, 0, 0, 0, .null), (70, .aload_n 0, 1, 0, 0, 0, 0, .null), (71, .getfield 52, 3, 7, 6, 0, 354, .null), (74, .ifCond .ne 5, 3, 79, 0, 0, 0, .null), (77, .iconst (-1), 1, 0, 0, 0, 0, .int (-1)), (78, .ireturn, 1, 0, 0, 0, 0, .null), (79, .aload_n 0, 1, 0, 0, 0, 0, .null), (80, .bipush 59, 2, 0, 0, 0, 0, .int 59), (82, .invokevirtual 55, 3, 52, 1, 0, 646, .ref 2), (85, .ifCond .ne 8, 3, 93, 0, 0, 0, .null), (88, .aload_n 0, 1, 0, 0, 0, 0, .null), (89, .getfield 59, 3, 7, 4, 0, 352, .null), (92, .ireturn, 1, 0, 0, 0, 0, .null), (93, .aload_n 0, 1, 0, 0, 0, 0, .null), (94, .invokevirtual 45, 3, 50, 0, 0, 564, .ref 1), (97, .iinc 4 1, 3, 0, 0, 0, 0, .int 1), (100, .goto (-44), 3, 56, 0, 0, 0, .null), (103, .aload_n 0, 1, 0, 0, 0, 0, .null), (104, .getfield 59, 3, 7, 4, 0, 352, .null), (107, .ireturn, 1, 0, 0, 0, 0, .null)]
noncomputable def sm_o41 : List (Nat × sm_E) := [(0, .aload_n 0, 1, 0, 0, 0, 0, .null), (1, .aload_n 0, 1, 0, 0, 0, 0, .null), (2, .getfield 29, 3, 7, 2, 3, 350, .null), (5, .ifCond .eq 8, 3, 13, 0, 0, 0, .null), (8, .ldc 62, 2, 0, 0, 1, 576, .retAddr 2), (10, .goto 5, 3, 15, 0, 0, 0, .null), (13, .ldc 64, 2, 0, 0, 1, 577, .retAddr 3), (15, .invokevirtual 66, 3, 53, 1, 0, 578, .ref 7), (18, .istore_n 1, 1, 0, 0, 0, 0, .null), (19, .iload_n 1, 1, 0, 0, 0, 0, .null), (20, .iconst (-1), 1, 0, 0, 0, 0, .int (-1)), (21, .if_icmp .eq 14, 3, 35, 0, 0, 0, .null), (24, .aload_n 0, 1, 0, 0, 0, 0, .null), (25, .getfield 15, 3, 7, 3, 2, 351, .null), (28, .iload_n 1, 1, 0, 0, 0, 0, .null), (29, .invokevirtual 70, 3, 36, 1, 0, 630, .ref 2), (32, .ifCond .ne 5, 3, 37, 0, 0, 0, .null), (35, .iconst 0, 1, 0, 0, 0, 0, .int 0), (36, .ireturn, 1, 0, 0, 1, 0, .null), (37, .aload_n 0, 1, 0, 0, 0, 0, .null), (38, .getfield 15, 3, 7, 3, 2, 351, .null), (41, .getfield 33, 3, 6, 5, 0, 134, .null), (44, .iconst 1, 1, 0, 0, 0, 0, .int 1), (45, .isub, 1, 0, 0, 0, 0, .null), (46, .istore_n 2, 1, 0, 0, 0, 0, .null), (47, .aload_n 0, 1, 0, 0, 0, 0, .null), (48, .invokevirtual 45, 3, 50, 0, 0, 564, .ref 1), (51, .iload_n 1, 1, 0, 0, 0, 0, .null), (52, .iconst 3, 1, 0, 0, 0, 0, .int 3), (53, .if_icmp .eq 41, 3, 94, 0, 0, 0, .null), (56, .aload_n 0, 1, 0, 0, 0, 0, .null), (57, .getfield 15, 3, 7, 3, 2, 351, .null), (60, .getfield 74, 3, 6, 2, 2, 125, .null), (63, .iload_n 2, 1, 0, 0, 0, 0, .null), (64, .aload_n 0, 1, 0, 0, 0, 0, .null), (65, .getfield 15, 3, 7, 3, 2, 351, .null), (68, .getfield 38, 3, 6, 6, 0, 140, .null), (71, .iastore, 1, 0, 0, 0, 0, .null), (72, .aload_n 0, 1, 0, 0, 0, 0, .null), (73, .iconst 0, 1, 0, 0, 0, 0, .int 0), (74, .invokevirtual 77, 3, 45, 1, 0, 634, .ref 5), (77, .ifCond .eq 15, 3, 92, 0, 0, 0, .null), (80, .aload_n 0, 1, 0, 0, 0, 0, .null), (81, .getfield 15, 3, 7, 3, 2, 351, .null), (84, .iconst 0, 1, 0, 0, 0, 0, .int 0), (85, .iconst 0, 1, 0, 0, 0, 0, .int 0), (86, .invokevirtual 80, 3, 37, 2, 0, 659, .ref 3), (89, .ifCond .ne 5, 3, 94, 0, 0, 0, .null), (92, .iconst 0, 1, 0, 0, 0, 0, .int 0), (93, .ireturn, 1, 0, 0, 1, 0, .null), (94, .aload_n 0, 1, 0, 0, 0, 0, .null), (95, .getfield 29, 3, 7, 2, 3, 350, .null), (98, .ifCond .eq 51, 3, 149, 0, 0, 0, .null), (101, .aload_n 0, 1, 0, 0, 0, 0, .null), (102, .ldc 84, 2, 0, 0, 1, 669, .retAddr 4), (104, .invokevirtual 66, 3, 53, 1, 0, 578, .ref 7), (107, .ifCond .ne 42, 3, 149, 0, 0, 0, .null), (110, .aload_n 0, 1, 0, 0, 0, 0, .null), (111, .invokevirtual 45, 3, 50, 0, 0, 564, .ref 1), (114, .aload_n 0, 1, 0, 0, 0, 0, .null), (115, .getfield 15, 3, 7, 3, 2, 351, .null), (118, .getfield 86, 3, 6, 4, 2, 133, .null), (121, .iload_n 2, 1, 0, 0, 0, 0, .null), (122, .aload_n 0, 1, 0, 0, 0, 0, .null), (123, .iconst 1, 1, 0, 0, 0, 0, .int 1), (124, .bipush 20, 2, 0, 0, 0, 0, .int 20), (126, .invokevirtual 88, 3, 54, 2, 0, 654, .ref 5), (129, .iastore, 1, 0, 0, 0, 0, .null), (130, .aload_n 0, 1, 0, 0, 0, 0, .null), (131, .getfield 15, 3, 7, 3, 2, 351, .null), (134, .getfield 86, 3, 6, 4, 2, 133, .null), (137, .iload_n 2, 1, 0, 0, 0, 0, .null), (138, .iaload, 1, 0, 0, 0, 0, .null), (139, .iconst (-1), 1, 0, 0, 0, 0, .int (-1)), (140, .if_icmp .ne 5, 3, 145, 0, 0, 0, .null), (143, .iconst 0, 1, 0, 0, 0, 0, .int 0), (144, .ireturn, 1, 0, 0, 1, 0, .null), (145, .aload_n 0, 1, 0, 0, 0, 0, .null), (146, .invokevirtual 45, 3, 50, 0, 0, 564, .ref 1), (149, .aload_n 0, 1, 0, 0, 0, 0, .null), (150, .ldc 91, 2, 0, 0, 1, 670, .retAddr 5), (152, .invokevirtual 66, 3, 53, 1, 0, 578, .ref 7), (155, .ifCond .ne 49, 3, 204, 0, 0, 0, .null), (158, .aload_n 0, 1, 0, 0, 0, 0, .null), (159, .invokevirtual 45, 3, 50, 0, 0, 564, .ref 1), (162, .aload_n 0, 1, 0, 0, 0, 0, .null), (163, .getfield 15, 3, 7, 3, 2, 351, .null), (166, .getfield 93, 3, 6, 3, 2, 129, .null), (169, .iload_n 2, 1, 0, 0, 0, 0, .null), (170, .aload_n 0, 1, 0, 0, 0, 0, .null), (171, .getfield 15, 3, 7, 3, 2, 351, .null), (174, .getfield 38, 3, 6, 6, 0, 140, .null), (177, .iastore, 1, 0, 0, 0, 0, .null), (178, .aload_n 0, 1, 0, 0, 0, 0, .null), (179, .iconst 0, 1, 0, 0, 0, 0, .int 0), (180, .invokevirtual 96, 3, 42, 1, 0, 671, .ref 5), (183, .ifCond .eq 19, 3, 202, 0, 0, 0, .null), (186, .aload_n 0, 1, 0, 0, 0, 0, .null), (187, .getfield 15, 3, 7, 3, 2, 351, .null), (190, .iconst 0, 1, 0, 0, 0, 0, .int 0), (191, .iconst 0, 1, 0, 0, 0, 0, .int 0), (192, .invokevirtual 80, 3, 37, 2, 0, 659, .ref 3), (195, .ifCond .eq 7, 3, 202, 0, 0, 0, .null), (198, .iconst 1, 1, 0, 0, 0, 0, .int 1), (199, .goto 4, 3, 203, 0, 0, 0, .null), (202, .iconst 0, 1, 0, 0, 0, 0, .int 0), (203, .ireturn, 1, 0, 0, 1, 0, .null), (204, .iconst 1, 1, 0, 0, 0, 0, .int 1), (205, .ireturn, 1, 0, 0, 1, 0, .null)]
noncomputable def sm_o42 : List (Nat × sm_E) := [(0, .aload_n 0, 1, 0, 0, 0, 0, .null), (1, .iload_n 1, 1, 0, 0, 0, 0, .null), (2, .invokevirtual 99, 3, 43, 1, 0, 675, .ref 5), (5, .istore_n 2, 1, 0, 0, 0, 0, .null), (6, .iconst 0, 1, 0, 0, 0, 0, .int 0), (7, .istore_n 3, 1, 0, 0, 0, 0, .null), (8, .iload_n 3, 1, 0, 0, 0, 0, .null), (9, .sipush 400, 3, 0, 0, 0, 0, .int 400), (12, .if_icmp .ge 71, 3, 83, 0, 0, 0, .null), (15, .iload_n 2, 1, 0, 0, 0, 0, .null), (16, .ifCond .eq 67, 3, 83, 0, 0, 0, .null), (19, .aload_n 0, 1, 0, 0, 0, 0, .null), (20, .ldc 102, 2, 0, 0, 1, 689, .retAddr 6), (22, .invokevirtual 66, 3, 53, 1, 0, 578, .ref 7), (25, .ifCond .ne 58, 3, 83, 0, 0, 0, .null), (28, .aload_n 0, 1, 0, 0, 0, 0, .null), (29, .invokevirtual 45, 3, 50, 0, 0, 564, .ref 1), (32, .aload_n 0, 1, 0, 0, 0, 0, .null), (33, .getfield 15, 3, 7, 3, 2, 351, .null), (36, .getfield 38, 3, 6, 6, 0, 140, .null), (39, .istore 4, 2, 0, 0, 0, 0, .null), (41, .aload_n 0, 1, 0, 0, 0, 0, .null), (42, .getfield 15, 3, 7, 3, 2, 351, .null), (45, .bipush 12, 2, 0, 0, 0, 0, .int 12), (47, .iconst 0, 1, 0, 0, 0, 0, .int 0), (48, .invokevirtual 80, 3, 37, 2, 0, 659, .ref 3), (51, .ifCond .eq 15, 3, 66, 0, 0, 0, .null), (54, .aload_n 0, 1, 0, 0, 0, 0, .null), (55, .iload_n 1, 1, 0, 0, 0, 0, .null), (56, .invokevirtual 99, 3, 43, 1, 0, 675, .ref 5), (59, .ifCond .eq 7, 3, 66, 0, 0, 0, .null), (62, .iconst 1, 1, 0, 0, 0, 0, .int 1), (63, .goto 4, 3, 67, 0, 0, 0, .null), (66, .iconst 0, 1, 0, 0, 0, 0, .int 0), (67, .istore_n 2, 1, 0, 0, 0, 0, .null), (68, .aload_n 0, 1, 0, 0, 0, 0, .null), (69, .getfield 15, 3, 7, 3, 2, 351, .null), (72, .iload 4, 2, 0, 0, 0, 0, .null), (74, .invokevirtual 104, 3, 38, 1, 0, 685, .ref 2), (77, .iinc 3 1, 3, 0, 0, 0, 0, .int 1), (80, .goto (-72), 3, 8, 0, 0, 0, .null), (83, .iload_n 2, 1, 0, 0, 0, 0, .null), (84, .ireturn, 1, 0, 0, 1, 0, .null)]
noncomputable def sm_o43 : List (Nat × sm_E) := [(0, .aload_n 0, 1, 0, 0, 0, 0, .null), (1, .iload_n 1, 1, 0, 0, 0, 0, .null), (2, .invokevirtual 108, 3, 44, 1, 0, 679, .ref 4), (5, .istore_n 2, 1, 0, 0, 0, 0, .null), (6, .iconst 0, 1, 0, 0, 0, 0, .int 0), (7, .istore_n 3, 1, 0, 0, 0, 0, .null), (8, .iload_n 3, 1, 0, 0, 0, 0, .null), (9, .sipush 400, 3, 0, 0, 0, 0, .int 400), (12, .if_icmp .ge 71, 3, 83, 0, 0, 0, .null), (15, .iload_n 2, 1, 0, 0, 0, 0, .null), (16, .ifCond .eq 67, 3, 83, 0, 0, 0, .null), (19, .aload_n 0, 1, 0, 0, 0, 0, .null), (20, .ldc 111, 2, 0, 0, 1, 684, .retAddr 7), (22, .invokevirtual 66, 3, 53, 1, 0, 578, .ref 7), (25, .ifCond .ne 58, 3, 83, 0, 0, 0, .null), (28, .aload_n 0, 1, 0, 0, 0, 0, .null), (29, .invokevirtual 45, 3, 50, 0, 0, 564, .ref 1), (32, .aload_n 0, 1, 0, 0, 0, 0, .null), (33, .getfield 15, 3, 7, 3, 2, 351, .null), (36, .getfield 38, 3, 6, 6, 0, 140, .null), (39, .istore 4, 2, 0, 0, 0, 0, .null), (41, .aload_n 0, 1, 0, 0, 0, 0, .null), (42, .getfield 15, 3, 7, 3, 2, 351, .null), (45, .bipush 13, 2, 0, 0, 0, 0, .int 13), (47, .iconst 0, 1, 0, 0, 0, 0, .int 0), (48, .invokevirtual 80, 3, 37, 2, 0, 659, .ref 3), (51, .ifCond .eq 15, 3, 66, 0, 0, 0, .null), (54, .aload_n 0, 1, 0, 0, 0, 0, .null), (55, .iload_n 1, 1, 0, 0, 0, 0, .null), (56, .invokevirtual 108, 3, 44, 1, 0, 679, .ref 4), (59, .ifCond .eq 7, 3, 66, 0, 0, 0, .null), (62, .iconst 1, 1, 0, 0, 0, 0, .int 1), (63, .goto 4, 3, 67, 0, 0, 0, .null), (66, .iconst 0, 1, 0, 0, 0, 0, .int 0), (67, .istore_n 2, 1, 0, 0, 0, 0, .null), (68, .aload_n 0, 1, 0, 0, 0, 0, .null), (69, .getfield 15, 3, 7, 3, 2, 351, .null), (72, .iload 4, 2, 0, 0, 0, 0, .null), (74, .invokevirtual 104, 3, 38, 1, 0, 685, .ref 2), (77, .iinc 3 1, 3, 0, 0, 0, 0, .int 1), (80, .goto (-72), 3, 8, 0, 0, 0, .null), (83, .iload_n 2, 1, 0, 0, 0, 0, .null), (84, .ireturn, 1, 0, 0, 1, 0, .null)]
noncomputable def sm_o44 : List (Nat × sm_E) := [(0, .iconst 0, 1, 0, 0, 0, 0, .int 0), (1, .istore_n 2, 1, 0, 0, 0, 0, .null), (2, .iconst 0, 1, 0, 0, 0, 0, .int 0), (3, .istore_n 3, 1, 0, 0, 0, 0, .null), (4, .iload_n 3, 1, 0, 0, 0, 0, .null), (5, .sipush 400, 3, 0, 0, 0, 0, .int 400), (8, .if_icmp .ge 32, 3, 40, 0, 0, 0, .null), (11, .aload_n 0, 1, 0, 0, 0, 0, .null), (12, .ldc 113, 2, 0, 0, 1, 683, .retAddr 8), (14, .invokevirtual 66, 3, 53, 1, 0, 578, .ref 7), (17, .ifCond .ne 23, 3, 40, 0, 0, 0, .null), (20, .iload_n 2, 1, 0, 0, 0, 0, .null), (21, .ifCond .ne 7, 3, 28, 0, 0, 0, .null), (24, .iconst 1, 1, 0, 0, 0, 0, .int 1), (25, .goto 4, 3, 29, 0, 0, 0, .null), (28, .iconst 0, 1, 0, 0, 0, 0, .int 0), (29, .istore_n 2, 1, 0, 0, 0, 0, .null), (30, .aload_n 0, 1, 0, 0, 0, 0, .null), (31, .invokevirtual 45, 3, 50, 0, 0, 564, .ref 1), (34, .iinc 3 1, 3, 0, 0, 0, 0, .int 1), (37, .goto (-33), 3, 4, 0, 0, 0, .null), (40, .aload_n 0, 1, 0, 0, 0, 0, .null), (41, .bipush 40, 2, 0, 0, 0, 0, .int 40), (43, .invokevirtual 55, 3, 52, 1, 0, 646, .ref 2), (46, .ifCond .eq 43, 3, 89, 0, 0, 0, .null), (49, .iload_n 1, 1, 0, 0, 0, 0, .null), (50, .bipush 8, 2, 0, 0, 0, 0, .int 8), (52, .if_icmp .lt 5, 3, 57, 0, 0, 0, .null), (55, .iconst 0, 1, 0, 0, 0, 0, .int 0), (56, .ireturn, 1, 0, 0, 1, 0, .null), (57, .aload_n 0, 1, 0, 0, 0, 0, .null), (58, .invokevirtual 45, 3, 50, 0, 0, 564, .ref 1), (61, .aload_n 0, 1, 0, 0, 0, 0, .null), (62, .iload_n 1, 1, 0, 0, 0, 0, .null), (63, .iconst 1, 1, 0, 0, 0, 0, .int 1), (64, .iadd, 1, 0, 0, 0, 0, .null), (65, .invokevirtual 96, 3, 42, 1, 0, 671, .ref 5), (68, .ifCond .eq 12, 3, 80, 0, 0, 0, .null), (71, .aload_n 0, 1, 0, 0, 0, 0, .null), (72, .bipush 41, 2, 0, 0, 0, 0, .int 41), (74, .invokevirtual 55, 3, 52, 1, 0, 646, .ref 2), (77, .ifCond .ne 5, 3, 82, 0, 0, 0, .null), (80, .iconst 0, 1, 0, 0, 0, 0, .int 0), (81, .ireturn, 1, 0, 0, 1, 0, .null), (82, .aload_n 0, 1, 0, 0, 0, 0, .null), (83, .invokevirtual 45, 3, 50, 0, 0, 564, .ref 1), (86, .goto 90, 3, 176, 0, 0, 0, .null), (89, .aload_n 0, 1, 0, 0, 0, 0, .null), (90, .iload_n 1, 1, 0, 0, 0, 0, .null), (91, .invokevirtual 77, 3, 45, 1, 0, 634, .ref 5), (94, .ifCond .ne 5, 3, 99, 0, 0, 0, .null), (97, .iconst 0, 1, 0, 0, 0, 0, .int 0), (98, .ireturn, 1, 0, 0, 1, 0, .null), (99, .aload_n 0, 1, 0, 0, 0, 0, .null), (100, .bipush 60, 2, 0, 0, 0, 0, .int 60), (102, .invokevirtual 55, 3, 52, 1, 0, 646, .ref 2), (105, .ifCond .eq 8, 3, 113, 0, 0, 0, .null), (108, .bipush 8, 2, 0, 0, 0, 0, .int 8), (110, .goto 32, 3, 142, 0, 0, 0, .null), (113, .aload_n 0, 1, 0, 0, 0, 0, .null), (114, .bipush 62, 2, 0, 0, 0, 0, .int 62), (116, .invokevirtual 55, 3, 52, 1, 0, 646, .ref 2), (119, .ifCond .eq 8, 3, 127, 0, 0, 0, .null), (122, .bipush 9, 2, 0, 0, 0, 0, .int 9), (124, .goto 18, 3, 142, 0, 0, 0, .null), (127, .aload_n 0, 1, 0, 0, 0, 0, .null), (128, .bipush 61, 2, 0, 0, 0, 0, .int 61), (130, .invokevirtual 55, 3, 52, 1, 0, 646, .ref 2), (133, .ifCond .eq 8, 3, 141, 0, 0, 0, .null), (136, .bipush 10, 2, 0, 0, 0, 0, .int 10), (138, .goto 4, 3, 142, 0, 0, 0, .null), (141, .iconst (-1), 1, 0, 0, 0, 0, .int (-1)), (142, .istore_n 3, 1, 0, 0, 0, 0, .null), (143, .iload_n 3, 1, 0, 0, 0, 0, .null), (144, .iconst (-1), 1, 0, 0, 0, 0, .int (-1)), (145, .if_icmp .ne 5, 3, 150, 0, 0, 0, .null), (148, .iconst 0, 1, 0, 0, 0, 0, .int 0), (149, .ireturn, 1, 0, 0, 1, 0, .null), (150, .aload_n 0, 1, 0, 0, 0, 0, .null), (151, .invokevirtual 45, 3, 50, 0, 0, 564, .ref 1), (154, .aload_n 0, 1, 0, 0, 0, 0, .null), (155, .iload_n 1, 1, 0, 0, 0, 0, .null), (156, .invokevirtual 77, 3, 45, 1, 0, 634, .ref 5), (159, .ifCond .eq 15, 3, 174, 0, 0, 0, .null), (162, .aload_n 0, 1, 0, 0, 0, 0, .null), (163, .getfield 15, 3, 7, 3, 2, 351, .null), (166, .iload_n 3, 1, 0, 0, 0, 0, .null), (167, .iconst 0, 1, 0, 0, 0, 0, .int 0), (168, .invokevirtual 80, 3, 37, 2, 0, 659, .ref 3), (171, .ifCond .ne 5, 3, 176, 0, 0, 0, .null), (174, .iconst 0, 1, 0, 0, 0, 0, .int 0), (175, .ireturn, 1, 0, 0, 1, 0, .null), (176, .iload_n 2, 1, 0, 0, 0, 0, .null), (177, .ifCond .eq 16, 3, 193, 0, 0, 0, .null), (180, .aload_n 0, 1, 0, 0, 0, 0, .null), (181, .getfield 15, 3, 7, 3, 2, 351, .null), (184, .bipush 11, 2, 0, 0, 0, 0, .int 11), (186, .iconst 0, 1, 0, 0, 0, 0, .int 0), (187, .invokevirtual 80, 3, 37, 2, 0, 659, .ref 3), (190, .ifCond .eq 7, 3, 197, 0, 0, 0, .null), (193, .iconst 1, 1, 0, 0, 0, 0, .int 1), (194, .goto 4, 3, 198, 0, 0, 0, .null), (197, .iconst 0, 1, 0, 0, 0, 0, .int 0), (198, .ireturn, 1, 0, 0, 1, 0, .null)]
noncomputable def sm_o45 : List (Nat × sm_E) := [(0, .aload_n 0, 1, 0, 0, 0, 0, .null), (1, .iload_n 1, 1, 0, 0, 0, 0, .null), (2, .invokevirtual 115, 3, 46, 1, 0, 638, .ref 5), (5, .istore_n 2, 1, 0, 0, 0, 0, .null), (6, .iconst 0, 1, 0, 0, 0, 0, .int 0), (7, .istore_n 3, 1, 0, 0, 0, 0, .null), (8, .iload_n 3, 1, 0, 0, 0, 0, .null), (9, .sipush 400, 3, 0, 0, 0, 0, .int 400), (12, .if_icmp .ge 78, 3, 90, 0, 0, 0, .null), (15, .iload_n 2, 1, 0, 0, 0, 0, .null), (16, .ifCond .eq 74, 3, 90, 0, 0, 0, .null), (19, .aload_n 0, 1, 0, 0, 0, 0, .null), (20, .bipush 43, 2, 0, 0, 0, 0, .int 43), (22, .invokevirtual 55, 3, 52, 1, 0, 646, .ref 2), (25, .ifCond .ne 12, 3, 37, 0, 0, 0, .null), (28, .aload_n 0, 1, 0, 0, 0, 0, .null), (29, .bipush 45, 2, 0, 0, 0, 0, .int 45), (31, .invokevirtual 55, 3, 52, 1, 0, 646, .ref 2), (34, .ifCond .eq 56, 3, 90, 0, 0, 0, .null), (37, .aload_n 0, 1, 0, 0, 0, 0, .null), (38, .bipush 43, 2, 0, 0, 0, 0, .int 43), (40, .invokevirtual 55, 3, 52, 1, 0, 646, .ref 2), (43, .ifCond .eq 7, 3, 50, 0, 0, 0, .null), (46, .iconst 3, 1, 0, 0, 0, 0, .int 3), (47, .goto 4, 3, 51, 0, 0, 0, .null), (50, .iconst 4, 1, 0, 0, 0, 0, .int 4), (51, .istore 4, 2, 0, 0, 0, 0, .null), (53, .aload_n 0, 1, 0, 0, 0, 0, .null), (54, .invokevirtual 45, 3, 50, 0, 0, 564, .ref 1), (57, .aload_n 0, 1, 0, 0, 0, 0, .null), (58, .iload_n 1, 1, 0, 0, 0, 0, .null), (59, .invokevirtual 115, 3, 46, 1, 0, 638, .ref 5), (62, .ifCond .eq 20, 3, 82, 0, 0, 0, .null), (65, .aload_n 0, 1, 0, 0, 0, 0, .null), (66, .getfield 15, 3, 7, 3, 2, 351, .null), (69, .iload 4, 2, 0, 0, 0, 0, .null), (71, .iconst 0, 1, 0, 0, 0, 0, .int 0), (72, .invokevirtual 80, 3, 37, 2, 0, 659, .ref 3), (75, .ifCond .eq 7, 3, 82, 0, 0, 0, .null), (78, .iconst 1, 1, 0, 0, 0, 0, .int 1), (79, .goto 4, 3, 83, 0, 0, 0, .null), (82, .iconst 0, 1, 0, 0, 0, 0, .int 0), (83, .istore_n 2, 1, 0, 0, 0, 0, .null), (84, .iinc 3 1, 3, 0, 0, 0, 0, .int 1), (87, .goto (-79), 3, 8, 0, 0, 0, .null), (90, .iload_n 2, 1, 0, 0, 0, 0, .null), (91, .ireturn, 1, 0, 0, 1, 0, .null)]
noncomputable def sm_o46 : List (Nat × sm_E) := [(0, .aload_n 0, 1, 0, 0, 0, 0, .null), (1, .iload_n 1, 1, 0, 0, 0, 0, .null), (2, .invokevirtual 118, 3, 47, 1, 0, 642, .ref 2), (5, .istore_n 2, 1, 0, 0, 0, 0, .null), (6, .iconst 0, 1, 0, 0, 0, 0, .int 0), (7, .istore_n 3, 1, 0, 0, 0, 0, .null), (8, .iload_n 3, 1, 0, 0, 0, 0, .null), (9, .sipush 400, 3, 0, 0, 0, 0, .int 400), (12, .if_icmp .ge 102, 3, 114, 0, 0, 0, .null), (15, .iload_n 2, 1, 0, 0, 0, 0, .null), (16, .ifCond .eq 98, 3, 114, 0, 0, 0, .null), (19, .aload_n 0, 1, 0, 0, 0, 0, .null), (20, .bipush 42, 2, 0, 0, 0, 0, .int 42), (22, .invokevirtual 55, 3, 52, 1, 0, 646, .ref 2), (25, .ifCond .ne 21, 3, 46, 0, 0, 0, .null), (28, .aload_n 0, 1, 0, 0, 0, 0, .null), (29, .bipush 47, 2, 0, 0, 0, 0, .int 47), (31, .invokevirtual 55, 3, 52, 1, 0, 646, .ref 2), (34, .ifCond .ne 12, 3, 46, 0, 0, 0, .null), (37, .aload_n 0, 1, 0, 0, 0, 0, .null), (38, .bipush 37, 2, 0, 0, 0, 0, .int 37), (40, .invokevirtual 55, 3, 52, 1, 0, 646, .ref 2), (43, .ifCond .eq 71, 3, 114, 0, 0, 0, .null), (46, .aload_n 0, 1, 0, 0, 0, 0, .null), (47, .bipush 42, 2, 0, 0, 0, 0, .int 42), (49, .invokevirtual 55, 3, 52, 1, 0, 646, .ref 2), (52, .ifCond .eq 7, 3, 59, 0, 0, 0, .null), (55, .iconst 5, 1, 0, 0, 0, 0, .int 5), (56, .goto 19, 3, 75, 0, 0, 0, .null), (59, .aload_n 0, 1, 0, 0, 0, 0, .null), (60, .bipush 47, 2, 0, 0, 0, 0, .int 47), (62, .invokevirtual 55, 3, 52, 1, 0, 646, .ref 2), (65, .ifCond .eq 8, 3, 73, 0, 0, 0, .null), (68, .bipush 6, 2, 0, 0, 0, 0, .int 6), (70, .goto 5, 3, 75, 0, 0, 0, .null), (73, .bipush 7, 2, 0, 0, 0, 0, .int 7), (75, .istore 4, 2, 0, 0, 0, 0, .null), (77, .aload_n 0, 1, 0, 0, 0, 0, .null), (78, .invokevirtual 45, 3, 50, 0, 0, 564, .ref 1), (81, .aload_n 0, 1, 0, 0, 0, 0, .null), (82, .iload_n 1, 1, 0, 0, 0, 0, .null), (83, .invokevirtual 118, 3, 47, 1, 0, 642, .ref 2), (86, .ifCond .eq 20, 3, 106, 0, 0, 0, .null), (89, .aload_n 0, 1, 0, 0, 0, 0, .null), (90, .getfield 15, 3, 7, 3, 2, 351, .null), (93, .iload 4, 2, 0, 0, 0, 0, .null), (95, .iconst 0, 1, 0, 0, 0, 0, .int 0), (96, .invokevirtual 80, 3, 37, 2, 0, 659, .ref 3), (99, .ifCond .eq 7, 3, 106, 0, 0, 0, .null), (102, .iconst 1, 1, 0, 0, 0, 0, .int 1), (103, .goto 4, 3, 107, 0, 0, 0, .null), (106, .iconst 0, 1, 0, 0, 0, 0, .int 0), (107, .istore_n 2, 1, 0, 0, 0, 0, .null), (108, .iinc 3 1, 3, 0, 0, 0, 0, .int 1), (111, .goto (-103), 3, 8, 0, 0, 0, .null), (114, .iload_n 2, 1, 0, 0, 0, 0, .null), (115, .ireturn, 1, 0, 0, 1, 0, .null)]
noncomputable def sm_o47 : List (Nat × sm_E) := [(0, .aload_n 0, 1, 0, 0, 0, 0, .null), (1, .bipush 91, 2, 0, 0, 0, 0, .int 91), (3, .invokevirtual 55, 3, 52, 1, 0, 646, .ref 2), (6, .ifCond .eq 42, 3, 48, 0, 0, 0, .null), (9, .iload_n 1, 1, 0, 0, 0, 0, .null), (10, .bipush 8, 2, 0, 0, 0, 0, .int 8), (12, .if_icmp .lt 5, 3, 17, 0, 0, 0, .null), (15, .iconst 0, 1, 0, 0, 0, 0, .int 0), (16, .ireturn, 1, 0, 0, 1, 0, .null), (17, .aload_n 0, 1, 0, 0, 0, 0, .null), (18, .invokevirtual 45, 3, 50, 0, 0, 564, .ref 1), (21, .aload_n 0, 1, 0, 0, 0, 0, .null), (22, .iload_n 1, 1, 0, 0, 0, 0, .null), (23, .iconst 1, 1, 0, 0, 0, 0, .int 1), (24, .iadd, 1, 0, 0, 0, 0, .null), (25, .invokevirtual 77, 3, 45, 1, 0, 634, .ref 5), (28, .ifCond .eq 12, 3, 40, 0, 0, 0, .null), (31, .aload_n 0, 1, 0, 0, 0, 0, .null), (32, .bipush 93, 2, 0, 0, 0, 0, .int 93), (34, .invokevirtual 55, 3, 52, 1, 0, 646, .ref 2), (37, .ifCond .ne 5, 3, 42, 0, 0, 0, .null), (40, .iconst 0, 1, 0, 0, 0, 0, .int 0), (41, .ireturn, 1, 0, 0, 1, 0, .null), (42, .aload_n 0, 1, 0, 0, 0, 0, .null), (43, .invokevirtual 45, 3, 50, 0, 0, 564, .ref 1), (46, .iconst 1, 1, 0, 0, 0, 0, .int 1), (47, .ireturn, 1, 0, 0, 1, 0, .null), (48, .aload_n 0, 1, 0, 0, 0, 0, .null), (49, .getfield 42, 3, 7, 7, 0, 355, .null), (52, .bipush 50, 2, 0, 0, 0, 0, .int 50), (54, .if_icmp .lt 5, 3, 59, 0, 0, 0, .null), (57, .iconst 0, 1, 0, 0, 0, 0, .int 0), (58, .ireturn, 1, 0, 0, 1, 0, .null), (59, .aload_n 0, 1, 0, 0, 0, 0, .null), (60, .dup, 1, 0, 0, 0, 0, .null), (61, .getfield 42, 3, 7, 7, 0, 355, .null), (64, .iconst 1, 1, 0, 0, 0, 0, .int 1), (65, .iadd, 1, 0, 0, 0, 0, .null), (66, .putfield 42, 3, 7, 7, 0, 355, .null), (69, .aload_n 0, 1, 0, 0, 0, 0, .null), (70, .getfield 52, 3, 7, 6, 0, 354, .null), (73, .iconst 2, 1, 0, 0, 0, 0, .int 2), (74, .if_icmp .ne 10, 3, 84, 0, 0, 0, .null), (77, .aload_n 0, 1, 0, 0, 0, 0, .null), (78, .invokevirtual 121, 3, 48, 0, 0, 650, .ref 2), (81, .goto 7, 3, 88, 0, 0, 0, .null), (84, .aload_n 0, 1, 0, 0, 0, 0, .null), (85, .invokevirtual 124, 3, 49, 0, 0, 663, .ref 3), (88, .ireturn, 1, 0, 0, 1, 0, .null)]
noncomputable def sm_o48 : List (Nat × sm_E) := [(0, .aload_n 0, 1, 0, 0, 0, 0, .null), (1, .iconst 0, 1, 0, 0, 0, 0, .int 0), (2, .sipush 1000, 3, 0, 0, 0, 0, .int 1000), (5, .invokevirtual 88, 3, 54, 2, 0, 654, .ref 5), (8, .istore_n 1, 1, 0, 0, 0, 0, .null), (9, .iload_n 1, 1, 0, 0, 0, 0, .null), (10, .iconst (-1), 1, 0, 0, 0, 0, .int (-1)), (11, .if_icmp .eq 15, 3, 26, 0, 0, 0, .null), (14, .aload_n 0, 1, 0, 0, 0, 0, .null), (15, .getfield 15, 3, 7, 3, 2, 351, .null), (18, .iconst 1, 1, 0, 0, 0, 0, .int 1), (19, .iload_n 1, 1, 0, 0, 0, 0, .null), (20, .invokevirtual 80, 3, 37, 2, 0, 659, .ref 3), (23, .ifCond .ne 5, 3, 28, 0, 0, 0, .null), (26, .iconst 0, 1, 0, 0, 0, 0, .int 0), (27, .ireturn, 1, 0, 0, 1, 0, .null), (28, .aload_n 0, 1, 0, 0, 0, 0, .null), (29, .invokevirtual 45, 3, 50, 0, 0, 564, .ref 1), (32, .iconst 1, 1, 0, 0, 0, 0, .int 1), (33, .ireturn, 1, 0, 0, 1, 0, .null)]
noncomputable def sm_o49 : List (Nat × sm_E) := [(0, .aload_n 0, 1, 0, 0, 0, 0, .null), (1, .aload_n 0, 1, 0, 0, 0, 0, .null), (2, .getfield 29, 3, 7, 2, 3, 350, .null), (5, .ifCond .eq 8, 3, 13, 0, 0, 0, .null), (8, .ldc 127, 2, 0, 0, 1, 667, .retAddr 9), (10, .goto 5, 3, 15, 0, 0, 0, .null), (13, .ldc 129, 2, 0, 0, 1, 668, .retAddr 10), (15, .invokevirtual 66, 3, 53, 1, 0, 578, .ref 7), (18, .istore_n 1, 1, 0, 0, 0, 0, .null), (19, .iload_n 1, 1, 0, 0, 0, 0, .null), (20, .iconst (-1), 1, 0, 0, 0, 0, .int (-1)), (21, .if_icmp .ne 5, 3, 26, 0, 0, 0, .null), (24, .iconst 0, 1, 0, 0, 0, 0, .int 0), (25, .ireturn, 1, 0, 0, 1, 0, .null), (26, .aload_n 0, 1, 0, 0, 0, 0, .null), (27, .invokevirtual 45, 3, 50, 0, 0, 564, .ref 1), (30, .aload_n 0, 1, 0, 0, 0, 0, .null), (31, .getfield 29, 3, 7, 2, 3, 350, .null), (34, .ifCond .eq 32, 3, 66, 0, 0, 0, .null), (37, .iload_n 1, 1, 0, 0, 0, 0, .null), (38, .bipush 6, 2, 0, 0, 0, 0, .int 6), (40, .if_icmp .ne 26, 3, 66, 0, 0, 0, .null), (43, .aload_n 0, 1, 0, 0, 0, 0, .null), (44, .iconst 0, 1, 0, 0, 0, 0, .int 0), (45, .bipush 6, 2, 0, 0, 0, 0, .int 6), (47, .invokevirtual 88, 3, 54, 2, 0, 654, .ref 5), (50, .istore_n 2, 1, 0, 0, 0, 0, .null), (51, .iload_n 2, 1, 0, 0, 0, 0, .null), (52, .iconst (-1), 1, 0, 0, 0, 0, .int (-1)), (53, .if_icmp .ne 5, 3, 58, 0, 0, 0, .null), (56, .iconst 0, 1, 0, 0, 0, 0, .int 0), (57, .ireturn, 1, 0, 0, 1, 0, .null), (58, .iload_n 1, 1, 0, 0, 0, 0, .null), (59, .iload_n 2, 1, 0, 0, 0, 0, .null), (60, .iadd, 1, 0, 0, 0, 0, .null), (61, .istore_n 1, 1, 0, 0, 0, 0, .null), (62, .aload_n 0, 1, 0, 0, 0, 0, .null), (63, .invokevirtual 45, 3, 50, 0, 0, 564, .ref 1), (66, .aload_n 0, 1, 0, 0, 0, 0, .null), (67, .getfield 15, 3, 7, 3, 2, 351, .null), (70, .iconst 2, 1, 0, 0, 0, 0, .int 2), (71, .iload_n 1, 1, 0, 0, 0, 0, .null), (72, .invokevirtual 80, 3, 37, 2, 0, 659, .ref 3), (75, .ireturn, 1, 0, 0, 1, 0, .null)]
noncomputable def sm_o50 : List (Nat × sm_E) := [(0, .aload_n 0, 1, 0, 0, 0, 0, .null), (1, .aload_n 0, 1, 0, 0, 0, 0, .null), (2, .getfield 39, 3, 7, 5, 0, 353, .null), (5, .putfield 59, 3, 7, 4, 0, 352, .null), (8, .aload_n 0, 1, 0, 0, 0, 0, .null), (9, .getfield 59, 3, 7, 4, 0, 352, .null), (12, .aload_n 0, 1, 0, 0, 0, 0, .null), (13, .getfield 25, 3, 7, 1, 0, 349, .null), (16, .if_icmp .ge 30, 3, 46, 0, 0, 0, .null), (19, .aload_n 0, 1, 0, 0, 0, 0, .null), (20, .getfield 9, 3, 7, 0, 2, 348, .null), (23, .aload_n 0, 1, 0, 0, 0, 0, .null), (24, .getfield 59, 3, 7, 4, 0, 352, .null), (27, .iaload, 1, 0, 0, 0, 0, .null), (28, .bipush 32, 2, 0, 0, 0, 0, .int 32), (30, .if_icmp .ne 16, 3, 46, 0, 0, 0, .null), (33, .aload_n 0, 1, 0, 0, 0, 0, .null), (34, .dup, 1, 0, 0, 0, 0, .null), (35, .getfield 59, 3, 7, 4, 0, 352, .null), (38, .iconst 1, 1, 0, 0, 0, 0, .int 1), (39, .iadd, 1, 0, 0, 0, 0, .null), (40, .putfield 59, 3, 7, 4, 0, 352, .null), (43, .goto (-35), 3, 8, 0, 0, 0, .null), (46, .aload_n 0, 1, 0, 0, 0, 0, .null), (47, .aload_n 0, 1, 0, 0, 0, 0, .null), (48, .aload_n 0, 1, 0, 0, 0, 0, .null), (49, .getfield 59, 3, 7, 4, 0, 352, .null), (52, .invokevirtual 131, 3, 51, 1, 0, 568, .ref 3), (55, .putfield 52, 3, 7, 6, 0, 354, .null), (58, .aload_n 0, 1, 0, 0, 0, 0, .null), (59, .aload_n 0, 1, 0, 0, 0, 0, .null), (60, .getfield 52, 3, 7, 6, 0, 354, .null), (63, .ifCond .ne 10, 3, 73, 0, 0, 0, .null), (66, .aload_n 0, 1, 0, 0, 0, 0, .null), (67, .getfield 59, 3, 7, 4, 0, 352, .null), (70, .goto 9, 3, 79, 0, 0, 0, .null), (73, .aload_n 0, 1, 0, 0, 0, 0, .null), (74, .getfield 59, 3, 7, 4, 0, 352, .null), (77, .iconst 1, 1, 0, 0, 0, 0, .int 1), (78, .iadd, 1, 0, 0, 0, 0, .null), (79, .putfield 39, 3, 7, 5, 0, 353, .null), (82, .aload_n 0, 1, 0, 0, 0, 0, .null), (83, .getfield 52, 3, 7, 6, 0, 354, .null), (86, .iconst 1, 1, 0, 0, 0, 0, .int 1), (87, .if_icmp .eq 11, 3, 98, 0, 0, 0, .null), (90, .aload_n 0, 1, 0, 0, 0, 0, .null), (91, .getfield 52, 3, 7, 6, 0, 354, .null), (94, .iconst 2, 1, 0, 0, 0, 0, .int 2), (95, .if_icmp .ne 42, 3, 137, 0, 0, 0, .null), (98, .aload_n 0, 1, 0, 0, 0, 0, .null), (99, .getfield 39, 3, 7, 5, 0, 353, .null), (102, .aload_n 0, 1, 0, 0, 0, 0, .null), (103, .getfield 25, 3, 7, 1, 0, 349, .null), (106, .if_icmp .ge 31, 3, 137, 0, 0, 0, .null), (109, .aload_n 0, 1, 0, 0, 0, 0, .null), (110, .aload_n 0, 1, 0, 0, 0, 0, .null), (111, .getfield 39, 3, 7, 5, 0, 353, .null), (114, .invokevirtual 131, 3, 51, 1, 0, 568, .ref 3), (117, .aload_n 0, 1, 0, 0, 0, 0, .null), (118, .getfield 52, 3, 7, 6, 0, 354, .null), (121, .if_icmp .ne 16, 3, 137, 0, 0, 0, .null), (124, .aload_n 0, 1, 0, 0, 0, 0, .null), (125, .dup, 1, 0, 0, 0, 0, .null), (126, .getfield 39, 3, 7, 5, 0, 353, .null), (129, .iconst 1, 1, 0, 0, 0, 0, .int 1), (130, .iadd, 1, 0, 0, 0, 0, .null), (131, .putfield 39, 3, 7, 5, 0, 353, .null), (134, .goto (-52), 3, 82, 0, 0, 0, .null), (137, .return_, 1, 0, 0, 0, 0, .null)]
noncomputable def sm_o51 : List (Nat × sm_E) := [(0, .iload_n 1, 1, 0, 0, 0, 0, .null), (1, .ifCond .lt 11, 3, 12, 0, 0, 0, .null), (4, .iload_n 1, 1, 0, 0, 0, 0, .null), (5, .aload_n 0, 1, 0, 0, 0, 0, .null), (6, .getfield 25, 3, 7, 1, 0, 349, .null), (9, .if_icmp .lt 5, 3, 14, 0, 0, 0, .null), (12, .iconst 0, 1, 0, 0, 0, 0, .int 0), (13, .ireturn, 1, 0, 0, 0, 0, .null), (14, .aload_n 0, 1, 0, 0, 0, 0, .null), (15, .getfield 9, 3, 7, 0, 2, 348, .null), (18, .iload_n 1, 1, 0, 0, 0, 0, .null), (19, .iaload, 1, 0, 0, 0, 0, .null), (20, .istore_n 2, 1, 0, 0, 0, 0, .null), (21, .iload_n 2, 1, 0, 0, 0, 0, .null), (22, .bipush 97, 2, 0, 0, 0, 0, .int 97), (24, .if_icmp .lt 11, 3, 35, 0, 0, 0, .null), (27, .iload_n 2, 1, 0, 0, 0, 0, .null), (28, .bipush 122, 2, 0, 0, 0, 0, .int 122), (30, .if_icmp .gt 5, 3, 35, 0, 0, 0, .null), (33, .iconst 1, 1, 0, 0, 0, 0, .int 1), (34, .ireturn, 1, 0, 0, 0, 0, .null), (35, .iload_n 2, 1, 0, 0, 0, 0, .null), (36, .bipush 48, 2, 0, 0, 0, 0, .int 48), (38, .if_icmp .lt 13, 3, 51, 0, 0, 0, .null), (41, .iload_n 2, 1, 0, 0, 0, 0, .null), (42, .bipush 57, 2, 0, 0, 0, 0, .int 57), (44, .if_icmp .gt 7, 3, 51, 0, 0, 0, .null), (47, .iconst 2, 1, 0, 0, 0, 0, .int 2), (48, .goto 4, 3, 52, 0, 0, 0, .null), (51, .iconst 3, 1, 0, 0, 0, 0, .int 3), (52, .ireturn, 1, 0, 0, 0, 0, .null)]
noncomputable def sm_o52 : List (Nat × sm_E) := [(0, .aload_n 0, 1, 0, 0, 0, 0, .null), (1, .getfield 52, 3, 7, 6, 0, 354, .null), (4, .iconst 3, 1, 0, 0, 0, 0, .int 3), (5, .if_icmp .ne 38, 3, 43, 0, 0, 0, .null), (8, .aload_n 0, 1, 0, 0, 0, 0, .null), (9, .getfield 59, 3, 7, 4, 0, 352, .null), (12, .ifCond .lt 31, 3, 43, 0, 0, 0, .null), (15, .aload_n 0, 1, 0, 0, 0, 0, .null), (16, .getfield 59, 3, 7, 4, 0, 352, .null), (19, .aload_n 0, 1, 0, 0, 0, 0, .null), (20, .getfield 25, 3, 7, 1, 0, 349, .null), (23, .if_icmp .ge 20, 3, 43, 0, 0, 0, .null), (26, .aload_n 0, 1, 0, 0, 0, 0, .null), (27, .getfield 9, 3, 7, 0, 2, 348, .null), (30, .aload_n 0, 1, 0, 0, 0, 0, .null), (31, .getfield 59, 3, 7, 4, 0, 352, .null), (34, .iaload, 1, 0, 0, 0, 0, .null), (35, .iload_n 1, 1, 0, 0, 0, 0, .null), (36, .if_icmp .ne 7, 3, 43, 0, 0, 0, .null), (39, .iconst 1, 1, 0, 0, 0, 0, .int 1), (40, .goto 4, 3, 44, 0, 0, 0, .null), (43, .iconst 0, 1, 0, 0, 0, 0, .int 0), (44, .ireturn, 1, 0, 0, 1, 0, .null)]
noncomputable def sm_o53 : List (Nat × sm_E) := [(0, .aload_n 0, 1, 0, 0, 0, 0, .null), (1, .getfield 52, 3, 7, 6, 0, 354, .null), (4, .iconst 1, 1, 0, 0, 0, 0, .int 1), (5, .if_icmp .eq 5, 3, 10, 0, 0, 0, .null), (8, .iconst (-1), 1, 0, 0, 0, 0, .int (-1)), (9, .ireturn, 1, 0, 0, 0, 0, .null), (10, .iconst 0, 1, 0, 0, 0, 0, .int 0), (11, .istore_n 2, 1, 0, 0, 0, 0, .null), (12, .aload_n 0, 1, 0, 0, 0, 0, .null), (13, .getfield 59, 3, 7, 4, 0, 352, .null), (16, .istore_n 3, 1, 0, 0, 0, 0, .null), (17, .iconst 1, 1, 0, 0, 0, 0, .int 1), (18, .istore 4, 2, 0, 0, 0, 0, .null), (20, .iconst 0, 1, 0, 0, 0, 0, .int 0), (21, .istore 5, 2, 0, 0, 0, 0, .null), (23, .iload 5, 2, 0, 0, 0, 0, .null), (25, .aload_n 1, 1, 0, 0, 0, 0, .null), (26, .invokevirtual 135, 3, 0, 0, 1, 582, .null), (29, .if_icmp .ge 87, 3, 116, 0, 0, 0, .null), (32, .aload_n 1, 1, 0, 0, 0, 0, .null), (33, .iload 5, 2, 0, 0, 0, 0, .null), (35, .invokevirtual 140, 3, 0, 0, 2, 592, .null), (38, .istore 6, 2, 0, 0, 0, 0, .null), (40, .iload 6, 2, 0, 0, 0, 0, .null), (42, .bipush 32, 2, 0, 0, 0, 0, .int 32), (44, .if_icmp .ne 32, 3, 76, 0, 0, 0, .null), (47, .iload 4, 2, 0, 0, 0, 0, .null), (49, .ifCond .eq 13, 3, 62, 0, 0, 0, .null), (52, .iload_n 3, 1, 0, 0, 0, 0, .null), (53, .aload_n 0, 1, 0, 0, 0, 0, .null), (54, .getfield 39, 3, 7, 5, 0, 353, .null), (57, .if_icmp .ne 5, 3, 62, 0, 0, 0, .null), (60, .iload_n 2, 1, 0, 0, 0, 0, .null), (61, .ireturn, 1, 0, 0, 0, 0, .null), (62, .iinc 2 1, 3, 0, 0, 0, 0, .int 1), (65, .aload_n 0, 1, 0, 0, 0, 0, .null), (66, .getfield 59, 3, 7, 4, 0, 352, .null), (69, .istore_n 3, 1, 0, 0, 0, 0, .null), (70, .iconst 1, 1, 0, 0, 0, 0, .int 1), (71, .istore 4, 2, 0, 0, 0, 0, .null), (73, .goto 37, 3, 110, 0, 0, 0, .null), (76, .iload 4, 2, 0, 0, 0, 0, .null), (78, .ifCond .eq 26, 3, 104, 0, 0, 0, .null), (81, .iload_n 3, 1, 0, 0, 0, 0, .null), (82, .aload_n 0, 1, 0, 0, 0, 0, .null), (83, .getfield 39, 3, 7, 5, 0, 353, .null), (86, .if_icmp .ge 18, 3, 104, 0, 0, 0, .null), (89, .aload_n 0, 1, 0, 0, 0, 0, .null), (90, .getfield 9, 3, 7, 0, 2, 348, .null), (93, .iload_n 3, 1, 0, 0, 0, 0, .null), (94, .iaload, 1, 0, 0, 0, 0, .null), (95, .iload 6, 2, 0, 0, 0, 0, .null), (97, .if_icmp .ne 7, 3, 104, 0, 0, 0, .null), (100, .iconst 1, 1, 0, 0, 0, 0, .int 1), (101, .goto 4, 3, 105, 0, 0, 0, .null), (104, .iconst 0, 1, 0, 0, 0, 0, .int 0), (105, .istore 4, 2, 0, 0, 0, 0, .null), (107, .iinc 3 1, 3, 0, 0, 0, 0, .int 1), (110, .iinc 5 1, 3, 0, 0, 0, 0, .int 1), (113, .goto (-90), 3, 23, 0, 0, 0, .null), (116, .iload 4, 2, 0, 0, 0, 0, .null), (118, .ifCond .eq 15, 3, 133, 0, 0, 0, .null), (121, .iload_n 3, 1, 0, 0, 0, 0, .null), (122, .aload_n 0, 1, 0, 0, 0, 0, .null), (123, .getfield 39, 3, 7, 5, 0, 353, .null), (126, .if_icmp .ne 7, 3, 133, 0, 0, 0, .null), (129, .iload_n 2, 1, 0, 0, 0, 0, .null), (130, .goto 4, 3, 134, 0, 0, 0, .null), (133, .iconst (-1), 1, 0, 0, 0, 0, .int (-1)), (134, .ireturn, 1, 0, 0, 0, 0, .null)]
noncomputable def sm_o54 : List (Nat × sm_E) := [(0, .aload_n 0, 1, 0, 0, 0, 0, .null), (1, .getfield 52, 3, 7, 6, 0, 354, .null), (4, .iconst 2, 1, 0, 0, 0, 0, .int 2), (5, .if_icmp .eq 5, 3, 10, 0, 0, 0, .null), (8, .iconst (-1), 1, 0, 0, 0, 0, .int (-1)), (9, .ireturn, 1, 0, 0, 0, 0, .null), (10, .iconst 0, 1, 0, 0, 0, 0, .int 0), (11, .istore_n 3, 1, 0, 0, 0, 0, .null), (12, .aload_n 0, 1, 0, 0, 0, 0, .null), (13, .getfield 59, 3, 7, 4, 0, 352, .null), (16, .istore 4, 2, 0, 0, 0, 0, .null), (18, .iload 4, 2, 0, 0, 0, 0, .null), (20, .aload_n 0, 1, 0, 0, 0, 0, .null), (21, .getfield 39, 3, 7, 5, 0, 353, .null), (24, .if_icmp .ge 39, 3, 63, 0, 0, 0, .null), (27, .iload 4, 2, 0, 0, 0, 0, .null), (29, .aload_n 0, 1, 0, 0, 0, 0, .null), (30, .getfield 25, 3, 7, 1, 0, 349, .null), (33, .if_icmp .ge 30, 3, 63, 0, 0, 0, .null), (36, .iload_n 3, 1, 0, 0, 0, 0, .null), (37, .bipush 10, 2, 0, 0, 0, 0, .int 10), (39, .imul, 1, 0, 0, 0, 0, .null), (40, .aload_n 0, 1, 0, 0, 0, 0, .null), (41, .getfield 9, 3, 7, 0, 2, 348, .null), (44, .iload 4, 2, 0, 0, 0, 0, .null), (46, .iaload, 1, 0, 0, 0, 0, .null), (47, .iadd, 1, 0, 0, 0, 0, .null), (48, .bipush 48, 2, 0, 0, 0, 0, .int 48), (50, .isub, 1, 0, 0, 0, 0, .null), (51, .ldc 144, 2, 0, 0, 0, 658, .int 1000000), (53, .invokestatic 19, 3, 0, 0, 1, 563, .null), (56, .istore_n 3, 1, 0, 0, 0, 0, .null), (57, .iinc 4 1, 3, 0, 0, 0, 0, .int 1), (60, .goto (-42), 3, 18, 0, 0, 0, .null), (63, .iload_n 3, 1, 0, 0, 0, 0, .null), (64, .iload_n 1, 1, 0, 0, 0, 0, .null), (65, .if_icmp .lt 12, 3, 77, 0, 0, 0, .null), (68, .iload_n 3, 1, 0, 0, 0, 0, .null), (69, .iload_n 2, 1, 0, 0, 0, 0, .null), (70, .if_icmp .gt 7, 3, 77, 0, 0, 0, .null), (73, .iload_n 3, 1, 0, 0, 0, 0, .null), (74, .goto 4, 3, 78, 0, 0, 0, .null), (77, .iconst (-1), 1, 0, 0, 0, 0, .int (-1)), (78, .ireturn, 1, 0, 0, 0, 0, .null)]
noncomputable def sm_o55 : List (Nat × sm_E) := [(0, .aload_n 0, 1, 0, 0, 0, 0, .null), (1, .invokespecial 3, 3, 0, 0, 1, 275, .null), (4, .aload_n 0, 1, 0, 0, 0, 0, .null), (5, .iconst 5, 1, 0, 0, 0, 0, .int 5), (6, .anewarray 9, 3, 9, 11, 0, 276, .null), (9, .putfield 11, 3, 8, 1, 6, 280, .null), (12, .aload_n 0, 1, 0, 0, 0, 0, .null), (13, .iconst 5, 1, 0, 0, 0, 0, .int 5), (14, .newarray .int, 2, 0, 0, 0, 0, .null), (16, .putfield 17, 3, 8, 2, 6, 281, .null), (19, .aload_n 0, 1, 0, 0, 0, 0, .null), (20, .iconst 5, 1, 0, 0, 0, 0, .int 5), (21, .newarray .int, 2, 0, 0, 0, 0, .null), (23, .putfield 21, 3, 8, 3, 6, 282, .null), (26, .aload_n 0, 1, 0, 0, 0, 0, .null), (27, .aload_n 1, 1, 0, 0, 0, 0, .null), (28, .putfield 24, 3, 8, 0, 6, 279, .null), (31, .iconst 0, 1, 0, 0, 0, 0, .int 0), (32, .istore_n 2, 1, 0, 0, 0, 0, .null), (33, .iload_n 2, 1, 0, 0, 0, 0, .null), (34, .iconst 5, 1, 0, 0, 0, 0, .int 5), (35, .if_icmp .ge 22, 3, 57, 0, 0, 0, .null), (38, .aload_n 0, 1, 0, 0, 0, 0, .null), (39, .getfield 11, 3, 8, 1, 2, 280, .null), (42, .iload_n 2, 1, 0, 0, 0, 0, .null), (43, .new 9, 3, 9, 11, 0, 276, .null), (46, .dup, 1, 0, 0, 0, 0, .null), (47, .invokespecial 28, 3, 61, 0, 0, 278, .ref 1), (50, .aastore, 1, 0, 0, 0, 0, .null), (51, .iinc 2 1, 3, 0, 0, 0, 0, .int 1), (54, .goto (-21), 3, 33, 0, 0, 0, .null), (57, .return_, 1, 0, 0, 0, 0, .null)]
noncomputable def sm_o56 : List (Nat × sm_E) := [(0, .aload_n 0, 1, 0, 0, 0, 0, .null), (1, .getfield 29, 3, 8, 6, 0, 288, .null), (4, .iload_n 2, 1, 0, 0, 0, 0, .null), (5, .if_icmp .eq 13, 3, 18, 0, 0, 0, .null), (8, .iload_n 2, 1, 0, 0, 0, 0, .null), (9, .iconst 1, 1, 0, 0, 0, 0, .int 1), (10, .if_icmp .lt 8, 3, 18, 0, 0, 0, .null), (13, .iload_n 2, 1, 0, 0, 0, 0, .null), (14, .iconst 5, 1, 0, 0, 0, 0, .int 5), (15, .if_icmp .le 4, 3, 19, 0, 0, 0, .null), (18, .return_, 1, 0, 0, 0, 0, .null), (19, .iconst 0, 1, 0, 0, 0, 0, .int 0), (20, .istore_n 3, 1, 0, 0, 0, 0, .null), (21, .iload_n 3, 1, 0, 0, 0, 0, .null), (22, .iload_n 2, 1, 0, 0, 0, 0, .null), (23, .if_icmp .ge 19, 3, 42, 0, 0, 0, .null), (26, .aload_n 0, 1, 0, 0, 0, 0, .null), (27, .getfield 11, 3, 8, 1, 2, 280, .null), (30, .iload_n 3, 1, 0, 0, 0, 0, .null), (31, .aaload, 1, 0, 0, 0, 0, .null), (32, .aload_n 1, 1, 0, 0, 0, 0, .null), (33, .invokevirtual 33, 3, 62, 1, 0, 827, .ref 2), (36, .iinc 3 1, 3, 0, 0, 0, 0, .int 1), (39, .goto (-18), 3, 21, 0, 0, 0, .null), (42, .aload_n 0, 1, 0, 0, 0, 0, .null), (43, .iload_n 2, 1, 0, 0, 0, 0, .null), (44, .putfield 29, 3, 8, 6, 0, 288, .null), (47, .aload_n 0, 1, 0, 0, 0, 0, .null), (48, .iconst 0, 1, 0, 0, 0, 0, .int 0), (49, .putfield 37, 3, 8, 5, 3, 286, .null), (52, .aload_n 0, 1, 0, 0, 0, 0, .null), (53, .ldc 41, 2, 0, 0, 0, 828, .int 1000000), (55, .putfield 42, 3, 8, 4, 0, 284, .null), (58, .aload_n 0, 1, 0, 0, 0, 0, .null), (59, .iconst 0, 1, 0, 0, 0, 0, .int 0), (60, .iconst 0, 1, 0, 0, 0, 0, .int 0), (61, .invokevirtual 45, 3, 57, 2, 0, 829, .ref 6), (64, .return_, 1, 0, 0, 0, 0, .null)]
noncomputable def sm_o57 : List (Nat × sm_E) := [(0, .iload_n 1, 1, 0, 0, 0, 0, .null), (1, .aload_n 0, 1, 0, 0, 0, 0, .null), (2, .getfield 29, 3, 8, 6, 0, 288, .null), (5, .if_icmp .lt 31, 3, 36, 0, 0, 0, .null), (8, .aload_n 0, 1, 0, 0, 0, 0, .null), (9, .iconst 1, 1, 0, 0, 0, 0, .int 1), (10, .putfield 37, 3, 8, 5, 3, 286, .null), (13, .aload_n 0, 1, 0, 0, 0, 0, .null), (14, .iload_n 2, 1, 0, 0, 0, 0, .null), (15, .putfield 42, 3, 8, 4, 0, 284, .null), (18, .aload_n 0, 1, 0, 0, 0, 0, .null), (19, .getfield 17, 3, 8, 2, 2, 281, .null), (22, .iconst 0, 1, 0, 0, 0, 0, .int 0), (23, .aload_n 0, 1, 0, 0, 0, 0, .null), (24, .getfield 21, 3, 8, 3, 2, 282, .null), (27, .iconst 0, 1, 0, 0, 0, 0, .int 0), (28, .aload_n 0, 1, 0, 0, 0, 0, .null), (29, .getfield 29, 3, 8, 6, 0, 288, .null), (32, .invokestatic 49, 3, 0, 0, 3, 833, .null), (35, .return_, 1, 0, 0, 0, 0, .null), (36, .aload_n 0, 1, 0, 0, 0, 0, .null), (37, .getfield 11, 3, 8, 1, 2, 280, .null), (40, .iload_n 1, 1, 0, 0, 0, 0, .null), (41, .aaload, 1, 0, 0, 0, 0, .null), (42, .astore_n 3, 1, 0, 0, 0, 0, .null), (43, .iconst 0, 1, 0, 0, 0, 0, .int 0), (44, .istore 4, 2, 0, 0, 0, 0, .null), (46, .iload 4, 2, 0, 0, 0, 0, .null), (48, .aload_n 3, 1, 0, 0, 0, 0, .null), (49, .getfield 55, 3, 9, 4, 0, 55, .null), (52, .if_icmp .ge 92, 3, 144, 0, 0, 0, .null), (55, .aload_n 0, 1, 0, 0, 0, 0, .null), (56, .aload_n 3, 1, 0, 0, 0, 0, .null), (57, .iload 4, 2, 0, 0, 0, 0, .null), (59, .invokevirtual 58, 3, 58, 2, 0, 834, .ref 3), (62, .istore 5, 2, 0, 0, 0, 0, .null), (64, .iload 5, 2, 0, 0, 0, 0, .null), (66, .iconst (-1), 1, 0, 0, 0, 0, .int (-1)), (67, .if_icmp .eq 71, 3, 138, 0, 0, 0, .null), (70, .iload_n 2, 1, 0, 0, 0, 0, .null), (71, .iload 5, 2, 0, 0, 0, 0, .null), (73, .iadd, 1, 0, 0, 0, 0, .null), (74, .aload_n 0, 1, 0, 0, 0, 0, .null), (75, .getfield 42, 3, 8, 4, 0, 284, .null), (78, .if_icmp .ge 60, 3, 138, 0, 0, 0, .null), (81, .aload_n 0, 1, 0, 0, 0, 0, .null), (82, .aload_n 3, 1, 0, 0, 0, 0, .null), (83, .iload 4, 2, 0, 0, 0, 0, .null), (85, .invokevirtual 62, 3, 59, 2, 0, 841, .ref 6), (88, .ifCond .eq 6, 3, 94, 0, 0, 0, .null), (91, .goto 47, 3, 138, 0, 0, 0, .null), (94, .aload_n 0, 1, 0, 0, 0, 0, .null), (95, .getfield 17, 3, 8, 2, 2, 281, .null), (98, .iload_n 1, 1, 0, 0, 0, 0, .null), (99, .iload 4, 2, 0, 0, 0, 0, .null), (101, .iastore, 1, 0, 0, 0, 0, .null), (102, .iload_n 1, 1, 0, 0, 0, 0, .null), (103, .iconst 1, 1, 0, 0, 0, 0, .int 1), (104, .iadd, 1, 0, 0, 0, 0, .null), (105, .aload_n 0, 1, 0, 0, 0, 0, .null), (106, .getfield 29, 3, 8, 6, 0, 288, .null), (109, .if_icmp .ge 18, 3, 127, 0, 0, 0, .null), (112, .aload_n 0, 1, 0, 0, 0, 0, .null), (113, .aload_n 3, 1, 0, 0, 0, 0, .null), (114, .iload 4, 2, 0, 0, 0, 0, .null), (116, .aload_n 0, 1, 0, 0, 0, 0, .null), (117, .getfield 11, 3, 8, 1, 2, 280, .null), (120, .iload_n 1, 1, 0, 0, 0, 0, .null), (121, .iconst 1, 1, 0, 0, 0, 0, .int 1), (122, .iadd, 1, 0, 0, 0, 0, .null), (123, .aaload, 1, 0, 0, 0, 0, .null), (124, .invokevirtual 66, 3, 60, 3, 0, 846, .ref 4), (127, .aload_n 0, 1, 0, 0, 0, 0, .null), (128, .iload_n 1, 1, 0, 0, 0, 0, .null), (129, .iconst 1, 1, 0, 0, 0, 0, .int 1), (130, .iadd, 1, 0, 0, 0, 0, .null), (131, .iload_n 2, 1, 0, 0, 0, 0, .null), (132, .iload 5, 2, 0, 0, 0, 0, .null), (134, .iadd, 1, 0, 0, 0, 0, .null), (135, .invokevirtual 45, 3, 57, 2, 0, 829, .ref 6), (138, .iinc 4 1, 3, 0, 0, 0, 0, .int 1), (141, .goto (-95), 3, 46, 0, 0, 0, .null), (144, .return_, 1, 0, 0, 0, 0, .null)]
noncomputable def sm_o58 : List (Nat × sm_E) := [(0, .aload_n 1, 1, 0, 0, 0, 0, .null), (1, .getfield 70, 3, 9, 6, 0, 64, .null), (4, .iload_n 2, 1, 0, 0, 0, 0, .null), (5, .if_icmp .ne 5, 3, 10, 0, 0, 0, .null), (8, .iconst 0, 1, 0, 0, 0, 0, .int 0), (9, .ireturn, 1, 0, 0, 0, 0, .null), (10, .aload_n 0, 1, 0, 0, 0, 0, .null), (11, .getfield 24, 3, 8, 0, 2, 279, .null), (14, .iconst 0, 1, 0, 0, 0, 0, .int 0), (15, .aload_n 1, 1, 0, 0, 0, 0, .null), (16, .iload_n 2, 1, 0, 0, 0, 0, .null), (17, .invokevirtual 73, 3, 28, 3, 0, 838, .ref 4), (20, .ifCond .ne 5, 3, 25, 0, 0, 0, .null), (23, .iconst (-1), 1, 0, 0, 0, 0, .int (-1)), (24, .ireturn, 1, 0, 0, 0, 0, .null), (25, .aload_n 0, 1, 0, 0, 0, 0, .null), (26, .getfield 24, 3, 8, 0, 2, 279, .null), (29, .aload_n 0, 1, 0, 0, 0, 0, .null), (30, .getfield 24, 3, 8, 0, 2, 279, .null), (33, .getfield 79, 3, 5, 0, 10, 203, .null), (36, .invokevirtual 83, 3, 4, 0, 0, 839, .ref 1), (39, .iconst 2, 1, 0, 0, 0, 0, .int 2), (40, .aload_n 1, 1, 0, 0, 0, 0, .null), (41, .iload_n 2, 1, 0, 0, 0, 0, .null), (42, .aload_n 1, 1, 0, 0, 0, 0, .null), (43, .getfield 70, 3, 9, 6, 0, 64, .null), (46, .invokevirtual 89, 3, 26, 5, 0, 840, .ref 8), (49, .ireturn, 1, 0, 0, 0, 0, .null)]
noncomputable def sm_o59 : List (Nat × sm_E) := [(0, .aload_n 1, 1, 0, 0, 0, 0, .null), (1, .getfield 70, 3, 9, 6, 0, 64, .null), (4, .istore_n 3, 1, 0, 0, 0, 0, .null), (5, .aload_n 1, 1, 0, 0, 0, 0, .null), (6, .getfield 93, 3, 9, 7, 0, 72, .null), (9, .istore 4, 2, 0, 0, 0, 0, .null), (11, .aload_n 1, 1, 0, 0, 0, 0, .null), (12, .iload_n 2, 1, 0, 0, 0, 0, .null), (13, .putfield 70, 3, 9, 6, 0, 64, .null), (16, .aload_n 1, 1, 0, 0, 0, 0, .null), (17, .iload_n 3, 1, 0, 0, 0, 0, .null), (18, .iload_n 2, 1, 0, 0, 0, 0, .null), (19, .if_icmp .ne 8, 3, 27, 0, 0, 0, .null), (22, .iload 4, 2, 0, 0, 0, 0, .null), (24, .goto 4, 3, 28, 0, 0, 0, .null), (27, .iconst 0, 1, 0, 0, 0, 0, .int 0), (28, .putfield 93, 3, 9, 7, 0, 72, .null), (31, .aload_n 0, 1, 0, 0, 0, 0, .null), (32, .getfield 24, 3, 8, 0, 2, 279, .null), (35, .aload_n 1, 1, 0, 0, 0, 0, .null), (36, .invokevirtual 96, 3, 33, 1, 0, 845, .ref 3), (39, .istore 5, 2, 0, 0, 0, 0, .null), (41, .aload_n 1, 1, 0, 0, 0, 0, .null), (42, .iload_n 3, 1, 0, 0, 0, 0, .null), (43, .putfield 70, 3, 9, 6, 0, 64, .null), (46, .aload_n 1, 1, 0, 0, 0, 0, .null), (47, .iload 4, 2, 0, 0, 0, 0, .null), (49, .putfield 93, 3, 9, 7, 0, 72, .null), (52, .iload 5, 2, 0, 0, 0, 0, .null), (54, .ireturn, 1, 0, 0, 1, 0, .null)]
noncomputable def sm_o60 : List (Nat × sm_E) := [(0, .aload_n 3, 1, 0, 0, 0, 0, .null), (1, .aload_n 1, 1, 0, 0, 0, 0, .null), (2, .invokevirtual 100, 3, 63, 1, 0, 850, .ref 2), (5, .aload_n 3, 1, 0, 0, 0, 0, .null), (6, .getfield 70, 3, 9, 6, 0, 64, .null), (9, .iload_n 2, 1, 0, 0, 0, 0, .null), (10, .if_icmp .eq 12, 3, 22, 0, 0, 0, .null), (13, .aload_n 0, 1, 0, 0, 0, 0, .null), (14, .getfield 24, 3, 8, 0, 2, 279, .null), (17, .aload_n 3, 1, 0, 0, 0, 0, .null), (18, .iload_n 2, 1, 0, 0, 0, 0, .null), (19, .invokevirtual 103, 3, 30, 2, 0, 851, .ref 3), (22, .aload_n 0, 1, 0, 0, 0, 0, .null), (23, .getfield 24, 3, 8, 0, 2, 279, .null), (26, .aload_n 3, 1, 0, 0, 0, 0, .null), (27, .invokevirtual 107, 3, 32, 1, 0, 852, .ref 6), (30, .pop, 1, 0, 0, 0, 0, .null), (31, .return_, 1, 0, 0, 0, 0, .null)]
noncomputable def sm_o61 : List (Nat × sm_E) := [(0, .aload_n 0, 1, 0, 0, 0, 0, .null), (1, .invokespecial 3, 3, 0, 0, 1, 33, .null), (4, .aload_n 0, 1, 0, 0, 0, 0, .null), (5, .bipush 7, 2, 0, 0, 0, 0, .int 7), (7, .newarray .int, 2, 0, 0, 0, 0, .null), (9, .putfield 9, 3, 9, 0, 6, 36, .null), (12, .aload_n 0, 1, 0, 0, 0, 0, .null), (13, .bipush 7, 2, 0, 0, 0, 0, .int 7), (15, .newarray .int, 2, 0, 0, 0, 0, .null), (17, .putfield 15, 3, 9, 1, 6, 39, .null), (20, .aload_n 0, 1, 0, 0, 0, 0, .null), (21, .bipush 7, 2, 0, 0, 0, 0, .int 7), (23, .newarray .int, 2, 0, 0, 0, 0, .null), (25, .putfield 18, 3, 9, 2, 6, 41, .null), (28, .aload_n 0, 1, 0, 0, 0, 0, .null), (29, .getstatic 21, 3, 0, 0, 8, 34, .retAddr 0), (32, .arraylength, 1, 0, 0, 0, 0, .null), (33, .newarray .int, 2, 0, 0, 0, 0, .null), (35, .putfield 24, 3, 9, 3, 6, 46, .null), (38, .aload_n 0, 1, 0, 0, 0, 0, .null), (39, .iconst (-1), 1, 0, 0, 0, 0, .int (-1)), (40, .putfield 27, 3, 9, 6, 0, 62, .null), (43, .aload_n 0, 1, 0, 0, 0, 0, .null), (44, .getfield 24, 3, 9, 3, 2, 46, .null), (47, .iconst 1, 1, 0, 0, 0, 0, .int 1), (48, .iconst 1, 1, 0, 0, 0, 0, .int 1), (49, .iastore, 1, 0, 0, 0, 0, .null), (50, .aload_n 0, 1, 0, 0, 0, 0, .null), (51, .getfield 24, 3, 9, 3, 2, 46, .null), (54, .iconst 3, 1, 0, 0, 0, 0, .int 3), (55, .iconst 2, 1, 0, 0, 0, 0, .int 2), (56, .iastore, 1, 0, 0, 0, 0, .null), (57, .return_, 1, 0, 0, 0, 0, .null)]
noncomputable def sm_o62 : List (Nat × sm_E) := [(0, .aload_n 1, 1, 0, 0, 0, 0, .null), (1, .getfield 9, 3, 9, 0, 2, 36, .null), (4, .iconst 0, 1, 0, 0, 0, 0, .int 0), (5, .aload_n 0, 1, 0, 0, 0, 0, .null), (6, .getfield 9, 3, 9, 0, 2, 36, .null), (9, .iconst 0, 1, 0, 0, 0, 0, .int 0), (10, .bipush 7, 2, 0, 0, 0, 0, .int 7), (12, .invokestatic 31, 3, 0, 0, 3, 703, .null), (15, .aload_n 1, 1, 0, 0, 0, 0, .null), (16, .getfield 15, 3, 9, 1, 2, 39, .null), (19, .iconst 0, 1, 0, 0, 0, 0, .int 0), (20, .aload_n 0, 1, 0, 0, 0, 0, .null), (21, .getfield 15, 3, 9, 1, 2, 39, .null), (24, .iconst 0, 1, 0, 0, 0, 0, .int 0), (25, .bipush 7, 2, 0, 0, 0, 0, .int 7), (27, .invokestatic 31, 3, 0, 0, 3, 703, .null), (30, .aload_n 1, 1, 0, 0, 0, 0, .null), (31, .getfield 24, 3, 9, 3, 2, 46, .null), (34, .iconst 0, 1, 0, 0, 0, 0, .int 0), (35, .aload_n 0, 1, 0, 0, 0, 0, .null), (36, .getfield 24, 3, 9, 3, 2, 46, .null), (39, .iconst 0, 1, 0, 0, 0, 0, .int 0), (40, .aload_n 0, 1, 0, 0, 0, 0, .null), (41, .getfield 24, 3, 9, 3, 2, 46, .null), (44, .arraylength, 1, 0, 0, 0, 0, .null), (45, .invokestatic 31, 3, 0, 0, 3, 703, .null), (48, .aload_n 0, 1, 0, 0, 0, 0, .null), (49, .aload_n 1, 1, 0, 0, 0, 0, .null), (50, .getfield 37, 3, 9, 4, 0, 54, .null), (53, .putfield 37, 3, 9, 4, 0, 54, .null), (56, .aload_n 0, 1, 0, 0, 0, 0, .null), (57, .aload_n 1, 1, 0, 0, 0, 0, .null), (58, .getfield 40, 3, 9, 8, 0, 75, .null), (61, .putfield 40, 3, 9, 8, 0, 75, .null), (64, .aload_n 0, 1, 0, 0, 0, 0, .null), (65, .aload_n 1, 1, 0, 0, 0, 0, .null), (66, .getfield 43, 3, 9, 9, 0, 77, .null), (69, .putfield 43, 3, 9, 9, 0, 77, .null), (72, .aload_n 0, 1, 0, 0, 0, 0, .null), (73, .aload_n 1, 1, 0, 0, 0, 0, .null), (74, .getfield 46, 3, 9, 10, 0, 79, .null), (77, .putfield 46, 3, 9, 10, 0, 79, .null), (80, .aload_n 0, 1, 0, 0, 0, 0, .null), (81, .aload_n 1, 1, 0, 0, 0, 0, .null), (82, .invokevirtual 49, 3, 63, 1, 0, 706, .ref 2), (85, .return_, 1, 0, 0, 0, 0, .null)]
noncomputable def sm_o63 : List (Nat × sm_E) := [(0, .aload_n 1, 1, 0, 0, 0, 0, .null), (1, .getfield 18, 3, 9, 2, 2, 41, .null), (4, .iconst 0, 1, 0, 0, 0, 0, .int 0), (5, .aload_n 0, 1, 0, 0, 0, 0, .null), (6, .getfield 18, 3, 9, 2, 2, 41, .null), (9, .iconst 0, 1, 0, 0, 0, 0, .int 0), (10, .bipush 7, 2, 0, 0, 0, 0, .int 7), (12, .invokestatic 31, 3, 0, 0, 3, 703, .null), (15, .aload_n 0, 1, 0, 0, 0, 0, .null), (16, .aload_n 1, 1, 0, 0, 0, 0, .null), (17, .getfield 53, 3, 9, 5, 0, 58, .null), (20, .putfield 53, 3, 9, 5, 0, 58, .null), (23, .aload_n 0, 1, 0, 0, 0, 0, .null), (24, .aload_n 1, 1, 0, 0, 0, 0, .null), (25, .getfield 27, 3, 9, 6, 0, 62, .null), (28, .putfield 27, 3, 9, 6, 0, 62, .null), (31, .aload_n 0, 1, 0, 0, 0, 0, .null), (32, .aload_n 1, 1, 0, 0, 0, 0, .null), (33, .getfield 56, 3, 9, 7, 0, 69, .null), (36, .putfield 56, 3, 9, 7, 0, 69, .null), (39, .aload_n 0, 1, 0, 0, 0, 0, .null), (40, .getfield 24, 3, 9, 3, 2, 46, .null), (43, .iconst 0, 1, 0, 0, 0, 0, .int 0), (44, .aload_n 1, 1, 0, 0, 0, 0, .null), (45, .getfield 24, 3, 9, 3, 2, 46, .null), (48, .iconst 0, 1, 0, 0, 0, 0, .int 0), (49, .iaload, 1, 0, 0, 0, 0, .null), (50, .iastore, 1, 0, 0, 0, 0, .null), (51, .return_, 1, 0, 0, 0, 0, .null)]
noncomputable def sm_o64 : List (Nat × sm_E) := [(0, .iload_n 1, 1, 0, 0, 0, 0, .null), (1, .ifCond .lt 15, 3, 16, 0, 0, 0, .null), (4, .iload_n 1, 1, 0, 0, 0, 0, .null), (5, .aload_n 0, 1, 0, 0, 0, 0, .null), (6, .getfield 37, 3, 9, 4, 0, 54, .null), (9, .if_icmp .ge 7, 3, 16, 0, 0, 0, .null), (12, .iconst 1, 1, 0, 0, 0, 0, .int 1), (13, .goto 4, 3, 17, 0, 0, 0, .null), (16, .iconst 0, 1, 0, 0, 0, 0, .int 0), (17, .ireturn, 1, 0, 0, 1, 0, .null)]
noncomputable def sm_o65 : List (Nat × sm_E) := [(0, .aload_n 0, 1, 0, 0, 0, 0, .null), (1, .getfield 53, 3, 9, 5, 0, 58, .null), (4, .iload_n 1, 1, 0, 0, 0, 0, .null), (5, .ishr, 1, 0, 0, 0, 0, .null), (6, .iconst 1, 1, 0, 0, 0, 0, .int 1), (7, .iand, 1, 0, 0, 0, 0, .null), (8, .iconst 1, 1, 0, 0, 0, 0, .int 1), (9, .if_icmp .ne 7, 3, 16, 0, 0, 0, .null), (12, .iconst 1, 1, 0, 0, 0, 0, .int 1), (13, .goto 4, 3, 17, 0, 0, 0, .null), (16, .iconst 0, 1, 0, 0, 0, 0, .int 0), (17, .ireturn, 1, 0, 0, 1, 0, .null)]
noncomputable def sm_o66 : List (Nat × sm_E) := [(0, .aload_n 0, 1, 0, 0, 0, 0, .null), (1, .getfield 37, 3, 9, 4, 0, 54, .null), (4, .aload_n 0, 1, 0, 0, 0, 0, .null), (5, .getfield 53, 3, 9, 5, 0, 58, .null), (8, .invokestatic 59, 3, 240, 1, 0, 486, .ref 1), (11, .isub, 1, 0, 0, 0, 0, .null), (12, .ireturn, 1, 0, 0, 0, 0, .null)]
noncomputable def sm_o67 : List (Nat × sm_E) := [(0, .aload_n 0, 1, 0, 0, 0, 0, .null), (1, .getfield 37, 3, 9, 4, 0, 54, .null), (4, .bipush 7, 2, 0, 0, 0, 0, .int 7), (6, .if_icmp .lt 5, 3, 11, 0, 0, 0, .null), (9, .iconst (-1), 1, 0, 0, 0, 0, .int (-1)), (10, .ireturn, 1, 0, 0, 0, 0, .null), (11, .aload_n 0, 1, 0, 0, 0, 0, .null), (12, .getfield 9, 3, 9, 0, 2, 36, .null), (15, .aload_n 0, 1, 0, 0, 0, 0, .null), (16, .getfield 37, 3, 9, 4, 0, 54, .null), (19, .iload_n 1, 1, 0, 0, 0, 0, .null), (20, .iastore, 1, 0, 0, 0, 0, .null), (21, .aload_n 0, 1, 0, 0, 0, 0, .null), (22, .getfield 15, 3, 9, 1, 2, 39, .null), (25, .aload_n 0, 1, 0, 0, 0, 0, .null), (26, .getfield 37, 3, 9, 4, 0, 54, .null), (29, .iload_n 2, 1, 0, 0, 0, 0, .null), (30, .iastore, 1, 0, 0, 0, 0, .null), (31, .aload_n 0, 1, 0, 0, 0, 0, .null), (32, .getfield 18, 3, 9, 2, 2, 41, .null), (35, .aload_n 0, 1, 0, 0, 0, 0, .null), (36, .getfield 37, 3, 9, 4, 0, 54, .null), (39, .iconst 0, 1, 0, 0, 0, 0, .int 0), (40, .iastore, 1, 0, 0, 0, 0, .null), (41, .aload_n 0, 1, 0, 0, 0, 0, .null), (42, .dup, 1, 0, 0, 0, 0, .null), (43, .getfield 37, 3, 9, 4, 0, 54, .null), (46, .iconst 1, 1, 0, 0, 0, 0, .int 1), (47, .iadd, 1, 0, 0, 0, 0, .null), (48, .putfield 37, 3, 9, 4, 0, 54, .null), (51, .aload_n 0, 1, 0, 0, 0, 0, .null), (52, .getfield 37, 3, 9, 4, 0, 54, .null), (55, .iconst 1, 1, 0, 0, 0, 0, .int 1), (56, .isub, 1, 0, 0, 0, 0, .null), (57, .ireturn, 1, 0, 0, 0, 0, .null)]
noncomputable def sm_o68 : List (Nat × sm_E) := [(0, .aload_n 0, 1, 0, 0, 0, 0, .null), (1, .getfield 15, 3, 9, 1, 2, 39, .null), (4, .iload_n 1, 1, 0, 0, 0, 0, .null), (5, .iaload, 1, 0, 0, 0, 0, .null), (6, .aload_n 0, 1, 0, 0, 0, 0, .null), (7, .getfield 15, 3, 9, 1, 2, 39, .null), (10, .iload_n 2, 1, 0, 0, 0, 0, .null), (11, .iaload, 1, 0, 0, 0, 0, .null), (12, .ixor, 1, 0, 0, 0, 0, .null), (13, .invokestatic 59, 3, 240, 1, 0, 486, .ref 1), (16, .ireturn, 1, 0, 0, 0, 0, .null)]
noncomputable def sm_o69 : List (Nat × sm_E) := [(0, .iconst 1, 1, 0, 0, 0, 0, .int 1), (1, .iload_n 2, 1, 0, 0, 0, 0, .null), (2, .ishl, 1, 0, 0, 0, 0, .null), (3, .istore_n 3, 1, 0, 0, 0, 0, .null), (4, .iconst 0, 1, 0, 0, 0, 0, .int 0), (5, .istore 4, 2, 0, 0, 0, 0, .null), (7, .iload 4, 2, 0, 0, 0, 0, .null), (9, .aload_n 0, 1, 0, 0, 0, 0, .null), (10, .getfield 37, 3, 9, 4, 0, 54, .null), (13, .if_icmp .ge 51, 3, 64, 0, 0, 0, .null), (16, .iconst 0, 1, 0, 0, 0, 0, .int 0), (17, .istore 5, 2, 0, 0, 0, 0, .null), (19, .iload 5, 2, 0, 0, 0, 0, .null), (21, .aload_n 0, 1, 0, 0, 0, 0, .null), (22, .getfield 37, 3, 9, 4, 0, 54, .null), (25, .if_icmp .ge 33, 3, 58, 0, 0, 0, .null), (28, .iload_n 3, 1, 0, 0, 0, 0, .null), (29, .iload_n 3, 1, 0, 0, 0, 0, .null), (30, .iload 5, 2, 0, 0, 0, 0, .null), (32, .ishr, 1, 0, 0, 0, 0, .null), (33, .iconst 1, 1, 0, 0, 0, 0, .int 1), (34, .iand, 1, 0, 0, 0, 0, .null), (35, .iconst 1, 1, 0, 0, 0, 0, .int 1), (36, .if_icmp .ne 13, 3, 49, 0, 0, 0, .null), (39, .aload_n 0, 1, 0, 0, 0, 0, .null), (40, .iload_n 1, 1, 0, 0, 0, 0, .null), (41, .iload 5, 2, 0, 0, 0, 0, .null), (43, .invokevirtual 65, 3, 70, 2, 0, 904, .ref 5), (46, .goto 4, 3, 50, 0, 0, 0, .null), (49, .iconst 0, 1, 0, 0, 0, 0, .int 0), (50, .ior, 1, 0, 0, 0, 0, .null), (51, .istore_n 3, 1, 0, 0, 0, 0, .null), (52, .iinc 5 1, 3, 0, 0, 0, 0, .int 1), (55, .goto (-36), 3, 19, 0, 0, 0, .null), (58, .iinc 4 1, 3, 0, 0, 0, 0, .int 1), (61, .goto (-54), 3, 7, 0, 0, 0, .null), (64, .iload_n 3, 1, 0, 0, 0, 0, .null), (65, .ireturn, 1, 0, 0, 0, 0, .null)]
noncomputable def sm_o70 : List (Nat × sm_E) := [(0, .iconst 0, 1, 0, 0, 0, 0, .int 0), (1, .istore_n 3, 1, 0, 0, 0, 0, .null), (2, .iconst 0, 1, 0, 0, 0, 0, .int 0), (3, .istore 4, 2, 0, 0, 0, 0, .null), (5, .iload 4, 2, 0, 0, 0, 0, .null), (7, .aload_n 0, 1, 0, 0, 0, 0, .null), (8, .getfield 37, 3, 9, 4, 0, 54, .null), (11, .if_icmp .ge 31, 3, 42, 0, 0, 0, .null), (14, .iload_n 3, 1, 0, 0, 0, 0, .null), (15, .aload_n 0, 1, 0, 0, 0, 0, .null), (16, .iload_n 2, 1, 0, 0, 0, 0, .null), (17, .iload 4, 2, 0, 0, 0, 0, .null), (19, .invokevirtual 69, 3, 68, 2, 0, 908, .ref 3), (22, .iload_n 1, 1, 0, 0, 0, 0, .null), (23, .if_icmp .gt 10, 3, 33, 0, 0, 0, .null), (26, .iconst 1, 1, 0, 0, 0, 0, .int 1), (27, .iload 4, 2, 0, 0, 0, 0, .null), (29, .ishl, 1, 0, 0, 0, 0, .null), (30, .goto 4, 3, 34, 0, 0, 0, .null), (33, .iconst 0, 1, 0, 0, 0, 0, .int 0), (34, .ior, 1, 0, 0, 0, 0, .null), (35, .istore_n 3, 1, 0, 0, 0, 0, .null), (36, .iinc 4 1, 3, 0, 0, 0, 0, .int 1), (39, .goto (-34), 3, 5, 0, 0, 0, .null), (42, .iload_n 3, 1, 0, 0, 0, 0, .null), (43, .ireturn, 1, 0, 0, 0, 0, .null)]
noncomputable def sm_o71 : List (Nat × sm_E) := [(0, .iconst 0, 1, 0, 0, 0, 0, .int 0), (1, .istore_n 2, 1, 0, 0, 0, 0, .null), (2, .iconst 0, 1, 0, 0, 0, 0, .int 0), (3, .istore_n 3, 1, 0, 0, 0, 0, .null), (4, .iload_n 3, 1, 0, 0, 0, 0, .null), (5, .aload_n 0, 1, 0, 0, 0, 0, .null), (6, .getfield 37, 3, 9, 4, 0, 54, .null), (9, .if_icmp .ge 36, 3, 45, 0, 0, 0, .null), (12, .aload_n 0, 1, 0, 0, 0, 0, .null), (13, .iload_n 1, 1, 0, 0, 0, 0, .null), (14, .iload_n 3, 1, 0, 0, 0, 0, .null), (15, .invokevirtual 72, 3, 69, 2, 0, 900, .ref 6), (18, .iconst 1, 1, 0, 0, 0, 0, .int 1), (19, .iload_n 3, 1, 0, 0, 0, 0, .null), (20, .ishl, 1, 0, 0, 0, 0, .null), (21, .iconst 1, 1, 0, 0, 0, 0, .int 1), (22, .isub, 1, 0, 0, 0, 0, .null), (23, .iand, 1, 0, 0, 0, 0, .null), (24, .istore 4, 2, 0, 0, 0, 0, .null), (26, .iload_n 2, 1, 0, 0, 0, 0, .null), (27, .iload 4, 2, 0, 0, 0, 0, .null), (29, .ifCond .ne 7, 3, 36, 0, 0, 0, .null), (32, .iconst 1, 1, 0, 0, 0, 0, .int 1), (33, .goto 4, 3, 37, 0, 0, 0, .null), (36, .iconst 0, 1, 0, 0, 0, 0, .int 0), (37, .iadd, 1, 0, 0, 0, 0, .null), (38, .istore_n 2, 1, 0, 0, 0, 0, .null), (39, .iinc 3 1, 3, 0, 0, 0, 0, .int 1), (42, .goto (-38), 3, 4, 0, 0, 0, .null), (45, .iload_n 2, 1, 0, 0, 0, 0, .null), (46, .ireturn, 1, 0, 0, 0, 0, .null)]
noncomputable def sm_o72 : List (Nat × sm_E) := [(0, .iconst 0, 1, 0, 0, 0, 0, .int 0), (1, .istore_n 1, 1, 0, 0, 0, 0, .null), (2, .iconst 0, 1, 0, 0, 0, 0, .int 0), (3, .istore_n 2, 1, 0, 0, 0, 0, .null), (4, .iload_n 2, 1, 0, 0, 0, 0, .null), (5, .aload_n 0, 1, 0, 0, 0, 0, .null), (6, .getfield 37, 3, 9, 4, 0, 54, .null), (9, .if_icmp .ge 61, 3, 70, 0, 0, 0, .null), (12, .aload_n 0, 1, 0, 0, 0, 0, .null), (13, .getfield 15, 3, 9, 1, 2, 39, .null), (16, .iload_n 2, 1, 0, 0, 0, 0, .null), (17, .iaload, 1, 0, 0, 0, 0, .null), (18, .aload_n 0, 1, 0, 0, 0, 0, .null), (19, .getfield 43, 3, 9, 9, 0, 77, .null), (22, .iand, 1, 0, 0, 0, 0, .null), (23, .aload_n 0, 1, 0, 0, 0, 0, .null), (24, .getfield 43, 3, 9, 9, 0, 77, .null), (27, .if_icmp .ne 21, 3, 48, 0, 0, 0, .null), (30, .aload_n 0, 1, 0, 0, 0, 0, .null), (31, .getfield 15, 3, 9, 1, 2, 39, .null), (34, .iload_n 2, 1, 0, 0, 0, 0, .null), (35, .iaload, 1, 0, 0, 0, 0, .null), (36, .aload_n 0, 1, 0, 0, 0, 0, .null), (37, .getfield 46, 3, 9, 10, 0, 79, .null), (40, .iand, 1, 0, 0, 0, 0, .null), (41, .ifCond .ne 7, 3, 48, 0, 0, 0, .null), (44, .iconst 1, 1, 0, 0, 0, 0, .int 1), (45, .goto 4, 3, 49, 0, 0, 0, .null), (48, .iconst 0, 1, 0, 0, 0, 0, .int 0), (49, .istore_n 3, 1, 0, 0, 0, 0, .null), (50, .iload_n 1, 1, 0, 0, 0, 0, .null), (51, .iload_n 3, 1, 0, 0, 0, 0, .null), (52, .ifCond .eq 9, 3, 61, 0, 0, 0, .null), (55, .iconst 1, 1, 0, 0, 0, 0, .int 1), (56, .iload_n 2, 1, 0, 0, 0, 0, .null), (57, .ishl, 1, 0, 0, 0, 0, .null), (58, .goto 4, 3, 62, 0, 0, 0, .null), (61, .iconst 0, 1, 0, 0, 0, 0, .int 0), (62, .ior, 1, 0, 0, 0, 0, .null), (63, .istore_n 1, 1, 0, 0, 0, 0, .null), (64, .iinc 2 1, 3, 0, 0, 0, 0, .int 1), (67, .goto (-63), 3, 4, 0, 0, 0, .null), (70, .iload_n 1, 1, 0, 0, 0, 0, .null), (71, .ireturn, 1, 0, 0, 0, 0, .null)]
noncomputable def sm_o73 : List (Nat × sm_E) := [(0, .iconst 0, 1, 0, 0, 0, 0, .int 0), (1, .istore_n 3, 1, 0, 0, 0, 0, .null), (2, .iconst 0, 1, 0, 0, 0, 0, .int 0), (3, .istore 4, 2, 0, 0, 0, 0, .null), (5, .iload 4, 2, 0, 0, 0, 0, .null), (7, .aload_n 0, 1, 0, 0, 0, 0, .null), (8, .getfield 37, 3, 9, 4, 0, 54, .null), (11, .if_icmp .ge 28, 3, 39, 0, 0, 0, .null), (14, .iload_n 3, 1, 0, 0, 0, 0, .null), (15, .iload_n 1, 1, 0, 0, 0, 0, .null), (16, .iload 4, 2, 0, 0, 0, 0, .null), (18, .ishr, 1, 0, 0, 0, 0, .null), (19, .aload_n 0, 1, 0, 0, 0, 0, .null), (20, .getfield 15, 3, 9, 1, 2, 39, .null), (23, .iload 4, 2, 0, 0, 0, 0, .null), (25, .iaload, 1, 0, 0, 0, 0, .null), (26, .iload_n 2, 1, 0, 0, 0, 0, .null), (27, .ishr, 1, 0, 0, 0, 0, .null), (28, .iand, 1, 0, 0, 0, 0, .null), (29, .iconst 1, 1, 0, 0, 0, 0, .int 1), (30, .iand, 1, 0, 0, 0, 0, .null), (31, .iadd, 1, 0, 0, 0, 0, .null), (32, .istore_n 3, 1, 0, 0, 0, 0, .null), (33, .iinc 4 1, 3, 0, 0, 0, 0, .int 1), (36, .goto (-31), 3, 5, 0, 0, 0, .null), (39, .iload_n 3, 1, 0, 0, 0, 0, .null), (40, .iload_n 1, 1, 0, 0, 0, 0, .null), (41, .invokestatic 59, 3, 240, 1, 0, 486, .ref 1), (44, .iload_n 3, 1, 0, 0, 0, 0, .null), (45, .isub, 1, 0, 0, 0, 0, .null), (46, .invokestatic 75, 3, 0, 0, 2, 938, .null), (49, .ireturn, 1, 0, 0, 0, 0, .null)]
noncomputable def sm_o74 : List (Nat × sm_E) := [(0, .aload_n 0, 1, 0, 0, 0, 0, .null), (1, .invokespecial 3, 3, 0, 0, 1, 25, .null), (4, .aload_n 0, 1, 0, 0, 0, 0, .null), (5, .new 9, 3, 9, 11, 0, 28, .null), (8, .dup, 1, 0, 0, 0, 0, .null), (9, .invokespecial 11, 3, 61, 0, 0, 30, .ref 1), (12, .putfield 12, 3, 10, 0, 6, 373, .null), (15, .aload_n 0, 1, 0, 0, 0, 0, .null), (16, .new 16, 3, 0, 4, 0, 105, .null), (19, .dup, 1, 0, 0, 0, 0, .null), (20, .invokespecial 18, 3, 0, 0, 0, 107, .ref 2), (23, .putfield 19, 3, 10, 1, 6, 374, .null), (26, .aload_n 0, 1, 0, 0, 0, 0, .null), (27, .new 23, 3, 5, 2, 0, 172, .null), (30, .dup, 1, 0, 0, 0, 0, .null), (31, .aload_n 0, 1, 0, 0, 0, 0, .null), (32, .getfield 19, 3, 10, 1, 2, 374, .null), (35, .invokespecial 25, 3, 25, 1, 0, 174, .ref 2), (38, .putfield 28, 3, 10, 2, 6, 375, .null), (41, .aload_n 0, 1, 0, 0, 0, 0, .null), (42, .new 32, 3, 1, 10, 0, 210, .null), (45, .dup, 1, 0, 0, 0, 0, .null), (46, .aload_n 0, 1, 0, 0, 0, 0, .null), (47, .getfield 12, 3, 10, 0, 2, 373, .null), (50, .aload_n 0, 1, 0, 0, 0, 0, .null), (51, .getfield 28, 3, 10, 2, 2, 375, .null), (54, .invokespecial 34, 3, 5, 2, 0, 212, .ref 3), (57, .putfield 37, 3, 10, 3, 6, 376, .null), (60, .aload_n 0, 1, 0, 0, 0, 0, .null), (61, .new 41, 3, 8, 7, 0, 270, .null), (64, .dup, 1, 0, 0, 0, 0, .null), (65, .aload_n 0, 1, 0, 0, 0, 0, .null), (66, .getfield 28, 3, 10, 2, 2, 375, .null), (69, .invokespecial 43, 3, 55, 1, 0, 272, .ref 3), (72, .putfield 46, 3, 10, 4, 6, 377, .null), (75, .aload_n 0, 1, 0, 0, 0, 0, .null), (76, .new 50, 3, 3, 8, 0, 305, .null), (79, .dup, 1, 0, 0, 0, 0, .null), (80, .aload_n 0, 1, 0, 0, 0, 0, .null), (81, .getfield 28, 3, 10, 2, 2, 375, .null), (84, .invokespecial 52, 3, 13, 1, 0, 307, .ref 2), (87, .putfield 53, 3, 10, 5, 6, 378, .null), (90, .aload_n 0, 1, 0, 0, 0, 0, .null), (91, .new 9, 3, 9, 11, 0, 28, .null), (94, .dup, 1, 0, 0, 0, 0, .null), (95, .invokespecial 11, 3, 61, 0, 0, 30, .ref 1), (98, .putfield 57, 3, 10, 6, 6, 379, .null), (101, .aload_n 0, 1, 0, 0, 0, 0, .null), (102, .new 9, 3, 9, 11, 0, 28, .null), (105, .dup, 1, 0, 0, 0, 0, .null), (106, .invokespecial 11, 3, 61, 0, 0, 30, .ref 1), (109, .putfield 60, 3, 10, 7, 6, 380, .null), (112, .aload_n 0, 1, 0, 0, 0, 0, .null), (113, .iconst 2, 1, 0, 0, 0, 0, .int 2), (114, .anewarray 9, 3, 9, 11, 0, 28, .null), (117, .putfield 63, 3, 10, 9, 6, 382, .null), (120, .aload_n 0, 1, 0, 0, 0, 0, .null), (121, .iconst 2, 1, 0, 0, 0, 0, .int 2), (122, .anewarray 16, 3, 0, 4, 0, 105, .null), (125, .putfield 67, 3, 10, 10, 6, 383, .null), (128, .aload_n 0, 1, 0, 0, 0, 0, .null), (129, .sipush 400, 3, 0, 0, 0, 0, .int 400), (132, .newarray .int, 2, 0, 0, 0, 0, .null), (134, .putfield 71, 3, 10, 11, 6, 384, .null), (137, .aload_n 0, 1, 0, 0, 0, 0, .null), (138, .new 75, 3, 7, 8, 0, 342, .null), (141, .dup, 1, 0, 0, 0, 0, .null), (142, .aload_n 0, 1, 0, 0, 0, 0, .null), (143, .getfield 71, 3, 10, 11, 2, 384, .null), (146, .aload_n 0, 1, 0, 0, 0, 0, .null), (147, .getfield 37, 3, 10, 3, 2, 376, .null), (150, .getfield 77, 3, 1, 6, 2, 244, .null), (153, .invokespecial 81, 3, 39, 2, 0, 344, .ref 3), (156, .putfield 84, 3, 10, 13, 6, 386, .null), (159, .aload_n 0, 1, 0, 0, 0, 0, .null), (160, .bipush 20, 2, 0, 0, 0, 0, .int 20), (162, .newarray .long, 2, 1, 0, 0, 0, .null), (164, .putfield 88, 3, 10, 14, 6, 387, .null), (167, .aload_n 0, 1, 0, 0, 0, 0, .null), (168, .iconst (-1), 1, 0, 0, 0, 0, .int (-1)), (169, .putfield 92, 3, 10, 16, 0, 389, .null), (172, .aload_n 0, 1, 0, 0, 0, 0, .null), (173, .bipush 7, 2, 0, 0, 0, 0, .int 7), (175, .newarray .int, 2, 0, 0, 0, 0, .null), (177, .putfield 96, 3, 10, 17, 6, 390, .null), (180, .return_, 1, 0, 0, 0, 0, .null)]
noncomputable def sm_o75 : List (Nat × sm_E) := [(0, .iload_n 1, 1, 0, 0, 0, 0, .null), (1, .iload_n 2, 1, 0, 0, 0, 0, .null), (2, .invokestatic 99, 3, 113, 2, 0, 436, .ref 2), (5, .ifCond .ne 9, 3, 14, 0, 0, 0, .null), (8, .aload_n 0, 1, 0, 0, 0, 0, .null), (9, .iconst (-1), 1, 0, 0, 0, 0, .int (-1)), (10, .invokevirtual 103, 3, 122, 1, 0, 439, .ref 2), (13, .ireturn, 1, 0, 0, 0, 0, .null), (14, .aload_n 0, 1, 0, 0, 0, 0, .null), (15, .getfield 12, 3, 10, 0, 2, 373, .null), (18, .getfield 107, 3, 9, 4, 0, 53, .null), (21, .bipush 7, 2, 0, 0, 0, 0, .int 7), (23, .if_icmp .lt 10, 3, 33, 0, 0, 0, .null), (26, .aload_n 0, 1, 0, 0, 0, 0, .null), (27, .bipush (-5), 2, 0, 0, 0, 0, .int (-5)), (29, .invokevirtual 103, 3, 122, 1, 0, 439, .ref 2), (32, .ireturn, 1, 0, 0, 0, 0, .null), (33, .aload_n 0, 1, 0, 0, 0, 0, .null), (34, .getfield 37, 3, 10, 3, 2, 376, .null), (37, .getfield 110, 3, 1, 5, 2, 242, .null), (40, .invokevirtual 114, 3, 21, 0, 0, 443, .ref 1), (43, .aload_n 0, 1, 0, 0, 0, 0, .null), (44, .aload_n 0, 1, 0, 0, 0, 0, .null), (45, .getfield 12, 3, 10, 0, 2, 373, .null), (48, .iload_n 1, 1, 0, 0, 0, 0, .null), (49, .iload_n 2, 1, 0, 0, 0, 0, .null), (50, .invokevirtual 119, 3, 67, 2, 0, 447, .ref 3), (53, .invokevirtual 123, 3, 121, 1, 0, 451, .ref 2), (56, .ireturn, 1, 0, 0, 0, 0, .null)]
noncomputable def sm_o76 : List (Nat × sm_E) := [(0, .aload_n 0, 1, 0, 0, 0, 0, .null), (1, .getfield 12, 3, 10, 0, 2, 373, .null), (4, .iload_n 1, 1, 0, 0, 0, 0, .null), (5, .invokevirtual 126, 3, 64, 1, 0, 459, .ref 2), (8, .ifCond .ne 5, 3, 13, 0, 0, 0, .null), (11, .iconst (-1), 1, 0, 0, 0, 0, .int (-1)), (12, .ireturn, 1, 0, 0, 0, 0, .null), (13, .iload_n 2, 1, 0, 0, 0, 0, .null), (14, .tableswitch 195 0 8 #[50, 60, 70, 80, 92, 112, 134, 156, 178], 50, 209, 0, 0, 0, .null), (64, .aload_n 0, 1, 0, 0, 0, 0, .null), (65, .getfield 12, 3, 10, 0, 2, 373, .null), (68, .getfield 130, 3, 9, 0, 2, 38, .null), (71, .iload_n 1, 1, 0, 0, 0, 0, .null), (72, .iaload, 1, 0, 0, 0, 0, .null), (73, .ireturn, 1, 0, 0, 0, 0, .null), (74, .aload_n 0, 1, 0, 0, 0, 0, .null), (75, .getfield 12, 3, 10, 0, 2, 373, .null), (78, .getfield 133, 3, 9, 1, 2, 40, .null), (81, .iload_n 1, 1, 0, 0, 0, 0, .null), (82, .iaload, 1, 0, 0, 0, 0, .null), (83, .ireturn, 1, 0, 0, 0, 0, .null), (84, .aload_n 0, 1, 0, 0, 0, 0, .null), (85, .getfield 12, 3, 10, 0, 2, 373, .null), (88, .getfield 136, 3, 9, 2, 2, 43, .null), (91, .iload_n 1, 1, 0, 0, 0, 0, .null), (92, .iaload, 1, 0, 0, 0, 0, .null), (93, .ireturn, 1, 0, 0, 0, 0, .null), (94, .aload_n 0, 1, 0, 0, 0, 0, .null), (95, .getfield 12, 3, 10, 0, 2, 373, .null), (98, .iload_n 1, 1, 0, 0, 0, 0, .null), (99, .invokevirtual 139, 3, 65, 1, 0, 463, .ref 2), (102, .invokestatic 142, 3, 114, 1, 0, 467, .ref 1), (105, .ireturn, 1, 0, 0, 0, 0, .null), (106, .aload_n 0, 1, 0, 0, 0, 0, .null), (107, .getfield 12, 3, 10, 0, 2, 373, .null), (110, .getfield 146, 3, 9, 6, 0, 63, .null), (113, .iload_n 1, 1, 0, 0, 0, 0, .null), (114, .if_icmp .ne 7, 3, 121, 0, 0, 0, .null), (117, .iconst 1, 1, 0, 0, 0, 0, .int 1), (118, .goto 4, 3, 122, 0, 0, 0, .null), (121, .iconst 0, 1, 0, 0, 0, 0, .int 0), (122, .invokestatic 142, 3, 114, 1, 0, 467, .ref 1), (125, .ireturn, 1, 0, 0, 0, 0, .null), (126, .aload_n 0, 1, 0, 0, 0, 0, .null), (127, .getfield 28, 3, 10, 2, 2, 375, .null), (130, .aload_n 0, 1, 0, 0, 0, 0, .null), (131, .getfield 19, 3, 10, 1, 2, 374, .null), (134, .invokevirtual 149, 3, 4, 0, 0, 470, .ref 1), (137, .iconst 0, 1, 0, 0, 0, 0, .int 0), (138, .aload_n 0, 1, 0, 0, 0, 0, .null), (139, .getfield 12, 3, 10, 0, 2, 373, .null), (142, .iload_n 1, 1, 0, 0, 0, 0, .null), (143, .iconst (-1), 1, 0, 0, 0, 0, .int (-1)), (144, .invokevirtual 153, 3, 26, 5, 0, 478, .ref 8), (147, .ireturn, 1, 0, 0, 0, 0, .null), (148, .aload_n 0, 1, 0, 0, 0, 0, .null), (149, .getfield 28, 3, 10, 2, 2, 375, .null), (152, .aload_n 0, 1, 0, 0, 0, 0, .null), (153, .getfield 19, 3, 10, 1, 2, 374, .null), (156, .invokevirtual 149, 3, 4, 0, 0, 470, .ref 1), (159, .iconst 1, 1, 0, 0, 0, 0, .int 1), (160, .aload_n 0, 1, 0, 0, 0, 0, .null), (161, .getfield 12, 3, 10, 0, 2, 373, .null), (164, .iload_n 1, 1, 0, 0, 0, 0, .null), (165, .iconst (-1), 1, 0, 0, 0, 0, .int (-1)), (166, .invokevirtual 153, 3, 26, 5, 0, 478, .ref 8), (169, .ireturn, 1, 0, 0, 0, 0, .null), (170, .aload_n 0, 1, 0, 0, 0, 0, .null), (171, .getfield 28, 3, 10, 2, 2, 375, .null), (174, .aload_n 0, 1, 0, 0, 0, 0, .null), (175, .getfield 19, 3, 10, 1, 2, 374, .null), (178, .invokevirtual 149, 3, 4, 0, 0, 470, .ref 1), (181, .iconst 3, 1, 0, 0, 0, 0, .int 3), (182, .aload_n 0, 1, 0, 0, 0, 0, .null), (183, .getfield 12, 3, 10, 0, 2, 373, .null), (186, .iload_n 1, 1, 0, 0, 0, 0, .null), (187, .iconst (-1), 1, 0, 0, 0, 0, .int (-1)), (188, .invokevirtual 153, 3, 26, 5, 0, 478, .ref 8), (191, .ireturn, 1, 0, 0, 0, 0, .null), (192, .aload_n 0, 1, 0, 0, 0, 0, .null), (193, .getfield 28, 3, 10, 2, 2, 375, .null), (196, .iconst 0, 1, 0, 0, 0, 0, .int 0), (197, .aload_n 0, 1, 0, 0, 0, 0, .null), (198, .getfield 12, 3, 10, 0, 2, 373, .null), (201, .iload_n 1, 1, 0, 0, 0, 0, .null), (202, .invokevirtual 157, 3, 28, 3, 0, 513, .ref 4), (205, .invokestatic 142, 3, 114, 1, 0, 467, .ref 1), (208, .ireturn, 1, 0, 0, 0, 0, .null), (209, .iconst (-1), 1, 0, 0, 0, 0, .int (-1)), (210, .ireturn, 1, 0, 0, 0, 0, .null)]
noncomputable def sm_o77 : List (Nat × sm_E) := [(0, .aload_n 0, 1, 0, 0, 0, 0, .null), (1, .iload_n 1, 1, 0, 0, 0, 0, .null), (2, .iload_n 2, 1, 0, 0, 0, 0, .null), (3, .invokevirtual 161, 3, 115, 2, 0, 525, .ref 3), (6, .ifCond .ne 5, 3, 11, 0, 0, 0, .null), (9, .iconst (-1), 1, 0, 0, 0, 0, .int (-1)), (10, .ireturn, 1, 0, 0, 0, 0, .null), (11, .iload_n 3, 1, 0, 0, 0, 0, .null), (12, .ifCond .ne 13, 3, 25, 0, 0, 0, .null), (15, .aload_n 0, 1, 0, 0, 0, 0, .null), (16, .getfield 12, 3, 10, 0, 2, 373, .null), (19, .iload_n 1, 1, 0, 0, 0, 0, .null), (20, .iload_n 2, 1, 0, 0, 0, 0, .null), (21, .invokevirtual 164, 3, 68, 2, 0, 529, .ref 3), (24, .ireturn, 1, 0, 0, 0, 0, .null), (25, .iload_n 3, 1, 0, 0, 0, 0, .null), (26, .iconst 1, 1, 0, 0, 0, 0, .int 1), (27, .if_icmp .ne 27, 3, 54, 0, 0, 0, .null), (30, .aload_n 0, 1, 0, 0, 0, 0, .null), (31, .getfield 28, 3, 10, 2, 2, 375, .null), (34, .aload_n 0, 1, 0, 0, 0, 0, .null), (35, .getfield 19, 3, 10, 1, 2, 374, .null), (38, .invokevirtual 149, 3, 4, 0, 0, 470, .ref 1), (41, .iconst 2, 1, 0, 0, 0, 0, .int 2), (42, .aload_n 0, 1, 0, 0, 0, 0, .null), (43, .getfield 12, 3, 10, 0, 2, 373, .null), (46, .iload_n 1, 1, 0, 0, 0, 0, .null), (47, .iload_n 2, 1, 0, 0, 0, 0, .null), (48, .invokevirtual 153, 3, 26, 5, 0, 478, .ref 8), (51, .goto 4, 3, 55, 0, 0, 0, .null), (54, .iconst (-1), 1, 0, 0, 0, 0, .int (-1)), (55, .ireturn, 1, 0, 0, 0, 0, .null)]
noncomputable def sm_o78 : List (Nat × sm_E) := [(0, .iload_n 1, 1, 0, 0, 0, 0, .null), (1, .ifCond .lt 24, 3, 25, 0, 0, 0, .null), (4, .iload_n 1, 1, 0, 0, 0, 0, .null), (5, .getstatic 167, 3, 0, 0, 0, 534, .retAddr 0), (8, .arraylength, 1, 0, 0, 0, 0, .null), (9, .if_icmp .ge 16, 3, 25, 0, 0, 0, .null), (12, .iload_n 2, 1, 0, 0, 0, 0, .null), (13, .ifCond .lt 12, 3, 25, 0, 0, 0, .null), (16, .iload_n 2, 1, 0, 0, 0, 0, .null), (17, .getstatic 167, 3, 0, 0, 0, 534, .retAddr 0), (20, .iload_n 1, 1, 0, 0, 0, 0, .null), (21, .iaload, 1, 0, 0, 0, 0, .null), (22, .if_icmp .le 9, 3, 31, 0, 0, 0, .null), (25, .aload_n 0, 1, 0, 0, 0, 0, .null), (26, .iconst (-1), 1, 0, 0, 0, 0, .int (-1)), (27, .invokevirtual 103, 3, 122, 1, 0, 439, .ref 2), (30, .ireturn, 1, 0, 0, 0, 0, .null), (31, .aload_n 0, 1, 0, 0, 0, 0, .null), (32, .getfield 12, 3, 10, 0, 2, 373, .null), (35, .getfield 170, 3, 9, 3, 2, 50, .null), (38, .iload_n 1, 1, 0, 0, 0, 0, .null), (39, .iaload, 1, 0, 0, 0, 0, .null), (40, .istore_n 3, 1, 0, 0, 0, 0, .null), (41, .aload_n 0, 1, 0, 0, 0, 0, .null), (42, .getfield 12, 3, 10, 0, 2, 373, .null), (45, .getfield 170, 3, 9, 3, 2, 50, .null), (48, .iload_n 1, 1, 0, 0, 0, 0, .null), (49, .iload_n 2, 1, 0, 0, 0, 0, .null), (50, .iastore, 1, 0, 0, 0, 0, .null), (51, .aload_n 0, 1, 0, 0, 0, 0, .null), (52, .getfield 37, 3, 10, 3, 2, 376, .null), (55, .getfield 110, 3, 1, 5, 2, 242, .null), (58, .invokevirtual 114, 3, 21, 0, 0, 443, .ref 1), (61, .aload_n 0, 1, 0, 0, 0, 0, .null), (62, .iload_n 3, 1, 0, 0, 0, 0, .null), (63, .invokevirtual 123, 3, 121, 1, 0, 451, .ref 2), (66, .ireturn, 1, 0, 0, 0, 0, .null)]
noncomputable def sm_o79 : List (Nat × sm_E) := [(0, .aload_n 0, 1, 0, 0, 0, 0, .null), (1, .getfield 173, 3, 10, 12, 0, 385, .null), (4, .bipush 20, 2, 0, 0, 0, 0, .int 20), (6, .iadd, 1, 0, 0, 0, 0, .null), (7, .sipush 400, 3, 0, 0, 0, 0, .int 400), (10, .if_icmp .le 5, 3, 15, 0, 0, 0, .null), (13, .iconst (-1), 1, 0, 0, 0, 0, .int (-1)), (14, .ireturn, 1, 0, 0, 0, 0, .null), (15, .aload_n 0, 1, 0, 0, 0, 0, .null), (16, .iload_n 1, 1, 0, 0, 0, 0, .null), (17, .invokevirtual 176, 3, 116, 1, 0, 539, .ref 3), (20, .aload_n 0, 1, 0, 0, 0, 0, .null), (21, .iload_n 2, 1, 0, 0, 0, 0, .null), (22, .invokevirtual 176, 3, 116, 1, 0, 539, .ref 3), (25, .aload_n 0, 1, 0, 0, 0, 0, .null), (26, .iload_n 3, 1, 0, 0, 0, 0, .null), (27, .invokevirtual 176, 3, 116, 1, 0, 539, .ref 3), (30, .aload_n 0, 1, 0, 0, 0, 0, .null), (31, .iload 4, 2, 0, 0, 0, 0, .null), (33, .invokevirtual 176, 3, 116, 1, 0, 539, .ref 3), (36, .aload_n 0, 1, 0, 0, 0, 0, .null), (37, .iload 5, 2, 0, 0, 0, 0, .null), (39, .invokevirtual 176, 3, 116, 1, 0, 539, .ref 3), (42, .aload_n 0, 1, 0, 0, 0, 0, .null), (43, .getfield 173, 3, 10, 12, 0, 385, .null), (46, .ireturn, 1, 0, 0, 0, 0, .null)]
noncomputable def sm_o80 : List (Nat × sm_E) := [(0, .iload_n 1, 1, 0, 0, 0, 0, .null), (1, .ifCond .lt 11, 3, 12, 0, 0, 0, .null), (4, .iload_n 1, 1, 0, 0, 0, 0, .null), (5, .aload_n 0, 1, 0, 0, 0, 0, .null), (6, .getfield 173, 3, 10, 12, 0, 385, .null), (9, .if_icmp .le 5, 3, 14, 0, 0, 0, .null), (12, .iconst (-1), 1, 0, 0, 0, 0, .int (-1)), (13, .ireturn, 1, 0, 0, 0, 0, .null), (14, .aload_n 0, 1, 0, 0, 0, 0, .null), (15, .iload_n 1, 1, 0, 0, 0, 0, .null), (16, .putfield 173, 3, 10, 12, 0, 385, .null), (19, .iload_n 1, 1, 0, 0, 0, 0, .null), (20, .ireturn, 1, 0, 0, 0, 0, .null)]
noncomputable def sm_o81 : List (Nat × sm_E) := [(0, .aload_n 0, 1, 0, 0, 0, 0, .null), (1, .getfield 173, 3, 10, 12, 0, 385, .null), (4, .ifCond .ne 10, 3, 14, 0, 0, 0, .null), (7, .aload_n 0, 1, 0, 0, 0, 0, .null), (8, .bipush (-6), 2, 0, 0, 0, 0, .int (-6)), (10, .invokevirtual 103, 3, 122, 1, 0, 439, .ref 2), (13, .ireturn, 1, 0, 0, 0, 0, .null), (14, .iconst 0, 1, 0, 0, 0, 0, .int 0), (15, .istore_n 1, 1, 0, 0, 0, 0, .null), (16, .iconst 0, 1, 0, 0, 0, 0, .int 0), (17, .istore_n 2, 1, 0, 0, 0, 0, .null), (18, .iconst 0, 1, 0, 0, 0, 0, .int 0), (19, .istore_n 3, 1, 0, 0, 0, 0, .null), (20, .iload_n 3, 1, 0, 0, 0, 0, .null), (21, .aload_n 0, 1, 0, 0, 0, 0, .null), (22, .getfield 173, 3, 10, 12, 0, 385, .null), (25, .if_icmp .ge 94, 3, 119, 0, 0, 0, .null), (28, .iload_n 3, 1, 0, 0, 0, 0, .null), (29, .iconst 1, 1, 0, 0, 0, 0, .int 1), (30, .iadd, 1, 0, 0, 0, 0, .null), (31, .aload_n 0, 1, 0, 0, 0, 0, .null), (32, .getfield 173, 3, 10, 12, 0, 385, .null), (35, .if_icmp .ge 7, 3, 42, 0, 0, 0, .null), (38, .iconst 1, 1, 0, 0, 0, 0, .int 1), (39, .goto 4, 3, 43, 0, 0, 0, .null), (42, .iconst 0, 1, 0, 0, 0, 0, .int 0), (43, .istore 4, 2, 0, 0, 0, 0, .null), (45, .iload 4, 2, 0, 0, 0, 0, .null), (47, .ifCond .eq 63, 3, 110, 0, 0, 0, .null), (50, .aload_n 0, 1, 0, 0, 0, 0, .null), (51, .getfield 12, 3, 10, 0, 2, 373, .null), (54, .getfield 107, 3, 9, 4, 0, 53, .null), (57, .bipush 7, 2, 0, 0, 0, 0, .int 7), (59, .if_icmp .ge 51, 3, 110, 0, 0, 0, .null), (62, .aload_n 0, 1, 0, 0, 0, 0, .null), (63, .getfield 71, 3, 10, 11, 2, 384, .null), (66, .iload_n 3, 1, 0, 0, 0, 0, .null), (67, .iaload, 1, 0, 0, 0, 0, .null), (68, .aload_n 0, 1, 0, 0, 0, 0, .null), (69, .getfield 71, 3, 10, 11, 2, 384, .null), (72, .iload_n 3, 1, 0, 0, 0, 0, .null), (73, .iconst 1, 1, 0, 0, 0, 0, .int 1), (74, .iadd, 1, 0, 0, 0, 0, .null), (75, .iaload, 1, 0, 0, 0, 0, .null), (76, .invokestatic 99, 3, 113, 2, 0, 436, .ref 2), (79, .ifCond .eq 31, 3, 110, 0, 0, 0, .null), (82, .aload_n 0, 1, 0, 0, 0, 0, .null), (83, .getfield 12, 3, 10, 0, 2, 373, .null), (86, .aload_n 0, 1, 0, 0, 0, 0, .null), (87, .getfield 71, 3, 10, 11, 2, 384, .null), (90, .iload_n 3, 1, 0, 0, 0, 0, .null), (91, .iaload, 1, 0, 0, 0, 0, .null), (92, .aload_n 0, 1, 0, 0, 0, 0, .null), (93, .getfield 71, 3, 10, 11, 2, 384, .null), (96, .iload_n 3, 1, 0, 0, 0, 0, .null), (97, .iconst 1, 1, 0, 0, 0, 0, .int 1), (98, .iadd, 1, 0, 0, 0, 0, .null), (99, .iaload, 1, 0, 0, 0, 0, .null), (100, .invokevirtual 119, 3, 67, 2, 0, 447, .ref 3), (103, .pop, 1, 0, 0, 0, 0, .null), (104, .iinc 1 1, 3, 0, 0, 0, 0, .int 1), (107, .goto 6, 3, 113, 0, 0, 0, .null), (110, .iinc 2 1, 3, 0, 0, 0, 0, .int 1), (113, .iinc 3 2, 3, 0, 0, 0, 0, .int 2), (116, .goto (-96), 3, 20, 0, 0, 0, .null), (119, .aload_n 0, 1, 0, 0, 0, 0, .null), (120, .iconst 0, 1, 0, 0, 0, 0, .int 0), (121, .putfield 173, 3, 10, 12, 0, 385, .null), (124, .aload_n 0, 1, 0, 0, 0, 0, .null), (125, .iload_n 2, 1, 0, 0, 0, 0, .null), (126, .putfield 180, 3, 10, 15, 0, 388, .null), (129, .aload_n 0, 1, 0, 0, 0, 0, .null), (130, .getfield 37, 3, 10, 3, 2, 376, .null), (133, .getfield 110, 3, 1, 5, 2, 242, .null), (136, .invokevirtual 114, 3, 21, 0, 0, 443, .ref 1), (139, .aload_n 0, 1, 0, 0, 0, 0, .null), (140, .iload_n 1, 1, 0, 0, 0, 0, .null), (141, .invokevirtual 123, 3, 121, 1, 0, 451, .ref 2), (144, .ireturn, 1, 0, 0, 0, 0, .null)]
noncomputable def sm_o82 : List (Nat × sm_E) := [(0, .aload_n 0, 1, 0, 0, 0, 0, .null), (1, .getfield 180, 3, 10, 15, 0, 388, .null), (4, .ireturn, 1, 0, 0, 0, 0, .null)]
noncomputable def sm_o83 : List (Nat × sm_E) := [(0, .aload_n 0, 1, 0, 0, 0, 0, .null), (1, .getfield 173, 3, 10, 12, 0, 385, .null), (4, .istore_n 1, 1, 0, 0, 0, 0, .null), (5, .aload_n 0, 1, 0, 0, 0, 0, .null), (6, .iconst 0, 1, 0, 0, 0, 0, .int 0), (7, .putfield 173, 3, 10, 12, 0, 385, .null), (10, .aload_n 0, 1, 0, 0, 0, 0, .null), (11, .getfield 19, 3, 10, 1, 2, 374, .null), (14, .getfield 183, 3, 0, 2, 0, 160, .null), (17, .bipush 6, 2, 0, 0, 0, 0, .int 6), (19, .if_icmp .lt 10, 3, 29, 0, 0, 0, .null), (22, .aload_n 0, 1, 0, 0, 0, 0, .null), (23, .bipush (-5), 2, 0, 0, 0, 0, .int (-5)), (25, .invokevirtual 103, 3, 122, 1, 0, 439, .ref 2), (28, .ireturn, 1, 0, 0, 0, 0, .null), (29, .aload_n 0, 1, 0, 0, 0, 0, .null), (30, .aload_n 0, 1, 0, 0, 0, 0, .null), (31, .getfield 84, 3, 10, 13, 2, 386, .null), (34, .iload_n 1, 1, 0, 0, 0, 0, .null), (35, .aload_n 0, 1, 0, 0, 0, 0, .null), (36, .getfield 19, 3, 10, 1, 2, 374, .null), (39, .getfield 186, 3, 0, 0, 2, 157, .null), (42, .aload_n 0, 1, 0, 0, 0, 0, .null), (43, .getfield 19, 3, 10, 1, 2, 374, .null), (46, .getfield 183, 3, 0, 2, 0, 160, .null), (49, .aaload, 1, 0, 0, 0, 0, .null), (50, .iconst 0, 1, 0, 0, 0, 0, .int 0), (51, .invokevirtual 190, 3, 40, 3, 0, 559, .ref 5), (54, .putfield 92, 3, 10, 16, 0, 389, .null), (57, .aload_n 0, 1, 0, 0, 0, 0, .null), (58, .getfield 92, 3, 10, 16, 0, 389, .null), (61, .iconst (-1), 1, 0, 0, 0, 0, .int (-1)), (62, .if_icmp .eq 10, 3, 72, 0, 0, 0, .null), (65, .aload_n 0, 1, 0, 0, 0, 0, .null), (66, .bipush (-6), 2, 0, 0, 0, 0, .int (-6)), (68, .invokevirtual 103, 3, 122, 1, 0, 439, .ref 2), (71, .ireturn, 1, 0, 0, 0, 0, .null), (72, .aload_n 0, 1, 0, 0, 0, 0, .null), (73, .getfield 19, 3, 10, 1, 2, 374, .null), (76, .dup, 1, 0, 0, 0, 0, .null), (77, .getfield 183, 3, 0, 2, 0, 160, .null), (80, .iconst 1, 1, 0, 0, 0, 0, .int 1), (81, .iadd, 1, 0, 0, 0, 0, .null), (82, .putfield 183, 3, 0, 2, 0, 160, .null), (85, .aload_n 0, 1, 0, 0, 0, 0, .null), (86, .aload_n 0, 1, 0, 0, 0, 0, .null), (87, .getfield 19, 3, 10, 1, 2, 374, .null), (90, .getfield 183, 3, 0, 2, 0, 160, .null), (93, .iconst 1, 1, 0, 0, 0, 0, .int 1), (94, .isub, 1, 0, 0, 0, 0, .null), (95, .invokevirtual 123, 3, 121, 1, 0, 451, .ref 2), (98, .ireturn, 1, 0, 0, 0, 0, .null)]
noncomputable def sm_o84 : List (Nat × sm_E) := [(0, .aload_n 0, 1, 0, 0, 0, 0, .null), (1, .getfield 173, 3, 10, 12, 0, 385, .null), (4, .istore_n 1, 1, 0, 0, 0, 0, .null), (5, .aload_n 0, 1, 0, 0, 0, 0, .null), (6, .iconst 0, 1, 0, 0, 0, 0, .int 0), (7, .putfield 173, 3, 10, 12, 0, 385, .null), (10, .aload_n 0, 1, 0, 0, 0, 0, .null), (11, .getfield 37, 3, 10, 3, 2, 376, .null), (14, .iconst (-1), 1, 0, 0, 0, 0, .int (-1)), (15, .putfield 194, 3, 1, 9, 0, 248, .null), (18, .aload_n 0, 1, 0, 0, 0, 0, .null), (19, .aload_n 0, 1, 0, 0, 0, 0, .null), (20, .getfield 84, 3, 10, 13, 2, 386, .null), (23, .iload_n 1, 1, 0, 0, 0, 0, .null), (24, .aload_n 0, 1, 0, 0, 0, 0, .null), (25, .getfield 37, 3, 10, 3, 2, 376, .null), (28, .getfield 77, 3, 1, 6, 2, 244, .null), (31, .iconst 1, 1, 0, 0, 0, 0, .int 1), (32, .invokevirtual 190, 3, 40, 3, 0, 559, .ref 5), (35, .putfield 92, 3, 10, 16, 0, 389, .null), (38, .aload_n 0, 1, 0, 0, 0, 0, .null), (39, .getfield 92, 3, 10, 16, 0, 389, .null), (42, .iconst (-1), 1, 0, 0, 0, 0, .int (-1)), (43, .if_icmp .eq 10, 3, 53, 0, 0, 0, .null), (46, .aload_n 0, 1, 0, 0, 0, 0, .null), (47, .bipush (-6), 2, 0, 0, 0, 0, .int (-6)), (49, .invokevirtual 103, 3, 122, 1, 0, 439, .ref 2), (52, .ireturn, 1, 0, 0, 0, 0, .null), (53, .aload_n 0, 1, 0, 0, 0, 0, .null), (54, .aload_n 0, 1, 0, 0, 0, 0, .null), (55, .getfield 37, 3, 10, 3, 2, 376, .null), (58, .invokevirtual 197, 3, 7, 0, 0, 695, .ref 3), (61, .invokevirtual 201, 3, 120, 1, 0, 756, .ref 2), (64, .ireturn, 1, 0, 0, 0, 0, .null)]
noncomputable def sm_o85 : List (Nat × sm_E) := [(0, .aload_n 0, 1, 0, 0, 0, 0, .null), (1, .getfield 92, 3, 10, 16, 0, 389, .null), (4, .ireturn, 1, 0, 0, 0, 0, .null)]
noncomputable def sm_o86 : List (Nat × sm_E) := [(0, .aload_n 0, 1, 0, 0, 0, 0, .null), (1, .getfield 37, 3, 10, 3, 2, 376, .null), (4, .getfield 194, 3, 1, 9, 0, 248, .null), (7, .ireturn, 1, 0, 0, 0, 0, .null)]
noncomputable def sm_o87 : List (Nat × sm_E) := [(0, .aload_n 0, 1, 0, 0, 0, 0, .null), (1, .getfield 19, 3, 10, 1, 2, 374, .null), (4, .iload_n 1, 1, 0, 0, 0, 0, .null), (5, .invokevirtual 204, 3, 2, 1, 0, 772, .ref 2), (8, .ifCond .ne 10, 3, 18, 0, 0, 0, .null), (11, .aload_n 0, 1, 0, 0, 0, 0, .null), (12, .bipush (-2), 2, 0, 0, 0, 0, .int (-2)), (14, .invokevirtual 103, 3, 122, 1, 0, 439, .ref 2), (17, .ireturn, 1, 0, 0, 0, 0, .null), (18, .aload_n 0, 1, 0, 0, 0, 0, .null), (19, .getfield 19, 3, 10, 1, 2, 374, .null), (22, .getfield 207, 3, 0, 3, 0, 162, .null), (25, .istore_n 2, 1, 0, 0, 0, 0, .null), (26, .aload_n 0, 1, 0, 0, 0, 0, .null), (27, .getfield 19, 3, 10, 1, 2, 374, .null), (30, .iload_n 1, 1, 0, 0, 0, 0, .null), (31, .putfield 207, 3, 0, 3, 0, 162, .null), (34, .aload_n 0, 1, 0, 0, 0, 0, .null), (35, .iload_n 2, 1, 0, 0, 0, 0, .null), (36, .invokevirtual 123, 3, 121, 1, 0, 451, .ref 2), (39, .ireturn, 1, 0, 0, 0, 0, .null)]
noncomputable def sm_o88 : List (Nat × sm_E) := [(0, .aload_n 0, 1, 0, 0, 0, 0, .null), (1, .aload_n 0, 1, 0, 0, 0, 0, .null), (2, .getfield 37, 3, 10, 3, 2, 376, .null), (5, .iconst 0, 1, 0, 0, 0, 0, .int 0), (6, .iload_n 1, 1, 0, 0, 0, 0, .null), (7, .invokevirtual 210, 3, 6, 2, 0, 780, .ref 3), (10, .invokevirtual 201, 3, 120, 1, 0, 756, .ref 2), (13, .ireturn, 1, 0, 0, 0, 0, .null)]
noncomputable def sm_o89 : List (Nat × sm_E) := [(0, .aload_n 0, 1, 0, 0, 0, 0, .null), (1, .aload_n 0, 1, 0, 0, 0, 0, .null), (2, .getfield 37, 3, 10, 3, 2, 376, .null), (5, .iconst 1, 1, 0, 0, 0, 0, .int 1), (6, .iload_n 1, 1, 0, 0, 0, 0, .null), (7, .invokevirtual 210, 3, 6, 2, 0, 780, .ref 3), (10, .invokevirtual 201, 3, 120, 1, 0, 756, .ref 2), (13, .ireturn, 1, 0, 0, 0, 0, .null)]
noncomputable def sm_o90 : List (Nat × sm_E) := [(0, .aload_n 0, 1, 0, 0, 0, 0, .null), (1, .aload_n 0, 1, 0, 0, 0, 0, .null), (2, .getfield 37, 3, 10, 3, 2, 376, .null), (5, .iconst 2, 1, 0, 0, 0, 0, .int 2), (6, .iload_n 1, 1, 0, 0, 0, 0, .null), (7, .invokevirtual 210, 3, 6, 2, 0, 780, .ref 3), (10, .invokevirtual 201, 3, 120, 1, 0, 756, .ref 2), (13, .ireturn, 1, 0, 0, 0, 0, .null)]
noncomputable def sm_o91 : List (Nat × sm_E) := [(0, .aload_n 0, 1, 0, 0, 0, 0, .null), (1, .aload_n 0, 1, 0, 0, 0, 0, .null), (2, .getfield 37, 3, 10, 3, 2, 376, .null), (5, .iconst 3, 1, 0, 0, 0, 0, .int 3), (6, .iconst (-1), 1, 0, 0, 0, 0, .int (-1)), (7, .invokevirtual 210, 3, 6, 2, 0, 780, .ref 3), (10, .invokevirtual 201, 3, 120, 1, 0, 756, .ref 2), (13, .ireturn, 1, 0, 0, 0, 0, .null)]
noncomputable def sm_o92 : List (Nat × sm_E) := [(0, .aload_n 0, 1, 0, 0, 0, 0, .null), (1, .getfield 37, 3, 10, 3, 2, 376, .null), (4, .getfield 110, 3, 1, 5, 2, 242, .null), (7, .getfield 213, 3, 4, 1, 0, 228, .null), (10, .ifCond .ne 10, 3, 20, 0, 0, 0, .null), (13, .aload_n 0, 1, 0, 0, 0, 0, .null), (14, .bipush (-3), 2, 0, 0, 0, 0, .int (-3)), (16, .invokevirtual 103, 3, 122, 1, 0, 439, .ref 2), (19, .ireturn, 1, 0, 0, 0, 0, .null), (20, .aload_n 0, 1, 0, 0, 0, 0, .null), (21, .aload_n 0, 1, 0, 0, 0, 0, .null), (22, .getfield 37, 3, 10, 3, 2, 376, .null), (25, .getfield 110, 3, 1, 5, 2, 242, .null), (28, .aload_n 0, 1, 0, 0, 0, 0, .null), (29, .getfield 12, 3, 10, 0, 2, 373, .null), (32, .invokevirtual 214, 3, 24, 1, 0, 797, .ref 3), (35, .invokevirtual 123, 3, 121, 1, 0, 451, .ref 2), (38, .ireturn, 1, 0, 0, 0, 0, .null)]
noncomputable def sm_o93 : List (Nat × sm_E) := [(0, .aload_n 0, 1, 0, 0, 0, 0, .null), (1, .getfield 12, 3, 10, 0, 2, 373, .null), (4, .iload_n 1, 1, 0, 0, 0, 0, .null), (5, .invokevirtual 126, 3, 64, 1, 0, 459, .ref 2), (8, .ifCond .ne 5, 3, 13, 0, 0, 0, .null), (11, .iconst (-1), 1, 0, 0, 0, 0, .int (-1)), (12, .ireturn, 1, 0, 0, 0, 0, .null), (13, .aload_n 0, 1, 0, 0, 0, 0, .null), (14, .getfield 57, 3, 10, 6, 2, 379, .null), (17, .aload_n 0, 1, 0, 0, 0, 0, .null), (18, .getfield 12, 3, 10, 0, 2, 373, .null), (21, .invokevirtual 218, 3, 62, 1, 0, 805, .ref 2), (24, .aload_n 0, 1, 0, 0, 0, 0, .null), (25, .getfield 57, 3, 10, 6, 2, 379, .null), (28, .getfield 146, 3, 9, 6, 0, 63, .null), (31, .iload_n 1, 1, 0, 0, 0, 0, .null), (32, .if_icmp .eq 19, 3, 51, 0, 0, 0, .null), (35, .aload_n 0, 1, 0, 0, 0, 0, .null), (36, .getfield 57, 3, 10, 6, 2, 379, .null), (39, .iload_n 1, 1, 0, 0, 0, 0, .null), (40, .putfield 146, 3, 9, 6, 0, 63, .null), (43, .aload_n 0, 1, 0, 0, 0, 0, .null), (44, .getfield 57, 3, 10, 6, 2, 379, .null), (47, .iconst 0, 1, 0, 0, 0, 0, .int 0), (48, .putfield 222, 3, 9, 7, 0, 74, .null), (51, .iconst 0, 1, 0, 0, 0, 0, .int 0), (52, .istore_n 2, 1, 0, 0, 0, 0, .null), (53, .iload_n 2, 1, 0, 0, 0, 0, .null), (54, .bipush 99, 2, 0, 0, 0, 0, .int 99), (56, .if_icmp .ge 37, 3, 93, 0, 0, 0, .null), (59, .aload_n 0, 1, 0, 0, 0, 0, .null), (60, .getfield 28, 3, 10, 2, 2, 375, .null), (63, .aload_n 0, 1, 0, 0, 0, 0, .null), (64, .getfield 57, 3, 10, 6, 2, 379, .null), (67, .invokevirtual 225, 3, 33, 1, 0, 806, .ref 3), (70, .ifCond .eq 5, 3, 75, 0, 0, 0, .null), (73, .iload_n 2, 1, 0, 0, 0, 0, .null), (74, .ireturn, 1, 0, 0, 0, 0, .null), (75, .aload_n 0, 1, 0, 0, 0, 0, .null), (76, .getfield 28, 3, 10, 2, 2, 375, .null), (79, .aload_n 0, 1, 0, 0, 0, 0, .null), (80, .getfield 57, 3, 10, 6, 2, 379, .null), (83, .invokevirtual 229, 3, 32, 1, 0, 810, .ref 6), (86, .pop, 1, 0, 0, 0, 0, .null), (87, .iinc 2 1, 3, 0, 0, 0, 0, .int 1), (90, .goto (-37), 3, 53, 0, 0, 0, .null), (93, .bipush 99, 2, 0, 0, 0, 0, .int 99), (95, .ireturn, 1, 0, 0, 0, 0, .null)]
noncomputable def sm_o94 : List (Nat × sm_E) := [(0, .iload_n 1, 1, 0, 0, 0, 0, .null), (1, .ifCond .lt 24, 3, 25, 0, 0, 0, .null), (4, .iload_n 1, 1, 0, 0, 0, 0, .null), (5, .bipush 60, 2, 0, 0, 0, 0, .int 60), (7, .if_icmp .gt 18, 3, 25, 0, 0, 0, .null), (10, .iload_n 2, 1, 0, 0, 0, 0, .null), (11, .ifCond .lt 14, 3, 25, 0, 0, 0, .null), (14, .iload_n 2, 1, 0, 0, 0, 0, .null), (15, .aload_n 0, 1, 0, 0, 0, 0, .null), (16, .getfield 12, 3, 10, 0, 2, 373, .null), (19, .getfield 107, 3, 9, 4, 0, 53, .null), (22, .if_icmp .le 5, 3, 27, 0, 0, 0, .null), (25, .iconst (-1), 1, 0, 0, 0, 0, .int (-1)), (26, .ireturn, 1, 0, 0, 0, 0, .null), (27, .aload_n 0, 1, 0, 0, 0, 0, .null), (28, .getfield 57, 3, 10, 6, 2, 379, .null), (31, .aload_n 0, 1, 0, 0, 0, 0, .null), (32, .getfield 12, 3, 10, 0, 2, 373, .null), (35, .invokevirtual 218, 3, 62, 1, 0, 805, .ref 2), (38, .iconst 0, 1, 0, 0, 0, 0, .int 0), (39, .istore_n 3, 1, 0, 0, 0, 0, .null), (40, .iload_n 3, 1, 0, 0, 0, 0, .null), (41, .iload_n 1, 1, 0, 0, 0, 0, .null), (42, .if_icmp .ge 21, 3, 63, 0, 0, 0, .null), (45, .aload_n 0, 1, 0, 0, 0, 0, .null), (46, .getfield 28, 3, 10, 2, 2, 375, .null), (49, .aload_n 0, 1, 0, 0, 0, 0, .null), (50, .getfield 57, 3, 10, 6, 2, 379, .null), (53, .invokevirtual 229, 3, 32, 1, 0, 810, .ref 6), (56, .pop, 1, 0, 0, 0, 0, .null), (57, .iinc 3 1, 3, 0, 0, 0, 0, .int 1), (60, .goto (-20), 3, 40, 0, 0, 0, .null), (63, .iload_n 2, 1, 0, 0, 0, 0, .null), (64, .ifCond .ne 13, 3, 77, 0, 0, 0, .null), (67, .aload_n 0, 1, 0, 0, 0, 0, .null), (68, .getfield 57, 3, 10, 6, 2, 379, .null), (71, .getfield 146, 3, 9, 6, 0, 63, .null), (74, .goto 14, 3, 88, 0, 0, 0, .null), (77, .aload_n 0, 1, 0, 0, 0, 0, .null), (78, .getfield 57, 3, 10, 6, 2, 379, .null), (81, .getfield 136, 3, 9, 2, 2, 43, .null), (84, .iload_n 2, 1, 0, 0, 0, 0, .null), (85, .iconst 1, 1, 0, 0, 0, 0, .int 1), (86, .isub, 1, 0, 0, 0, 0, .null), (87, .iaload, 1, 0, 0, 0, 0, .null), (88, .ireturn, 1, 0, 0, 0, 0, .null)]
noncomputable def sm_o95 : List (Nat × sm_E) := [(0, .aload_n 0, 1, 0, 0, 0, 0, .null), (1, .getfield 12, 3, 10, 0, 2, 373, .null), (4, .iload_n 1, 1, 0, 0, 0, 0, .null), (5, .invokevirtual 126, 3, 64, 1, 0, 459, .ref 2), (8, .ifCond .eq 12, 3, 20, 0, 0, 0, .null), (11, .iload_n 2, 1, 0, 0, 0, 0, .null), (12, .ifCond .lt 8, 3, 20, 0, 0, 0, .null), (15, .iload_n 2, 1, 0, 0, 0, 0, .null), (16, .iconst 1, 1, 0, 0, 0, 0, .int 1), (17, .if_icmp .le 5, 3, 22, 0, 0, 0, .null), (20, .iconst (-1), 1, 0, 0, 0, 0, .int (-1)), (21, .ireturn, 1, 0, 0, 0, 0, .null), (22, .iconst (-1), 1, 0, 0, 0, 0, .int (-1)), (23, .istore_n 3, 1, 0, 0, 0, 0, .null), (24, .iconst (-1), 1, 0, 0, 0, 0, .int (-1)), (25, .istore 4, 2, 0, 0, 0, 0, .null), (27, .aload_n 0, 1, 0, 0, 0, 0, .null), (28, .getfield 57, 3, 10, 6, 2, 379, .null), (31, .aload_n 0, 1, 0, 0, 0, 0, .null), (32, .getfield 12, 3, 10, 0, 2, 373, .null), (35, .invokevirtual 218, 3, 62, 1, 0, 805, .ref 2), (38, .iconst 0, 1, 0, 0, 0, 0, .int 0), (39, .istore 5, 2, 0, 0, 0, 0, .null), (41, .iload 5, 2, 0, 0, 0, 0, .null), (43, .bipush 12, 2, 0, 0, 0, 0, .int 12), (45, .if_icmp .gt 85, 3, 130, 0, 0, 0, .null), (48, .aload_n 0, 1, 0, 0, 0, 0, .null), (49, .getfield 28, 3, 10, 2, 2, 375, .null), (52, .iconst 0, 1, 0, 0, 0, 0, .int 0), (53, .aload_n 0, 1, 0, 0, 0, 0, .null), (54, .getfield 57, 3, 10, 6, 2, 379, .null), (57, .iload_n 1, 1, 0, 0, 0, 0, .null), (58, .invokevirtual 157, 3, 28, 3, 0, 513, .ref 4), (61, .ifCond .eq 51, 3, 112, 0, 0, 0, .null), (64, .aload_n 0, 1, 0, 0, 0, 0, .null), (65, .getfield 28, 3, 10, 2, 2, 375, .null), (68, .aload_n 0, 1, 0, 0, 0, 0, .null), (69, .getfield 19, 3, 10, 1, 2, 374, .null), (72, .invokevirtual 149, 3, 4, 0, 0, 470, .ref 1), (75, .iconst 2, 1, 0, 0, 0, 0, .int 2), (76, .aload_n 0, 1, 0, 0, 0, 0, .null), (77, .getfield 57, 3, 10, 6, 2, 379, .null), (80, .iload_n 1, 1, 0, 0, 0, 0, .null), (81, .aload_n 0, 1, 0, 0, 0, 0, .null), (82, .getfield 57, 3, 10, 6, 2, 379, .null), (85, .getfield 146, 3, 9, 6, 0, 63, .null), (88, .invokevirtual 153, 3, 26, 5, 0, 478, .ref 8), (91, .istore 6, 2, 0, 0, 0, 0, .null), (93, .iload_n 3, 1, 0, 0, 0, 0, .null), (94, .iconst (-1), 1, 0, 0, 0, 0, .int (-1)), (95, .if_icmp .eq 10, 3, 105, 0, 0, 0, .null), (98, .iload 6, 2, 0, 0, 0, 0, .null), (100, .iload 4, 2, 0, 0, 0, 0, .null), (102, .if_icmp .ge 10, 3, 112, 0, 0, 0, .null), (105, .iload 5, 2, 0, 0, 0, 0, .null), (107, .istore_n 3, 1, 0, 0, 0, 0, .null), (108, .iload 6, 2, 0, 0, 0, 0, .null), (110, .istore 4, 2, 0, 0, 0, 0, .null), (112, .aload_n 0, 1, 0, 0, 0, 0, .null), (113, .getfield 28, 3, 10, 2, 2, 375, .null), (116, .aload_n 0, 1, 0, 0, 0, 0, .null), (117, .getfield 57, 3, 10, 6, 2, 379, .null), (120, .invokevirtual 229, 3, 32, 1, 0, 810, .ref 6), (123, .pop, 1, 0, 0, 0, 0, .null), (124, .iinc 5 1, 3, 0, 0, 0, 0, .int 1), (127, .goto (-86), 3, 41, 0, 0, 0, .null), (130, .iload_n 2, 1, 0, 0, 0, 0, .null), (131, .ifCond .ne 7, 3, 138, 0, 0, 0, .null), (134, .iload_n 3, 1, 0, 0, 0, 0, .null), (135, .goto 5, 3, 140, 0, 0, 0, .null), (138, .iload 4, 2, 0, 0, 0, 0, .null), (140, .ireturn, 1, 0, 0, 0, 0, .null)]
noncomputable def sm_o96 : List (Nat × sm_E) := [(0, .iload_n 1, 1, 0, 0, 0, 0, .null), (1, .iconst 1, 1, 0, 0, 0, 0, .int 1), (2, .if_icmp .lt 18, 3, 20, 0, 0, 0, .null), (5, .iload_n 1, 1, 0, 0, 0, 0, .null), (6, .iconst 5, 1, 0, 0, 0, 0, .int 5), (7, .if_icmp .gt 13, 3, 20, 0, 0, 0, .null), (10, .iload_n 2, 1, 0, 0, 0, 0, .null), (11, .iconst (-1), 1, 0, 0, 0, 0, .int (-1)), (12, .if_icmp .lt 8, 3, 20, 0, 0, 0, .null), (15, .iload_n 2, 1, 0, 0, 0, 0, .null), (16, .iload_n 1, 1, 0, 0, 0, 0, .null), (17, .if_icmp .lt 5, 3, 22, 0, 0, 0, .null), (20, .iconst (-1), 1, 0, 0, 0, 0, .int (-1)), (21, .ireturn, 1, 0, 0, 0, 0, .null), (22, .aload_n 0, 1, 0, 0, 0, 0, .null), (23, .getfield 46, 3, 10, 4, 2, 377, .null), (26, .aload_n 0, 1, 0, 0, 0, 0, .null), (27, .getfield 12, 3, 10, 0, 2, 373, .null), (30, .iload_n 1, 1, 0, 0, 0, 0, .null), (31, .invokevirtual 232, 3, 56, 2, 0, 823, .ref 4), (34, .aload_n 0, 1, 0, 0, 0, 0, .null), (35, .getfield 46, 3, 10, 4, 2, 377, .null), (38, .getfield 236, 3, 8, 5, 3, 287, .null), (41, .ifCond .ne 5, 3, 46, 0, 0, 0, .null), (44, .iconst (-1), 1, 0, 0, 0, 0, .int (-1)), (45, .ireturn, 1, 0, 0, 0, 0, .null), (46, .iload_n 2, 1, 0, 0, 0, 0, .null), (47, .iconst (-1), 1, 0, 0, 0, 0, .int (-1)), (48, .if_icmp .ne 13, 3, 61, 0, 0, 0, .null), (51, .aload_n 0, 1, 0, 0, 0, 0, .null), (52, .getfield 46, 3, 10, 4, 2, 377, .null), (55, .getfield 240, 3, 8, 4, 0, 285, .null), (58, .goto 12, 3, 70, 0, 0, 0, .null), (61, .aload_n 0, 1, 0, 0, 0, 0, .null), (62, .getfield 46, 3, 10, 4, 2, 377, .null), (65, .getfield 243, 3, 8, 3, 2, 283, .null), (68, .iload_n 2, 1, 0, 0, 0, 0, .null), (69, .iaload, 1, 0, 0, 0, 0, .null), (70, .ireturn, 1, 0, 0, 0, 0, .null)]
noncomputable def sm_o97 : List (Nat × sm_E) := [(0, .iload_n 1, 1, 0, 0, 0, 0, .null), (1, .iconst (-1), 1, 0, 0, 0, 0, .int (-1)), (2, .if_icmp .lt 14, 3, 16, 0, 0, 0, .null), (5, .iload_n 1, 1, 0, 0, 0, 0, .null), (6, .aload_n 0, 1, 0, 0, 0, 0, .null), (7, .getfield 12, 3, 10, 0, 2, 373, .null), (10, .invokevirtual 246, 3, 66, 0, 0, 857, .ref 1), (13, .if_icmp .lt 5, 3, 18, 0, 0, 0, .null), (16, .iconst (-1), 1, 0, 0, 0, 0, .int (-1)), (17, .ireturn, 1, 0, 0, 0, 0, .null), (18, .aload_n 0, 1, 0, 0, 0, 0, .null), (19, .getfield 53, 3, 10, 5, 2, 378, .null), (22, .aload_n 0, 1, 0, 0, 0, 0, .null), (23, .getfield 12, 3, 10, 0, 2, 373, .null), (26, .invokevirtual 249, 3, 15, 1, 0, 858, .ref 2), (29, .iload_n 1, 1, 0, 0, 0, 0, .null), (30, .iconst (-1), 1, 0, 0, 0, 0, .int (-1)), (31, .if_icmp .ne 13, 3, 44, 0, 0, 0, .null), (34, .aload_n 0, 1, 0, 0, 0, 0, .null), (35, .getfield 53, 3, 10, 5, 2, 378, .null), (38, .getfield 252, 3, 3, 5, 0, 319, .null), (41, .goto 12, 3, 53, 0, 0, 0, .null), (44, .aload_n 0, 1, 0, 0, 0, 0, .null), (45, .getfield 53, 3, 10, 5, 2, 378, .null), (48, .getfield 253, 3, 3, 4, 2, 317, .null), (51, .iload_n 1, 1, 0, 0, 0, 0, .null), (52, .iaload, 1, 0, 0, 0, 0, .null), (53, .ireturn, 1, 0, 0, 0, 0, .null)]
noncomputable def sm_o98 : List (Nat × sm_E) := [(0, .aload_n 0, 1, 0, 0, 0, 0, .null), (1, .getfield 12, 3, 10, 0, 2, 373, .null), (4, .iload_n 1, 1, 0, 0, 0, 0, .null), (5, .invokevirtual 126, 3, 64, 1, 0, 459, .ref 2), (8, .ifCond .eq 19, 3, 27, 0, 0, 0, .null), (11, .aload_n 0, 1, 0, 0, 0, 0, .null), (12, .getfield 12, 3, 10, 0, 2, 373, .null), (15, .iload_n 2, 1, 0, 0, 0, 0, .null), (16, .invokevirtual 126, 3, 64, 1, 0, 459, .ref 2), (19, .ifCond .eq 8, 3, 27, 0, 0, 0, .null), (22, .iload_n 3, 1, 0, 0, 0, 0, .null), (23, .iconst (-1), 1, 0, 0, 0, 0, .int (-1)), (24, .if_icmp .ge 5, 3, 29, 0, 0, 0, .null), (27, .iconst (-1), 1, 0, 0, 0, 0, .int (-1)), (28, .ireturn, 1, 0, 0, 0, 0, .null), (29, .aload_n 0, 1, 0, 0, 0, 0, .null), (30, .getfield 53, 3, 10, 5, 2, 378, .null), (33, .aload_n 0, 1, 0, 0, 0, 0, .null), (34, .getfield 12, 3, 10, 0, 2, 373, .null), (37, .iload_n 2, 1, 0, 0, 0, 0, .null), (38, .invokevirtual 254, 3, 17, 2, 0, 879, .ref 5), (41, .aload_n 0, 1, 0, 0, 0, 0, .null), (42, .getfield 53, 3, 10, 5, 2, 378, .null), (45, .getfield 257, 3, 3, 7, 2, 323, .null), (48, .iload_n 1, 1, 0, 0, 0, 0, .null), (49, .iaload, 1, 0, 0, 0, 0, .null), (50, .istore 4, 2, 0, 0, 0, 0, .null), (52, .iload_n 3, 1, 0, 0, 0, 0, .null), (53, .iconst (-1), 1, 0, 0, 0, 0, .int (-1)), (54, .if_icmp .ne 6, 3, 60, 0, 0, 0, .null), (57, .iload 4, 2, 0, 0, 0, 0, .null), (59, .ireturn, 1, 0, 0, 0, 0, .null), (60, .iload_n 3, 1, 0, 0, 0, 0, .null), (61, .iload 4, 2, 0, 0, 0, 0, .null), (63, .if_icmp .ge 19, 3, 82, 0, 0, 0, .null), (66, .aload_n 0, 1, 0, 0, 0, 0, .null), (67, .getfield 53, 3, 10, 5, 2, 378, .null), (70, .aload_n 0, 1, 0, 0, 0, 0, .null), (71, .getfield 12, 3, 10, 0, 2, 373, .null), (74, .iload_n 1, 1, 0, 0, 0, 0, .null), (75, .iload_n 3, 1, 0, 0, 0, 0, .null), (76, .invokevirtual 260, 3, 19, 3, 0, 887, .ref 6), (79, .goto 4, 3, 83, 0, 0, 0, .null), (82, .iconst (-1), 1, 0, 0, 0, 0, .int (-1)), (83, .ireturn, 1, 0, 0, 0, 0, .null)]
noncomputable def sm_o99 : List (Nat × sm_E) := [(0, .iload_n 1, 1, 0, 0, 0, 0, .null), (1, .ifCond .lt 9, 3, 10, 0, 0, 0, .null), (4, .iload_n 1, 1, 0, 0, 0, 0, .null), (5, .bipush 6, 2, 0, 0, 0, 0, .int 6), (7, .if_icmp .le 5, 3, 12, 0, 0, 0, .null), (10, .iconst (-1), 1, 0, 0, 0, 0, .int (-1)), (11, .ireturn, 1, 0, 0, 0, 0, .null), (12, .iload_n 2, 1, 0, 0, 0, 0, .null), (13, .iconst (-1), 1, 0, 0, 0, 0, .int (-1)), (14, .if_icmp .ne 12, 3, 26, 0, 0, 0, .null), (17, .aload_n 0, 1, 0, 0, 0, 0, .null), (18, .getfield 12, 3, 10, 0, 2, 373, .null), (21, .iload_n 1, 1, 0, 0, 0, 0, .null), (22, .invokevirtual 264, 3, 71, 1, 0, 896, .ref 5), (25, .ireturn, 1, 0, 0, 0, 0, .null), (26, .aload_n 0, 1, 0, 0, 0, 0, .null), (27, .getfield 12, 3, 10, 0, 2, 373, .null), (30, .iload_n 2, 1, 0, 0, 0, 0, .null), (31, .invokevirtual 126, 3, 64, 1, 0, 459, .ref 2), (34, .ifCond .eq 15, 3, 49, 0, 0, 0, .null), (37, .aload_n 0, 1, 0, 0, 0, 0, .null), (38, .getfield 12, 3, 10, 0, 2, 373, .null), (41, .iload_n 1, 1, 0, 0, 0, 0, .null), (42, .iload_n 2, 1, 0, 0, 0, 0, .null), (43, .invokevirtual 267, 3, 69, 2, 0, 909, .ref 6), (46, .goto 4, 3, 50, 0, 0, 0, .null), (49, .iconst (-1), 1, 0, 0, 0, 0, .int (-1)), (50, .ireturn, 1, 0, 0, 0, 0, .null)]
noncomputable def sm_o100 : List (Nat × sm_E) := [(0, .aload_n 0, 1, 0, 0, 0, 0, .null), (1, .getfield 12, 3, 10, 0, 2, 373, .null), (4, .iload_n 1, 1, 0, 0, 0, 0, .null), (5, .invokevirtual 126, 3, 64, 1, 0, 459, .ref 2), (8, .ifCond .ne 5, 3, 13, 0, 0, 0, .null), (11, .iconst (-1), 1, 0, 0, 0, 0, .int (-1)), (12, .ireturn, 1, 0, 0, 0, 0, .null), (13, .iconst (-1), 1, 0, 0, 0, 0, .int (-1)), (14, .istore_n 2, 1, 0, 0, 0, 0, .null), (15, .iconst 0, 1, 0, 0, 0, 0, .int 0), (16, .istore_n 3, 1, 0, 0, 0, 0, .null), (17, .iload_n 3, 1, 0, 0, 0, 0, .null), (18, .aload_n 0, 1, 0, 0, 0, 0, .null), (19, .getfield 12, 3, 10, 0, 2, 373, .null), (22, .getfield 107, 3, 9, 4, 0, 53, .null), (25, .if_icmp .ge 42, 3, 67, 0, 0, 0, .null), (28, .iload_n 3, 1, 0, 0, 0, 0, .null), (29, .iload_n 1, 1, 0, 0, 0, 0, .null), (30, .if_icmp .eq 31, 3, 61, 0, 0, 0, .null), (33, .iload_n 2, 1, 0, 0, 0, 0, .null), (34, .iconst (-1), 1, 0, 0, 0, 0, .int (-1)), (35, .if_icmp .eq 24, 3, 59, 0, 0, 0, .null), (38, .aload_n 0, 1, 0, 0, 0, 0, .null), (39, .getfield 12, 3, 10, 0, 2, 373, .null), (42, .iload_n 1, 1, 0, 0, 0, 0, .null), (43, .iload_n 3, 1, 0, 0, 0, 0, .null), (44, .invokevirtual 164, 3, 68, 2, 0, 529, .ref 3), (47, .aload_n 0, 1, 0, 0, 0, 0, .null), (48, .getfield 12, 3, 10, 0, 2, 373, .null), (51, .iload_n 1, 1, 0, 0, 0, 0, .null), (52, .iload_n 2, 1, 0, 0, 0, 0, .null), (53, .invokevirtual 164, 3, 68, 2, 0, 529, .ref 3), (56, .if_icmp .ge 5, 3, 61, 0, 0, 0, .null), (59, .iload_n 3, 1, 0, 0, 0, 0, .null), (60, .istore_n 2, 1, 0, 0, 0, 0, .null), (61, .iinc 3 1, 3, 0, 0, 0, 0, .int 1), (64, .goto (-47), 3, 17, 0, 0, 0, .null), (67, .iload_n 2, 1, 0, 0, 0, 0, .null), (68, .ireturn, 1, 0, 0, 0, 0, .null)]
noncomputable def sm_o101 : List (Nat × sm_E) := [(0, .iload_n 1, 1, 0, 0, 0, 0, .null), (1, .ifCond .lt 18, 3, 19, 0, 0, 0, .null), (4, .iload_n 1, 1, 0, 0, 0, 0, .null), (5, .bipush 6, 2, 0, 0, 0, 0, .int 6), (7, .if_icmp .ge 12, 3, 19, 0, 0, 0, .null), (10, .iload_n 2, 1, 0, 0, 0, 0, .null), (11, .ifCond .lt 8, 3, 19, 0, 0, 0, .null), (14, .iload_n 2, 1, 0, 0, 0, 0, .null), (15, .iconst 1, 1, 0, 0, 0, 0, .int 1), (16, .if_icmp .le 9, 3, 25, 0, 0, 0, .null), (19, .aload_n 0, 1, 0, 0, 0, 0, .null), (20, .iconst (-1), 1, 0, 0, 0, 0, .int (-1)), (21, .invokevirtual 103, 3, 122, 1, 0, 439, .ref 2), (24, .ireturn, 1, 0, 0, 0, 0, .null), (25, .aload_n 0, 1, 0, 0, 0, 0, .null), (26, .getfield 12, 3, 10, 0, 2, 373, .null), (29, .getfield 270, 3, 9, 8, 0, 76, .null), (32, .bipush 6, 2, 0, 0, 0, 0, .int 6), (34, .if_icmp .lt 10, 3, 44, 0, 0, 0, .null), (37, .aload_n 0, 1, 0, 0, 0, 0, .null), (38, .bipush (-5), 2, 0, 0, 0, 0, .int (-5)), (40, .invokevirtual 103, 3, 122, 1, 0, 439, .ref 2), (43, .ireturn, 1, 0, 0, 0, 0, .null), (44, .iload_n 2, 1, 0, 0, 0, 0, .null), (45, .iconst 1, 1, 0, 0, 0, 0, .int 1), (46, .if_icmp .ne 21, 3, 67, 0, 0, 0, .null), (49, .aload_n 0, 1, 0, 0, 0, 0, .null), (50, .getfield 12, 3, 10, 0, 2, 373, .null), (53, .dup, 1, 0, 0, 0, 0, .null), (54, .getfield 273, 3, 9, 9, 0, 78, .null), (57, .iconst 1, 1, 0, 0, 0, 0, .int 1), (58, .iload_n 1, 1, 0, 0, 0, 0, .null), (59, .ishl, 1, 0, 0, 0, 0, .null), (60, .ior, 1, 0, 0, 0, 0, .null), (61, .putfield 273, 3, 9, 9, 0, 78, .null), (64, .goto 18, 3, 82, 0, 0, 0, .null), (67, .aload_n 0, 1, 0, 0, 0, 0, .null), (68, .getfield 12, 3, 10, 0, 2, 373, .null), (71, .dup, 1, 0, 0, 0, 0, .null), (72, .getfield 276, 3, 9, 10, 0, 80, .null), (75, .iconst 1, 1, 0, 0, 0, 0, .int 1), (76, .iload_n 1, 1, 0, 0, 0, 0, .null), (77, .ishl, 1, 0, 0, 0, 0, .null), (78, .ior, 1, 0, 0, 0, 0, .null), (79, .putfield 276, 3, 9, 10, 0, 80, .null), (82, .aload_n 0, 1, 0, 0, 0, 0, .null), (83, .getfield 12, 3, 10, 0, 2, 373, .null), (86, .dup, 1, 0, 0, 0, 0, .null), (87, .getfield 270, 3, 9, 8, 0, 76, .null), (90, .iconst 1, 1, 0, 0, 0, 0, .int 1), (91, .iadd, 1, 0, 0, 0, 0, .null), (92, .putfield 270, 3, 9, 8, 0, 76, .null), (95, .aload_n 0, 1, 0, 0, 0, 0, .null), (96, .aload_n 0, 1, 0, 0, 0, 0, .null), (97, .getfield 12, 3, 10, 0, 2, 373, .null), (100, .getfield 270, 3, 9, 8, 0, 76, .null), (103, .invokevirtual 123, 3, 121, 1, 0, 451, .ref 2), (106, .ireturn, 1, 0, 0, 0, 0, .null)]
noncomputable def sm_o102 : List (Nat × sm_E) := [(0, .aload_n 0, 1, 0, 0, 0, 0, .null), (1, .getfield 12, 3, 10, 0, 2, 373, .null), (4, .getfield 270, 3, 9, 8, 0, 76, .null), (7, .istore_n 1, 1, 0, 0, 0, 0, .null), (8, .aload_n 0, 1, 0, 0, 0, 0, .null), (9, .getfield 12, 3, 10, 0, 2, 373, .null), (12, .iconst 0, 1, 0, 0, 0, 0, .int 0), (13, .putfield 270, 3, 9, 8, 0, 76, .null), (16, .aload_n 0, 1, 0, 0, 0, 0, .null), (17, .getfield 12, 3, 10, 0, 2, 373, .null), (20, .iconst 0, 1, 0, 0, 0, 0, .int 0), (21, .putfield 273, 3, 9, 9, 0, 78, .null), (24, .aload_n 0, 1, 0, 0, 0, 0, .null), (25, .getfield 12, 3, 10, 0, 2, 373, .null), (28, .iconst 0, 1, 0, 0, 0, 0, .int 0), (29, .putfield 276, 3, 9, 10, 0, 80, .null), (32, .iload_n 1, 1, 0, 0, 0, 0, .null), (33, .ireturn, 1, 0, 0, 0, 0, .null)]
noncomputable def sm_o103 : List (Nat × sm_E) := [(0, .aload_n 0, 1, 0, 0, 0, 0, .null), (1, .getfield 12, 3, 10, 0, 2, 373, .null), (4, .invokevirtual 279, 3, 72, 0, 0, 926, .ref 4), (7, .ireturn, 1, 0, 0, 0, 0, .null)]
noncomputable def sm_o104 : List (Nat × sm_E) := [(0, .aload_n 0, 1, 0, 0, 0, 0, .null), (1, .getfield 12, 3, 10, 0, 2, 373, .null), (4, .invokevirtual 279, 3, 72, 0, 0, 926, .ref 4), (7, .istore_n 2, 1, 0, 0, 0, 0, .null), (8, .iload_n 2, 1, 0, 0, 0, 0, .null), (9, .ifCond .eq 12, 3, 21, 0, 0, 0, .null), (12, .iload_n 1, 1, 0, 0, 0, 0, .null), (13, .ifCond .lt 8, 3, 21, 0, 0, 0, .null), (16, .iload_n 1, 1, 0, 0, 0, 0, .null), (17, .iconst 1, 1, 0, 0, 0, 0, .int 1), (18, .if_icmp .le 5, 3, 23, 0, 0, 0, .null), (21, .iconst (-1), 1, 0, 0, 0, 0, .int (-1)), (22, .ireturn, 1, 0, 0, 0, 0, .null), (23, .iconst 0, 1, 0, 0, 0, 0, .int 0), (24, .istore_n 3, 1, 0, 0, 0, 0, .null), (25, .iconst 1, 1, 0, 0, 0, 0, .int 1), (26, .istore 4, 2, 0, 0, 0, 0, .null), (28, .iload 4, 2, 0, 0, 0, 0, .null), (30, .bipush 6, 2, 0, 0, 0, 0, .int 6), (32, .if_icmp .ge 34, 3, 66, 0, 0, 0, .null), (35, .aload_n 0, 1, 0, 0, 0, 0, .null), (36, .getfield 12, 3, 10, 0, 2, 373, .null), (39, .iload_n 2, 1, 0, 0, 0, 0, .null), (40, .iload 4, 2, 0, 0, 0, 0, .null), (42, .invokevirtual 282, 3, 73, 2, 0, 934, .ref 5), (45, .aload_n 0, 1, 0, 0, 0, 0, .null), (46, .getfield 12, 3, 10, 0, 2, 373, .null), (49, .iload_n 2, 1, 0, 0, 0, 0, .null), (50, .iload_n 3, 1, 0, 0, 0, 0, .null), (51, .invokevirtual 282, 3, 73, 2, 0, 934, .ref 5), (54, .if_icmp .ge 6, 3, 60, 0, 0, 0, .null), (57, .iload 4, 2, 0, 0, 0, 0, .null), (59, .istore_n 3, 1, 0, 0, 0, 0, .null), (60, .iinc 4 1, 3, 0, 0, 0, 0, .int 1), (63, .goto (-35), 3, 28, 0, 0, 0, .null), (66, .iload_n 1, 1, 0, 0, 0, 0, .null), (67, .ifCond .ne 7, 3, 74, 0, 0, 0, .null), (70, .iload_n 3, 1, 0, 0, 0, 0, .null), (71, .goto 12, 3, 83, 0, 0, 0, .null), (74, .aload_n 0, 1, 0, 0, 0, 0, .null), (75, .getfield 12, 3, 10, 0, 2, 373, .null), (78, .iload_n 2, 1, 0, 0, 0, 0, .null), (79, .iload_n 3, 1, 0, 0, 0, 0, .null), (80, .invokevirtual 282, 3, 73, 2, 0, 934, .ref 5), (83, .ireturn, 1, 0, 0, 0, 0, .null)]
noncomputable def sm_o105 : List (Nat × sm_E) := [(0, .iload_n 1, 1, 0, 0, 0, 0, .null), (1, .iconst 1, 1, 0, 0, 0, 0, .int 1), (2, .if_icmp .lt 19, 3, 21, 0, 0, 0, .null), (5, .iload_n 1, 1, 0, 0, 0, 0, .null), (6, .bipush 20, 2, 0, 0, 0, 0, .int 20), (8, .if_icmp .gt 13, 3, 21, 0, 0, 0, .null), (11, .iload_n 2, 1, 0, 0, 0, 0, .null), (12, .ifCond .lt 9, 3, 21, 0, 0, 0, .null), (15, .iload_n 2, 1, 0, 0, 0, 0, .null), (16, .bipush 99, 2, 0, 0, 0, 0, .int 99), (18, .if_icmp .le 7, 3, 25, 0, 0, 0, .null), (21, .ldc2_w 285, 3, 0, 0, 0, 943, .long (-1)), (24, .lreturn, 1, 0, 0, 0, 0, .null), (25, .aload_n 0, 1, 0, 0, 0, 0, .null), (26, .getfield 12, 3, 10, 0, 2, 373, .null), (29, .getfield 170, 3, 9, 3, 2, 50, .null), (32, .iconst 1, 1, 0, 0, 0, 0, .int 1), (33, .iaload, 1, 0, 0, 0, 0, .null), (34, .i2l, 1, 0, 0, 0, 0, .null), (35, .lstore_n 3, 1, 0, 0, 0, 0, .null), (36, .ldc2_w 287, 3, 0, 0, 0, 944, .long 10), (39, .lload_n 3, 1, 0, 0, 0, 0, .null), (40, .lsub, 1, 0, 0, 0, 0, .null), (41, .lstore 5, 2, 0, 0, 0, 0, .null), (43, .iconst 0, 1, 0, 0, 0, 0, .int 0), (44, .istore 7, 2, 0, 0, 0, 0, .null), (46, .iload 7, 2, 0, 0, 0, 0, .null), (48, .iload_n 1, 1, 0, 0, 0, 0, .null), (49, .if_icmp .ge 28, 3, 77, 0, 0, 0, .null), (52, .aload_n 0, 1, 0, 0, 0, 0, .null), (53, .getfield 88, 3, 10, 14, 2, 387, .null), (56, .iload 7, 2, 0, 0, 0, 0, .null), (58, .iload 7, 2, 0, 0, 0, 0, .null), (60, .ifCond .ne 9, 3, 69, 0, 0, 0, .null), (63, .ldc2_w 289, 3, 0, 0, 0, 945, .long 1000000000000), (66, .goto 4, 3, 70, 0, 0, 0, .null), (69, .lconst 0, 1, 0, 0, 0, 0, .long 0), (70, .lastore, 1, 0, 0, 0, 0, .null), (71, .iinc 7 1, 3, 0, 0, 0, 0, .int 1), (74, .goto (-28), 3, 46, 0, 0, 0, .null), (77, .iconst 0, 1, 0, 0, 0, 0, .int 0), (78, .istore 7, 2, 0, 0, 0, 0, .null), (80, .iload 7, 2, 0, 0, 0, 0, .null), (82, .iload_n 2, 1, 0, 0, 0, 0, .null), (83, .if_icmp .ge 75, 3, 158, 0, 0, 0, .null), (86, .iload_n 1, 1, 0, 0, 0, 0, .null), (87, .iconst 1, 1, 0, 0, 0, 0, .int 1), (88, .isub, 1, 0, 0, 0, 0, .null), (89, .istore 8, 2, 0, 0, 0, 0, .null), (91, .iload 8, 2, 0, 0, 0, 0, .null), (93, .ifCond .lt 59, 3, 152, 0, 0, 0, .null), (96, .iload 8, 2, 0, 0, 0, 0, .null), (98, .ifCond .le 21, 3, 119, 0, 0, 0, .null), (101, .aload_n 0, 1, 0, 0, 0, 0, .null), (102, .getfield 88, 3, 10, 14, 2, 387, .null), (105, .iload 8, 2, 0, 0, 0, 0, .null), (107, .iconst 1, 1, 0, 0, 0, 0, .int 1), (108, .isub, 1, 0, 0, 0, 0, .null), (109, .laload, 1, 0, 0, 0, 0, .null), (110, .lload_n 3, 1, 0, 0, 0, 0, .null), (111, .lmul, 1, 0, 0, 0, 0, .null), (112, .ldc2_w 287, 3, 0, 0, 0, 944, .long 10), (115, .ldiv, 1, 0, 0, 0, 0, .null), (116, .goto 4, 3, 120, 0, 0, 0, .null), (119, .lconst 0, 1, 0, 0, 0, 0, .long 0), (120, .lstore 9, 2, 0, 0, 0, 0, .null), (122, .aload_n 0, 1, 0, 0, 0, 0, .null), (123, .getfield 88, 3, 10, 14, 2, 387, .null), (126, .iload 8, 2, 0, 0, 0, 0, .null), (128, .aload_n 0, 1, 0, 0, 0, 0, .null), (129, .getfield 88, 3, 10, 14, 2, 387, .null), (132, .iload 8, 2, 0, 0, 0, 0, .null), (134, .laload, 1, 0, 0, 0, 0, .null), (135, .lload 5, 2, 0, 0, 0, 0, .null), (137, .lmul, 1, 0, 0, 0, 0, .null), (138, .ldc2_w 287, 3, 0, 0, 0, 944, .long 10), (141, .ldiv, 1, 0, 0, 0, 0, .null), (142, .lload 9, 2, 0, 0, 0, 0, .null), (144, .ladd, 1, 0, 0, 0, 0, .null), (145, .lastore, 1, 0, 0, 0, 0, .null), (146, .iinc 8 (-1), 3, 0, 0, 0, 0, .int (-1)), (149, .goto (-58), 3, 91, 0, 0, 0, .null), (152, .iinc 7 1, 3, 0, 0, 0, 0, .int 1), (155, .goto (-75), 3, 80, 0, 0, 0, .null), (158, .lconst 0, 1, 0, 0, 0, 0, .long 0), (159, .lstore 7, 2, 0, 0, 0, 0, .null), (161, .iconst 0, 1, 0, 0, 0, 0, .int 0), (162, .istore 9, 2, 0, 0, 0, 0, .null), (164, .iload 9, 2, 0, 0, 0, 0, .null), (166, .iload_n 1, 1, 0, 0, 0, 0, .null), (167, .if_icmp .ge 21, 3, 188, 0, 0, 0, .null), (170, .lload 7, 2, 0, 0, 0, 0, .null), (172, .aload_n 0, 1, 0, 0, 0, 0, .null), (173, .getfield 88, 3, 10, 14, 2, 387, .null), (176, .iload 9, 2, 0, 0, 0, 0, .null), (178, .laload, 1, 0, 0, 0, 0, .null), (179, .ladd, 1, 0, 0, 0, 0, .null), (180, .lstore 7, 2, 0, 0, 0, 0, .null), (182, .iinc 9 1, 3, 0, 0, 0, 0, .int 1), (185, .goto (-21), 3, 164, 0, 0, 0, .null), (188, .lload 7, 2, 0, 0, 0, 0, .null), (190, .lreturn, 1, 0, 0, 0, 0, .null)]
noncomputable def sm_o106 : List (Nat × sm_E) := [(0, .aload_n 0, 1, 0, 0, 0, 0, .null), (1, .getfield 19, 3, 10, 1, 2, 374, .null), (4, .iload_n 1, 1, 0, 0, 0, 0, .null), (5, .invokevirtual 204, 3, 2, 1, 0, 772, .ref 2), (8, .ifCond .eq 12, 3, 20, 0, 0, 0, .null), (11, .aload_n 0, 1, 0, 0, 0, 0, .null), (12, .iload_n 2, 1, 0, 0, 0, 0, .null), (13, .iload_n 3, 1, 0, 0, 0, 0, .null), (14, .invokevirtual 161, 3, 115, 2, 0, 525, .ref 3), (17, .ifCond .ne 5, 3, 22, 0, 0, 0, .null), (20, .iconst (-1), 1, 0, 0, 0, 0, .int (-1)), (21, .ireturn, 1, 0, 0, 0, 0, .null), (22, .aload_n 0, 1, 0, 0, 0, 0, .null), (23, .getfield 28, 3, 10, 2, 2, 375, .null), (26, .aload_n 0, 1, 0, 0, 0, 0, .null), (27, .getfield 19, 3, 10, 1, 2, 374, .null), (30, .iload_n 1, 1, 0, 0, 0, 0, .null), (31, .invokevirtual 291, 3, 3, 1, 0, 950, .ref 2), (34, .iconst 2, 1, 0, 0, 0, 0, .int 2), (35, .aload_n 0, 1, 0, 0, 0, 0, .null), (36, .getfield 12, 3, 10, 0, 2, 373, .null), (39, .iload_n 2, 1, 0, 0, 0, 0, .null), (40, .iload_n 3, 1, 0, 0, 0, 0, .null), (41, .invokevirtual 153, 3, 26, 5, 0, 478, .ref 8), (44, .ireturn, 1, 0, 0, 0, 0, .null)]
noncomputable def sm_o107 : List (Nat × sm_E) := [(0, .iload_n 1, 1, 0, 0, 0, 0, .null), (1, .ifCond .lt 21, 3, 22, 0, 0, 0, .null), (4, .iload_n 1, 1, 0, 0, 0, 0, .null), (5, .ldc_w 295, 3, 0, 0, 0, 955, .int 1000000), (8, .if_icmp .gt 14, 3, 22, 0, 0, 0, .null), (11, .iload_n 2, 1, 0, 0, 0, 0, .null), (12, .iconst 1, 1, 0, 0, 0, 0, .int 1), (13, .if_icmp .lt 9, 3, 22, 0, 0, 0, .null), (16, .iload_n 2, 1, 0, 0, 0, 0, .null), (17, .bipush 60, 2, 0, 0, 0, 0, .int 60), (19, .if_icmp .le 9, 3, 28, 0, 0, 0, .null), (22, .aload_n 0, 1, 0, 0, 0, 0, .null), (23, .iconst (-1), 1, 0, 0, 0, 0, .int (-1)), (24, .invokevirtual 103, 3, 122, 1, 0, 439, .ref 2), (27, .ireturn, 1, 0, 0, 0, 0, .null), (28, .aload_n 0, 1, 0, 0, 0, 0, .null), (29, .getfield 12, 3, 10, 0, 2, 373, .null), (32, .getfield 107, 3, 9, 4, 0, 53, .null), (35, .ifCond .ne 10, 3, 45, 0, 0, 0, .null), (38, .aload_n 0, 1, 0, 0, 0, 0, .null), (39, .bipush (-3), 2, 0, 0, 0, 0, .int (-3)), (41, .invokevirtual 103, 3, 122, 1, 0, 439, .ref 2), (44, .ireturn, 1, 0, 0, 0, 0, .null), (45, .aload_n 0, 1, 0, 0, 0, 0, .null), (46, .getfield 60, 3, 10, 7, 2, 380, .null), (49, .aload_n 0, 1, 0, 0, 0, 0, .null), (50, .getfield 12, 3, 10, 0, 2, 373, .null), (53, .invokevirtual 218, 3, 62, 1, 0, 805, .ref 2), (56, .aload_n 0, 1, 0, 0, 0, 0, .null), (57, .iconst 1, 1, 0, 0, 0, 0, .int 1), (58, .putfield 296, 3, 10, 8, 3, 381, .null), (61, .aload_n 0, 1, 0, 0, 0, 0, .null), (62, .aload_n 0, 1, 0, 0, 0, 0, .null), (63, .aload_n 0, 1, 0, 0, 0, 0, .null), (64, .getfield 60, 3, 10, 7, 2, 380, .null), (67, .iload_n 1, 1, 0, 0, 0, 0, .null), (68, .iload_n 2, 1, 0, 0, 0, 0, .null), (69, .invokevirtual 299, 3, 117, 3, 0, 956, .ref 9), (72, .invokevirtual 123, 3, 121, 1, 0, 451, .ref 2), (75, .ireturn, 1, 0, 0, 0, 0, .null)]
noncomputable def sm_o108 : List (Nat × sm_E) := [(0, .aload_n 0, 1, 0, 0, 0, 0, .null), (1, .getfield 296, 3, 10, 8, 3, 381, .null), (4, .ifCond .eq 14, 3, 18, 0, 0, 0, .null), (7, .aload_n 0, 1, 0, 0, 0, 0, .null), (8, .getfield 60, 3, 10, 7, 2, 380, .null), (11, .iload_n 1, 1, 0, 0, 0, 0, .null), (12, .invokevirtual 126, 3, 64, 1, 0, 459, .ref 2), (15, .ifCond .ne 5, 3, 20, 0, 0, 0, .null), (18, .iconst (-1), 1, 0, 0, 0, 0, .int (-1)), (19, .ireturn, 1, 0, 0, 0, 0, .null), (20, .iload_n 2, 1, 0, 0, 0, 0, .null), (21, .tableswitch 65 0 2 #[27, 37, 49], 27, 86, 0, 0, 0, .null), (48, .aload_n 0, 1, 0, 0, 0, 0, .null), (49, .getfield 60, 3, 10, 7, 2, 380, .null), (52, .getfield 136, 3, 9, 2, 2, 43, .null), (55, .iload_n 1, 1, 0, 0, 0, 0, .null), (56, .iaload, 1, 0, 0, 0, 0, .null), (57, .ireturn, 1, 0, 0, 0, 0, .null), (58, .aload_n 0, 1, 0, 0, 0, 0, .null), (59, .getfield 60, 3, 10, 7, 2, 380, .null), (62, .iload_n 1, 1, 0, 0, 0, 0, .null), (63, .invokevirtual 139, 3, 65, 1, 0, 463, .ref 2), (66, .invokestatic 142, 3, 114, 1, 0, 467, .ref 1), (69, .ireturn, 1, 0, 0, 0, 0, .null), (70, .iload_n 1, 1, 0, 0, 0, 0, .null), (71, .ifCond .ne 13, 3, 84, 0, 0, 0, .null), (74, .aload_n 0, 1, 0, 0, 0, 0, .null), (75, .getfield 60, 3, 10, 7, 2, 380, .null), (78, .getfield 146, 3, 9, 6, 0, 63, .null), (81, .goto 4, 3, 85, 0, 0, 0, .null), (84, .iconst (-1), 1, 0, 0, 0, 0, .int (-1)), (85, .ireturn, 1, 0, 0, 0, 0, .null), (86, .iconst (-1), 1, 0, 0, 0, 0, .int (-1)), (87, .ireturn, 1, 0, 0, 0, 0, .null)]
noncomputable def sm_o109 : List (Nat × sm_E) := [(0, .iload_n 1, 1, 0, 0, 0, 0, .null), (1, .ifCond .lt 8, 3, 9, 0, 0, 0, .null), (4, .iload_n 1, 1, 0, 0, 0, 0, .null), (5, .iconst 2, 1, 0, 0, 0, 0, .int 2), (6, .if_icmp .lt 9, 3, 15, 0, 0, 0, .null), (9, .aload_n 0, 1, 0, 0, 0, 0, .null), (10, .iconst (-1), 1, 0, 0, 0, 0, .int (-1)), (11, .invokevirtual 103, 3, 122, 1, 0, 439, .ref 2), (14, .ireturn, 1, 0, 0, 0, 0, .null), (15, .aload_n 0, 1, 0, 0, 0, 0, .null), (16, .getfield 63, 3, 10, 9, 2, 382, .null), (19, .iload_n 1, 1, 0, 0, 0, 0, .null), (20, .aaload, 1, 0, 0, 0, 0, .null), (21, .ifnull 12, 3, 33, 0, 0, 0, .null), (24, .aload_n 0, 1, 0, 0, 0, 0, .null), (25, .getfield 67, 3, 10, 10, 2, 383, .null), (28, .iload_n 1, 1, 0, 0, 0, 0, .null), (29, .aaload, 1, 0, 0, 0, 0, .null), (30, .ifnonnull 29, 3, 59, 0, 0, 0, .null), (33, .aload_n 0, 1, 0, 0, 0, 0, .null), (34, .getfield 63, 3, 10, 9, 2, 382, .null), (37, .iload_n 1, 1, 0, 0, 0, 0, .null), (38, .new 9, 3, 9, 11, 0, 28, .null), (41, .dup, 1, 0, 0, 0, 0, .null), (42, .invokespecial 11, 3, 61, 0, 0, 30, .ref 1), (45, .aastore, 1, 0, 0, 0, 0, .null), (46, .aload_n 0, 1, 0, 0, 0, 0, .null), (47, .getfield 67, 3, 10, 10, 2, 383, .null), (50, .iload_n 1, 1, 0, 0, 0, 0, .null), (51, .new 16, 3, 0, 4, 0, 105, .null), (54, .dup, 1, 0, 0, 0, 0, .null), (55, .invokespecial 18, 3, 0, 0, 0, 107, .ref 2), (58, .aastore, 1, 0, 0, 0, 0, .null), (59, .aload_n 0, 1, 0, 0, 0, 0, .null), (60, .getfield 63, 3, 10, 9, 2, 382, .null), (63, .iload_n 1, 1, 0, 0, 0, 0, .null), (64, .aaload, 1, 0, 0, 0, 0, .null), (65, .aload_n 0, 1, 0, 0, 0, 0, .null), (66, .getfield 12, 3, 10, 0, 2, 373, .null), (69, .invokevirtual 218, 3, 62, 1, 0, 805, .ref 2), (72, .aload_n 0, 1, 0, 0, 0, 0, .null), (73, .getfield 67, 3, 10, 10, 2, 383, .null), (76, .iload_n 1, 1, 0, 0, 0, 0, .null), (77, .aaload, 1, 0, 0, 0, 0, .null), (78, .aload_n 0, 1, 0, 0, 0, 0, .null), (79, .getfield 19, 3, 10, 1, 2, 374, .null), (82, .invokevirtual 302, 3, 1, 1, 0, 976, .ref 3), (85, .aload_n 0, 1, 0, 0, 0, 0, .null), (86, .iconst 0, 1, 0, 0, 0, 0, .int 0), (87, .invokevirtual 123, 3, 121, 1, 0, 451, .ref 2), (90, .ireturn, 1, 0, 0, 0, 0, .null)]
noncomputable def sm_o110 : List (Nat × sm_E) := [(0, .iload_n 1, 1, 0, 0, 0, 0, .null), (1, .ifCond .lt 8, 3, 9, 0, 0, 0, .null), (4, .iload_n 1, 1, 0, 0, 0, 0, .null), (5, .iconst 2, 1, 0, 0, 0, 0, .int 2), (6, .if_icmp .lt 9, 3, 15, 0, 0, 0, .null), (9, .aload_n 0, 1, 0, 0, 0, 0, .null), (10, .iconst (-1), 1, 0, 0, 0, 0, .int (-1)), (11, .invokevirtual 103, 3, 122, 1, 0, 439, .ref 2), (14, .ireturn, 1, 0, 0, 0, 0, .null), (15, .aload_n 0, 1, 0, 0, 0, 0, .null), (16, .getfield 63, 3, 10, 9, 2, 382, .null), (19, .iload_n 1, 1, 0, 0, 0, 0, .null), (20, .aaload, 1, 0, 0, 0, 0, .null), (21, .ifnull 12, 3, 33, 0, 0, 0, .null), (24, .aload_n 0, 1, 0, 0, 0, 0, .null), (25, .getfield 67, 3, 10, 10, 2, 383, .null), (28, .iload_n 1, 1, 0, 0, 0, 0, .null), (29, .aaload, 1, 0, 0, 0, 0, .null), (30, .ifnonnull 10, 3, 40, 0, 0, 0, .null), (33, .aload_n 0, 1, 0, 0, 0, 0, .null), (34, .bipush (-2), 2, 0, 0, 0, 0, .int (-2)), (36, .invokevirtual 103, 3, 122, 1, 0, 439, .ref 2), (39, .ireturn, 1, 0, 0, 0, 0, .null), (40, .aload_n 0, 1, 0, 0, 0, 0, .null), (41, .getfield 12, 3, 10, 0, 2, 373, .null), (44, .aload_n 0, 1, 0, 0, 0, 0, .null), (45, .getfield 63, 3, 10, 9, 2, 382, .null), (48, .iload_n 1, 1, 0, 0, 0, 0, .null), (49, .aaload, 1, 0, 0, 0, 0, .null), (50, .invokevirtual 218, 3, 62, 1, 0, 805, .ref 2), (53, .aload_n 0, 1, 0, 0, 0, 0, .null), (54, .getfield 19, 3, 10, 1, 2, 374, .null), (57, .aload_n 0, 1, 0, 0, 0, 0, .null), (58, .getfield 67, 3, 10, 10, 2, 383, .null), (61, .iload_n 1, 1, 0, 0, 0, 0, .null), (62, .aaload, 1, 0, 0, 0, 0, .null), (63, .invokevirtual 302, 3, 1, 1, 0, 976, .ref 3), (66, .aload_n 0, 1, 0, 0, 0, 0, .null), (67, .getfield 37, 3, 10, 3, 2, 376, .null), (70, .getfield 110, 3, 1, 5, 2, 242, .null), (73, .invokevirtual 114, 3, 21, 0, 0, 443, .ref 1), (76, .aload_n 0, 1, 0, 0, 0, 0, .null), (77, .iconst 0, 1, 0, 0, 0, 0, .int 0), (78, .invokevirtual 123, 3, 121, 1, 0, 451, .ref 2), (81, .ireturn, 1, 0, 0, 0, 0, .null)]
noncomputable def sm_o111 : List (Nat × sm_E) := [(0, .iload_n 1, 1, 0, 0, 0, 0, .null), (1, .tableswitch 235 0 17 #[87, 95, 103, 111, 119, 127, 135, 146, 151, 158, 165, 172, 179, 187, 195, 205, 215, 225], 87, 236, 0, 0, 0, .null), (88, .aload_n 0, 1, 0, 0, 0, 0, .null), (89, .getfield 12, 3, 10, 0, 2, 373, .null), (92, .getfield 107, 3, 9, 4, 0, 53, .null), (95, .ireturn, 1, 0, 0, 0, 0, .null), (96, .aload_n 0, 1, 0, 0, 0, 0, .null), (97, .getfield 12, 3, 10, 0, 2, 373, .null), (100, .invokevirtual 246, 3, 66, 0, 0, 857, .ref 1), (103, .ireturn, 1, 0, 0, 0, 0, .null), (104, .aload_n 0, 1, 0, 0, 0, 0, .null), (105, .getfield 12, 3, 10, 0, 2, 373, .null), (108, .getfield 146, 3, 9, 6, 0, 63, .null), (111, .ireturn, 1, 0, 0, 0, 0, .null), (112, .aload_n 0, 1, 0, 0, 0, 0, .null), (113, .getfield 12, 3, 10, 0, 2, 373, .null), (116, .getfield 222, 3, 9, 7, 0, 74, .null), (119, .ireturn, 1, 0, 0, 0, 0, .null), (120, .aload_n 0, 1, 0, 0, 0, 0, .null), (121, .getfield 12, 3, 10, 0, 2, 373, .null), (124, .getfield 270, 3, 9, 8, 0, 76, .null), (127, .ireturn, 1, 0, 0, 0, 0, .null), (128, .aload_n 0, 1, 0, 0, 0, 0, .null), (129, .getfield 19, 3, 10, 1, 2, 374, .null), (132, .getfield 183, 3, 0, 2, 0, 160, .null), (135, .ireturn, 1, 0, 0, 0, 0, .null), (136, .aload_n 0, 1, 0, 0, 0, 0, .null), (137, .getfield 37, 3, 10, 3, 2, 376, .null), (140, .getfield 110, 3, 1, 5, 2, 242, .null), (143, .getfield 213, 3, 4, 1, 0, 228, .null), (146, .ireturn, 1, 0, 0, 0, 0, .null), (147, .aload_n 0, 1, 0, 0, 0, 0, .null), (148, .getfield 173, 3, 10, 12, 0, 385, .null), (151, .ireturn, 1, 0, 0, 0, 0, .null), (152, .aload_n 0, 1, 0, 0, 0, 0, .null), (153, .getfield 96, 3, 10, 17, 2, 390, .null), (156, .iconst 1, 1, 0, 0, 0, 0, .int 1), (157, .iaload, 1, 0, 0, 0, 0, .null), (158, .ireturn, 1, 0, 0, 0, 0, .null), (159, .aload_n 0, 1, 0, 0, 0, 0, .null), (160, .getfield 96, 3, 10, 17, 2, 390, .null), (163, .iconst 2, 1, 0, 0, 0, 0, .int 2), (164, .iaload, 1, 0, 0, 0, 0, .null), (165, .ireturn, 1, 0, 0, 0, 0, .null), (166, .aload_n 0, 1, 0, 0, 0, 0, .null), (167, .getfield 96, 3, 10, 17, 2, 390, .null), (170, .iconst 3, 1, 0, 0, 0, 0, .int 3), (171, .iaload, 1, 0, 0, 0, 0, .null), (172, .ireturn, 1, 0, 0, 0, 0, .null), (173, .aload_n 0, 1, 0, 0, 0, 0, .null), (174, .getfield 96, 3, 10, 17, 2, 390, .null), (177, .iconst 5, 1, 0, 0, 0, 0, .int 5), (178, .iaload, 1, 0, 0, 0, 0, .null), (179, .ireturn, 1, 0, 0, 0, 0, .null), (180, .aload_n 0, 1, 0, 0, 0, 0, .null), (181, .getfield 96, 3, 10, 17, 2, 390, .null), (184, .bipush 6, 2, 0, 0, 0, 0, .int 6), (186, .iaload, 1, 0, 0, 0, 0, .null), (187, .ireturn, 1, 0, 0, 0, 0, .null), (188, .aload_n 0, 1, 0, 0, 0, 0, .null), (189, .getfield 19, 3, 10, 1, 2, 374, .null), (192, .getfield 207, 3, 0, 3, 0, 162, .null), (195, .ireturn, 1, 0, 0, 0, 0, .null), (196, .aload_n 0, 1, 0, 0, 0, 0, .null), (197, .getfield 12, 3, 10, 0, 2, 373, .null), (200, .getfield 170, 3, 9, 3, 2, 50, .null), (203, .iconst 0, 1, 0, 0, 0, 0, .int 0), (204, .iaload, 1, 0, 0, 0, 0, .null), (205, .ireturn, 1, 0, 0, 0, 0, .null), (206, .aload_n 0, 1, 0, 0, 0, 0, .null), (207, .getfield 12, 3, 10, 0, 2, 373, .null), (210, .getfield 170, 3, 9, 3, 2, 50, .null), (213, .iconst 1, 1, 0, 0, 0, 0, .int 1), (214, .iaload, 1, 0, 0, 0, 0, .null), (215, .ireturn, 1, 0, 0, 0, 0, .null), (216, .aload_n 0, 1, 0, 0, 0, 0, .null), (217, .getfield 12, 3, 10, 0, 2, 373, .null), (220, .getfield 170, 3, 9, 3, 2, 50, .null), (223, .iconst 2, 1, 0, 0, 0, 0, .int 2), (224, .iaload, 1, 0, 0, 0, 0, .null), (225, .ireturn, 1, 0, 0, 0, 0, .null), (226, .aload_n 0, 1, 0, 0, 0, 0, .null), (227, .getfield 12, 3, 10, 0, 2, 373, .null), (230, .getfield 170, 3, 9, 3, 2, 50, .null), (233, .iconst 3, 1, 0, 0, 0, 0, .int 3), (234, .iaload, 1, 0, 0, 0, 0, .null), (235, .ireturn, 1, 0, 0, 0, 0, .null), (236, .iconst (-1), 1, 0, 0, 0, 0, .int (-1)), (237, .ireturn, 1, 0, 0, 0, 0, .null)]
noncomputable def sm_o112 : List (Nat × sm_E) := [(0, .aload_n 0, 1, 0, 0, 0, 0, .null), (1, .getfield 304, 3, 10, 18, 0, 391, .null), (4, .ireturn, 1, 0, 0, 0, 0, .null)]
noncomputable def sm_o113 : List (Nat × sm_E) := [(0, .iload_n 0, 1, 0, 0, 0, 0, .null), (1, .iconst 1, 1, 0, 0, 0, 0, .int 1), (2, .if_icmp .lt 23, 3, 25, 0, 0, 0, .null), (5, .iload_n 0, 1, 0, 0, 0, 0, .null), (6, .bipush 9, 2, 0, 0, 0, 0, .int 9), (8, .if_icmp .gt 17, 3, 25, 0, 0, 0, .null), (11, .iload_n 1, 1, 0, 0, 0, 0, .null), (12, .ifCond .lt 13, 3, 25, 0, 0, 0, .null), (15, .iload_n 1, 1, 0, 0, 0, 0, .null), (16, .bipush 63, 2, 0, 0, 0, 0, .int 63), (18, .if_icmp .gt 7, 3, 25, 0, 0, 0, .null), (21, .iconst 1, 1, 0, 0, 0, 0, .int 1), (22, .goto 4, 3, 26, 0, 0, 0, .null), (25, .iconst 0, 1, 0, 0, 0, 0, .int 0), (26, .ireturn, 1, 0, 0, 1, 0, .null)]
noncomputable def sm_o114 : List (Nat × sm_E) := [(0, .iload_n 0, 1, 0, 0, 0, 0, .null), (1, .ifCond .eq 7, 3, 8, 0, 0, 0, .null), (4, .iconst 1, 1, 0, 0, 0, 0, .int 1), (5, .goto 4, 3, 9, 0, 0, 0, .null), (8, .iconst 0, 1, 0, 0, 0, 0, .int 0), (9, .ireturn, 1, 0, 0, 0, 0, .null)]
noncomputable def sm_o115 : List (Nat × sm_E) := [(0, .aload_n 0, 1, 0, 0, 0, 0, .null), (1, .getfield 12, 3, 10, 0, 2, 373, .null), (4, .iload_n 1, 1, 0, 0, 0, 0, .null), (5, .invokevirtual 126, 3, 64, 1, 0, 459, .ref 2), (8, .ifCond .eq 23, 3, 31, 0, 0, 0, .null), (11, .aload_n 0, 1, 0, 0, 0, 0, .null), (12, .getfield 12, 3, 10, 0, 2, 373, .null), (15, .iload_n 2, 1, 0, 0, 0, 0, .null), (16, .invokevirtual 126, 3, 64, 1, 0, 459, .ref 2), (19, .ifCond .eq 12, 3, 31, 0, 0, 0, .null), (22, .iload_n 1, 1, 0, 0, 0, 0, .null), (23, .iload_n 2, 1, 0, 0, 0, 0, .null), (24, .if_icmp .eq 7, 3, 31, 0, 0, 0, .null), (27, .iconst 1, 1, 0, 0, 0, 0, .int 1), (28, .goto 4, 3, 32, 0, 0, 0, .null), (31, .iconst 0, 1, 0, 0, 0, 0, .int 0), (32, .ireturn, 1, 0, 0, 1, 0, .null)]
noncomputable def sm_o116 : List (Nat × sm_E) := [(0, .bipush 24, 2, 0, 0, 0, 0, .int 24), (2, .istore_n 2, 1, 0, 0, 0, 0, .null), (3, .iload_n 2, 1, 0, 0, 0, 0, .null), (4, .ifCond .lt 45, 3, 49, 0, 0, 0, .null), (7, .aload_n 0, 1, 0, 0, 0, 0, .null), (8, .getfield 173, 3, 10, 12, 0, 385, .null), (11, .sipush 400, 3, 0, 0, 0, 0, .int 400), (14, .if_icmp .ge 35, 3, 49, 0, 0, 0, .null), (17, .aload_n 0, 1, 0, 0, 0, 0, .null), (18, .getfield 71, 3, 10, 11, 2, 384, .null), (21, .aload_n 0, 1, 0, 0, 0, 0, .null), (22, .getfield 173, 3, 10, 12, 0, 385, .null), (25, .iload_n 1, 1, 0, 0, 0, 0, .null), (26, .iload_n 2, 1, 0, 0, 0, 0, .null), (27, .iushr, 1, 0, 0, 0, 0, .null), (28, .sipush 255, 3, 0, 0, 0, 0, .int 255), (31, .iand, 1, 0, 0, 0, 0, .null), (32, .iastore, 1, 0, 0, 0, 0, .null), (33, .aload_n 0, 1, 0, 0, 0, 0, .null), (34, .dup, 1, 0, 0, 0, 0, .null), (35, .getfield 173, 3, 10, 12, 0, 385, .null), (38, .iconst 1, 1, 0, 0, 0, 0, .int 1), (39, .iadd, 1, 0, 0, 0, 0, .null), (40, .putfield 173, 3, 10, 12, 0, 385, .null), (43, .iinc 2 (-8), 3, 0, 0, 0, 0, .int (-8)), (46, .goto (-43), 3, 3, 0, 0, 0, .null), (49, .return_, 1, 0, 0, 0, 0, .null)]
noncomputable def sm_o117 : List (Nat × sm_E) := [(0, .iload_n 2, 1, 0, 0, 0, 0, .null), (1, .istore 4, 2, 0, 0, 0, 0, .null), (3, .iconst 0, 1, 0, 0, 0, 0, .int 0), (4, .istore 5, 2, 0, 0, 0, 0, .null), (6, .iconst 0, 1, 0, 0, 0, 0, .int 0), (7, .istore 6, 2, 0, 0, 0, 0, .null), (9, .iload 6, 2, 0, 0, 0, 0, .null), (11, .iload_n 3, 1, 0, 0, 0, 0, .null), (12, .if_icmp .ge 109, 3, 121, 0, 0, 0, .null), (15, .aload_n 1, 1, 0, 0, 0, 0, .null), (16, .getfield 107, 3, 9, 4, 0, 53, .null), (19, .ifCond .le 102, 3, 121, 0, 0, 0, .null), (22, .aload_n 0, 1, 0, 0, 0, 0, .null), (23, .getfield 28, 3, 10, 2, 2, 375, .null), (26, .iconst 3, 1, 0, 0, 0, 0, .int 3), (27, .aload_n 1, 1, 0, 0, 0, 0, .null), (28, .iconst (-1), 1, 0, 0, 0, 0, .int (-1)), (29, .invokevirtual 157, 3, 28, 3, 0, 513, .ref 4), (32, .ifCond .eq 89, 3, 121, 0, 0, 0, .null), (35, .iload 4, 2, 0, 0, 0, 0, .null), (37, .invokestatic 307, 3, 118, 1, 0, 960, .ref 1), (40, .istore 4, 2, 0, 0, 0, 0, .null), (42, .iload 4, 2, 0, 0, 0, 0, .null), (44, .aload_n 1, 1, 0, 0, 0, 0, .null), (45, .getfield 107, 3, 9, 4, 0, 53, .null), (48, .irem, 1, 0, 0, 0, 0, .null), (49, .istore 7, 2, 0, 0, 0, 0, .null), (51, .iload 4, 2, 0, 0, 0, 0, .null), (53, .invokestatic 307, 3, 118, 1, 0, 960, .ref 1), (56, .istore 4, 2, 0, 0, 0, 0, .null), (58, .iload 4, 2, 0, 0, 0, 0, .null), (60, .bipush 8, 2, 0, 0, 0, 0, .int 8), (62, .irem, 1, 0, 0, 0, 0, .null), (63, .invokestatic 310, 3, 119, 1, 0, 964, .ref 1), (66, .istore 8, 2, 0, 0, 0, 0, .null), (68, .iload 8, 2, 0, 0, 0, 0, .null), (70, .iconst (-1), 1, 0, 0, 0, 0, .int (-1)), (71, .if_icmp .eq 31, 3, 102, 0, 0, 0, .null), (74, .aload_n 0, 1, 0, 0, 0, 0, .null), (75, .getfield 28, 3, 10, 2, 2, 375, .null), (78, .iload 8, 2, 0, 0, 0, 0, .null), (80, .aload_n 1, 1, 0, 0, 0, 0, .null), (81, .iload 7, 2, 0, 0, 0, 0, .null), (83, .invokevirtual 157, 3, 28, 3, 0, 513, .ref 4), (86, .ifCond .eq 16, 3, 102, 0, 0, 0, .null), (89, .aload_n 0, 1, 0, 0, 0, 0, .null), (90, .getfield 28, 3, 10, 2, 2, 375, .null), (93, .iload 8, 2, 0, 0, 0, 0, .null), (95, .aload_n 1, 1, 0, 0, 0, 0, .null), (96, .iload 7, 2, 0, 0, 0, 0, .null), (98, .invokevirtual 313, 3, 29, 3, 0, 967, .ref 5), (101, .pop, 1, 0, 0, 0, 0, .null), (102, .iload 5, 2, 0, 0, 0, 0, .null), (104, .aload_n 0, 1, 0, 0, 0, 0, .null), (105, .getfield 28, 3, 10, 2, 2, 375, .null), (108, .aload_n 1, 1, 0, 0, 0, 0, .null), (109, .invokevirtual 229, 3, 32, 1, 0, 810, .ref 6), (112, .iadd, 1, 0, 0, 0, 0, .null), (113, .istore 5, 2, 0, 0, 0, 0, .null), (115, .iinc 6 1, 3, 0, 0, 0, 0, .int 1), (118, .goto (-109), 3, 9, 0, 0, 0, .null), (121, .iload 5, 2, 0, 0, 0, 0, .null), (123, .ireturn, 1, 0, 0, 0, 0, .null)]
noncomputable def sm_o118 : List (Nat × sm_E) := [(0, .iload_n 0, 1, 0, 0, 0, 0, .null), (1, .sipush 1103, 3, 0, 0, 0, 0, .int 1103), (4, .imul, 1, 0, 0, 0, 0, .null), (5, .sipush 12345, 3, 0, 0, 0, 0, .int 12345), (8, .iadd, 1, 0, 0, 0, 0, .null), (9, .ldc_w 317, 3, 0, 0, 0, 963, .int 1000003), (12, .irem, 1, 0, 0, 0, 0, .null), (13, .ireturn, 1, 0, 0, 0, 0, .null)]
noncomputable def sm_o119 : List (Nat × sm_E) := [(0, .iload_n 0, 1, 0, 0, 0, 0, .null), (1, .tableswitch 33 5 7 #[27, 29, 31], 27, 34, 0, 0, 0, .null), (28, .iconst 1, 1, 0, 0, 0, 0, .int 1), (29, .ireturn, 1, 0, 0, 0, 0, .null), (30, .iconst 2, 1, 0, 0, 0, 0, .int 2), (31, .ireturn, 1, 0, 0, 0, 0, .null), (32, .iconst (-1), 1, 0, 0, 0, 0, .int (-1)), (33, .ireturn, 1, 0, 0, 0, 0, .null), (34, .iconst 0, 1, 0, 0, 0, 0, .int 0), (35, .ireturn, 1, 0, 0, 0, 0, .null)]
noncomputable def sm_o120 : List (Nat × sm_E) := [(0, .iload_n 1, 1, 0, 0, 0, 0, .null), (1, .ifCond .ge 11, 3, 12, 0, 0, 0, .null), (4, .aload_n 0, 1, 0, 0, 0, 0, .null), (5, .iload_n 1, 1, 0, 0, 0, 0, .null), (6, .invokevirtual 103, 3, 122, 1, 0, 439, .ref 2), (9, .goto 8, 3, 17, 0, 0, 0, .null), (12, .aload_n 0, 1, 0, 0, 0, 0, .null), (13, .iload_n 1, 1, 0, 0, 0, 0, .null), (14, .invokevirtual 123, 3, 121, 1, 0, 451, .ref 2), (17, .ireturn, 1, 0, 0, 0, 0, .null)]
noncomputable def sm_o121 : List (Nat × sm_E) := [(0, .aload_n 0, 1, 0, 0, 0, 0, .null), (1, .iconst 0, 1, 0, 0, 0, 0, .int 0), (2, .putfield 304, 3, 10, 18, 0, 391, .null), (5, .aload_n 0, 1, 0, 0, 0, 0, .null), (6, .getfield 46, 3, 10, 4, 2, 377, .null), (9, .iconst 0, 1, 0, 0, 0, 0, .int 0), (10, .putfield 318, 3, 8, 6, 0, 289, .null), (13, .aload_n 0, 1, 0, 0, 0, 0, .null), (14, .getfield 53, 3, 10, 5, 2, 378, .null), (17, .iconst 0, 1, 0, 0, 0, 0, .int 0), (18, .putfield 321, 3, 3, 2, 3, 314, .null), (21, .aload_n 0, 1, 0, 0, 0, 0, .null), (22, .getfield 53, 3, 10, 5, 2, 378, .null), (25, .iconst 0, 1, 0, 0, 0, 0, .int 0), (26, .putfield 324, 3, 3, 6, 3, 321, .null), (29, .iload_n 1, 1, 0, 0, 0, 0, .null), (30, .ireturn, 1, 0, 0, 0, 0, .null)]
noncomputable def sm_o122 : List (Nat × sm_E) := [(0, .aload_n 0, 1, 0, 0, 0, 0, .null), (1, .iload_n 1, 1, 0, 0, 0, 0, .null), (2, .putfield 304, 3, 10, 18, 0, 391, .null), (5, .iload_n 1, 1, 0, 0, 0, 0, .null), (6, .ineg, 1, 0, 0, 0, 0, .null), (7, .ifCond .lt 24, 3, 31, 0, 0, 0, .null), (10, .iload_n 1, 1, 0, 0, 0, 0, .null), (11, .ineg, 1, 0, 0, 0, 0, .null), (12, .aload_n 0, 1, 0, 0, 0, 0, .null), (13, .getfield 96, 3, 10, 17, 2, 390, .null), (16, .arraylength, 1, 0, 0, 0, 0, .null), (17, .if_icmp .ge 14, 3, 31, 0, 0, 0, .null), (20, .aload_n 0, 1, 0, 0, 0, 0, .null), (21, .getfield 96, 3, 10, 17, 2, 390, .null), (24, .iload_n 1, 1, 0, 0, 0, 0, .null), (25, .ineg, 1, 0, 0, 0, 0, .null), (26, .dup2, 1, 0, 0, 0, 0, .null), (27, .iaload, 1, 0, 0, 0, 0, .null), (28, .iconst 1, 1, 0, 0, 0, 0, .int 1), (29, .iadd, 1, 0, 0, 0, 0, .null), (30, .iastore, 1, 0, 0, 0, 0, .null), (31, .iload_n 1, 1, 0, 0, 0, 0, .null), (32, .ireturn, 1, 0, 0, 0, 0, .null)]
noncomputable def sm_o123 : List (Nat × sm_E) := [(0, .aload_n 0, 1, 0, 0, 0, 0, .null), (1, .invokespecial 1, 3, 0, 0, 1, 1002, .null), (4, .aload_n 0, 1, 0, 0, 0, 0, .null), (5, .bipush 7, 2, 0, 0, 0, 0, .int 7), (7, .newarray .int, 2, 0, 0, 0, 0, .null), (9, .putfield 7, 3, 11, 2, 6, 1025, .null), (12, .aload_n 0, 1, 0, 0, 0, 0, .null), (13, .sipush 5450, 3, 0, 0, 0, 0, .int 5450), (16, .newarray .int, 2, 0, 0, 0, 0, .null), (18, .putfield 13, 3, 11, 3, 6, 1026, .null), (21, .aload_n 0, 1, 0, 0, 0, 0, .null), (22, .sipush 10900, 3, 0, 0, 0, 0, .int 10900), (25, .newarray .int, 2, 0, 0, 0, 0, .null), (27, .putfield 16, 3, 11, 4, 6, 1027, .null), (30, .aload_n 0, 1, 0, 0, 0, 0, .null), (31, .iconst 2, 1, 0, 0, 0, 0, .int 2), (32, .newarray .boolean, 2, 2, 0, 0, 0, .null), (34, .putfield 19, 3, 11, 5, 6, 1028, .null), (37, .aload_n 0, 1, 0, 0, 0, 0, .null), (38, .sipush 360, 3, 0, 0, 0, 0, .int 360), (41, .newarray .int, 2, 0, 0, 0, 0, .null), (43, .putfield 23, 3, 11, 6, 6, 1029, .null), (46, .aload_n 0, 1, 0, 0, 0, 0, .null), (47, .bipush 16, 2, 0, 0, 0, 0, .int 16), (49, .newarray .int, 2, 0, 0, 0, 0, .null), (51, .putfield 26, 3, 11, 7, 6, 1030, .null), (54, .aload_n 0, 1, 0, 0, 0, 0, .null), (55, .sipush 320, 3, 0, 0, 0, 0, .int 320), (58, .newarray .int, 2, 0, 0, 0, 0, .null), (60, .putfield 29, 3, 11, 9, 6, 1032, .null), (63, .aload_n 0, 1, 0, 0, 0, 0, .null), (64, .bipush 16, 2, 0, 0, 0, 0, .int 16), (66, .newarray .int, 2, 0, 0, 0, 0, .null), (68, .putfield 32, 3, 11, 10, 6, 1033, .null), (71, .aload_n 0, 1, 0, 0, 0, 0, .null), (72, .sipush 400, 3, 0, 0, 0, 0, .int 400), (75, .newarray .int, 2, 0, 0, 0, 0, .null), (77, .putfield 35, 3, 11, 12, 6, 1035, .null), (80, .aload_n 0, 1, 0, 0, 0, 0, .null), (81, .iconst (-1), 1, 0, 0, 0, 0, .int (-1)), (82, .putfield 38, 3, 11, 18, 0, 1041, .null), (85, .aload_n 0, 1, 0, 0, 0, 0, .null), (86, .bipush 96, 2, 0, 0, 0, 0, .int 96), (88, .newarray .int, 2, 0, 0, 0, 0, .null), (90, .putfield 42, 3, 11, 22, 6, 1045, .null), (93, .aload_n 0, 1, 0, 0, 0, 0, .null), (94, .sipush 400, 3, 0, 0, 0, 0, .int 400), (97, .newarray .int, 2, 0, 0, 0, 0, .null), (99, .putfield 45, 3, 11, 24, 6, 1047, .null), (102, .aload_n 0, 1, 0, 0, 0, 0, .null), (103, .sipush 400, 3, 0, 0, 0, 0, .int 400), (106, .newarray .int, 2, 0, 0, 0, 0, .null), (108, .putfield 48, 3, 11, 25, 6, 1048, .null), (111, .aload_n 0, 1, 0, 0, 0, 0, .null), (112, .sipush 400, 3, 0, 0, 0, 0, .int 400), (115, .newarray .int, 2, 0, 0, 0, 0, .null), (117, .putfield 51, 3, 11, 27, 6, 1050, .null), (120, .aload_n 0, 1, 0, 0, 0, 0, .null), (121, .sipush 400, 3, 0, 0, 0, 0, .int 400), (124, .newarray .int, 2, 0, 0, 0, 0, .null), (126, .putfield 54, 3, 11, 28, 6, 1051, .null), (129, .aload_n 0, 1, 0, 0, 0, 0, .null), (130, .bipush 8, 2, 0, 0, 0, 0, .int 8), (132, .newarray .long, 2, 1, 0, 0, 0, .null), (134, .dup, 1, 0, 0, 0, 0, .null), (135, .iconst 0, 1, 0, 0, 0, 0, .int 0), (136, .ldc2_w 57, 3, 0, 0, 0, 1003, .long 13358), (139, .lastore, 1, 0, 0, 0, 0, .null), (140, .dup, 1, 0, 0, 0, 0, .null), (141, .iconst 1, 1, 0, 0, 0, 0, .int 1), (142, .ldc2_w 59, 3, 0, 0, 0, 1004, .long 277892), (145, .lastore, 1, 0, 0, 0, 0, .null), (146, .dup, 1, 0, 0, 0, 0, .null), (147, .iconst 2, 1, 0, 0, 0, 0, .int 2), (148, .ldc2_w 61, 3, 0, 0, 0, 1005, .long 21285028), (151, .lastore, 1, 0, 0, 0, 0, .null), (152, .dup, 1, 0, 0, 0, 0, .null), (153, .iconst 3, 1, 0, 0, 0, 0, .int 3), (154, .ldc2_w 63, 3, 0, 0, 0, 1006, .long 267652), (157, .lastore, 1, 0, 0, 0, 0, .null), (158, .dup, 1, 0, 0, 0, 0, .null), (159, .iconst 4, 1, 0, 0, 0, 0, .int 4), (160, .ldc2_w 65, 3, 0, 0, 0, 1007, .long 16392370), (163, .lastore, 1, 0, 0, 0, 0, .null), (164, .dup, 1, 0, 0, 0, 0, .null), (165, .iconst 5, 1, 0, 0, 0, 0, .int 5), (166, .ldc2_w 67, 3, 0, 0, 0, 1008, .long 719725925), (169, .lastore, 1, 0, 0, 0, 0, .null), (170, .dup, 1, 0, 0, 0, 0, .null), (171, .bipush 6, 2, 0, 0, 0, 0, .int 6), (173, .ldc2_w 69, 3, 0, 0, 0, 1009, .long 278194), (176, .lastore, 1, 0, 0, 0, 0, .null), (177, .dup, 1, 0, 0, 0, 0, .null), (178, .bipush 7, 2, 0, 0, 0, 0, .int 7), (180, .ldc2_w 71, 3, 0, 0, 0, 1010, .long 24865546418), (183, .lastore, 1, 0, 0, 0, 0, .null), (184, .putfield 73, 3, 11, 31, 6, 1054, .null), (187, .aload_n 0, 1, 0, 0, 0, 0, .null), (188, .bipush 7, 2, 0, 0, 0, 0, .int 7), (190, .newarray .long, 2, 1, 0, 0, 0, .null), (192, .dup, 1, 0, 0, 0, 0, .null), (193, .iconst 0, 1, 0, 0, 0, 0, .int 0), (194, .ldc2_w 69, 3, 0, 0, 0, 1009, .long 278194), (197, .lastore, 1, 0, 0, 0, 0, .null), (198, .dup, 1, 0, 0, 0, 0, .null), (199, .iconst 1, 1, 0, 0, 0, 0, .int 1), (200, .ldc2_w 77, 3, 0, 0, 0, 1011, .long 146885), (203, .lastore, 1, 0, 0, 0, 0, .null), (204, .dup, 1, 0, 0, 0, 0, .null), (205, .iconst 2, 1, 0, 0, 0, 0, .int 2), (206, .ldc2_w 79, 3, 0, 0, 0, 1012, .long 404362868), (209, .lastore, 1, 0, 0, 0, 0, .null), (210, .dup, 1, 0, 0, 0, 0, .null), (211, .iconst 3, 1, 0, 0, 0, 0, .int 3), (212, .ldc2_w 81, 3, 0, 0, 0, 1013, .long 688), (215, .lastore, 1, 0, 0, 0, 0, .null), (216, .dup, 1, 0, 0, 0, 0, .null), (217, .iconst 4, 1, 0, 0, 0, 0, .int 4), (218, .ldc2_w 63, 3, 0, 0, 0, 1006, .long 267652), (221, .lastore, 1, 0, 0, 0, 0, .null), (222, .dup, 1, 0, 0, 0, 0, .null), (223, .iconst 5, 1, 0, 0, 0, 0, .int 5), (224, .ldc2_w 83, 3, 0, 0, 0, 1014, .long 6452), (227, .lastore, 1, 0, 0, 0, 0, .null), (228, .dup, 1, 0, 0, 0, 0, .null), (229, .bipush 6, 2, 0, 0, 0, 0, .int 6), (231, .ldc2_w 61, 3, 0, 0, 0, 1005, .long 21285028), (234, .lastore, 1, 0, 0, 0, 0, .null), (235, .putfield 85, 3, 11, 32, 6, 1055, .null), (238, .aload_n 0, 1, 0, 0, 0, 0, .null), (239, .iconst 4, 1, 0, 0, 0, 0, .int 4), (240, .newarray .long, 2, 1, 0, 0, 0, .null), (242, .dup, 1, 0, 0, 0, 0, .null), (243, .iconst 0, 1, 0, 0, 0, 0, .int 0), (244, .ldc2_w 88, 3, 0, 0, 0, 1015, .long 21285043), (247, .lastore, 1, 0, 0, 0, 0, .null), (248, .dup, 1, 0, 0, 0, 0, .null), (249, .iconst 1, 1, 0, 0, 0, 0, .int 1), (250, .ldc2_w 90, 3, 0, 0, 0, 1016, .long 19058323), (253, .lastore, 1, 0, 0, 0, 0, .null), (254, .dup, 1, 0, 0, 0, 0, .null), (255, .iconst 2, 1, 0, 0, 0, 0, .int 2), (256, .ldc2_w 92, 3, 0, 0, 0, 1017, .long 15556971699), (259, .lastore, 1, 0, 0, 0, 0, .null), (260, .dup, 1, 0, 0, 0, 0, .null), (261, .iconst 3, 1, 0, 0, 0, 0, .int 3), (262, .ldc2_w 94, 3, 0, 0, 0, 1018, .long 67155), (265, .lastore, 1, 0, 0, 0, 0, .null), (266, .putfield 96, 3, 11, 33, 6, 1056, .null), (269, .aload_n 0, 1, 0, 0, 0, 0, .null), (270, .bipush 13, 2, 0, 0, 0, 0, .int 13), (272, .newarray .long, 2, 1, 0, 0, 0, .null), (274, .putfield 99, 3, 11, 35, 6, 1058, .null), (277, .aload_n 0, 1, 0, 0, 0, 0, .null), (278, .bipush 13, 2, 0, 0, 0, 0, .int 13), (280, .newarray .long, 2, 1, 0, 0, 0, .null), (282, .putfield 102, 3, 11, 36, 6, 1059, .null), (285, .aload_n 0, 1, 0, 0, 0, 0, .null), (286, .sipush 400, 3, 0, 0, 0, 0, .int 400), (289, .newarray .long, 2, 1, 0, 0, 0, .null), (291, .putfield 105, 3, 11, 37, 6, 1060, .null), (294, .aload_n 0, 1, 0, 0, 0, 0, .null), (295, .bipush 7, 2, 0, 0, 0, 0, .int 7), (297, .newarray .int, 2, 0, 0, 0, 0, .null), (299, .putfield 108, 3, 11, 41, 6, 1064, .null), (302, .aload_n 0, 1, 0, 0, 0, 0, .null), (303, .bipush 120, 2, 0, 0, 0, 0, .int 120), (305, .newarray .int, 2, 0, 0, 0, 0, .null), (307, .putfield 111, 3, 11, 42, 6, 1065, .null), (310, .aload_n 0, 1, 0, 0, 0, 0, .null), (311, .bipush 6, 2, 0, 0, 0, 0, .int 6), (313, .newarray .int, 2, 0, 0, 0, 0, .null), (315, .putfield 114, 3, 11, 43, 6, 1066, .null), (318, .aload_n 0, 1, 0, 0, 0, 0, .null), (319, .bipush 6, 2, 0, 0, 0, 0, .int 6), (321, .newarray .int, 2, 0, 0, 0, 0, .null), (323, .putfield 117, 3, 11, 44, 6, 1067, .null), (326, .aload_n 0, 1, 0, 0, 0, 0, .null), (327, .bipush 6, 2, 0, 0, 0, 0, .int 6), (329, .newarray .int, 2, 0, 0, 0, 0, .null), (331, .putfield 120, 3, 11, 45, 6, 1068, .null), (334, .aload_n 0, 1, 0, 0, 0, 0, .null), (335, .bipush 49, 2, 0, 0, 0, 0, .int 49), (337, .newarray .int, 2, 0, 0, 0, 0, .null), (339, .putfield 123, 3, 11, 47, 6, 1070, .null), (342, .aload_n 0, 1, 0, 0, 0, 0, .null), (343, .sipush 896, 3, 0, 0, 0, 0, .int 896), (346, .newarray .int, 2, 0, 0, 0, 0, .null), (348, .putfield 126, 3, 11, 48, 6, 1071, .null), (351, .aload_n 0, 1, 0, 0, 0, 0, .null), (352, .bipush 7, 2, 0, 0, 0, 0, .int 7), (354, .newarray .int, 2, 0, 0, 0, 0, .null), (356, .putfield 129, 3, 11, 49, 6, 1072, .null), (359, .aload_n 0, 1, 0, 0, 0, 0, .null), (360, .bipush 21, 2, 0, 0, 0, 0, .int 21), (362, .newarray .long, 2, 1, 0, 0, 0, .null), (364, .putfield 132, 3, 11, 50, 6, 1073, .null), (367, .aload_n 0, 1, 0, 0, 0, 0, .null), (368, .iconst 4, 1, 0, 0, 0, 0, .int 4), (369, .newarray .long, 2, 1, 0, 0, 0, .null), (371, .dup, 1, 0, 0, 0, 0, .null), (372, .iconst 0, 1, 0, 0, 0, 0, .int 0), (373, .ldc2_w 135, 3, 0, 0, 0, 1019, .long 19508008645), (376, .lastore, 1, 0, 0, 0, 0, .null), (377, .dup, 1, 0, 0, 0, 0, .null), (378, .iconst 1, 1, 0, 0, 0, 0, .int 1), (379, .ldc2_w 137, 3, 0, 0, 0, 1020, .long 652384069), (382, .lastore, 1, 0, 0, 0, 0, .null), (383, .dup, 1, 0, 0, 0, 0, .null), (384, .iconst 2, 1, 0, 0, 0, 0, .int 2), (385, .ldc2_w 139, 3, 0, 0, 0, 1021, .long 538513902), (388, .lastore, 1, 0, 0, 0, 0, .null), (389, .dup, 1, 0, 0, 0, 0, .null), (390, .iconst 3, 1, 0, 0, 0, 0, .int 3), (391, .ldc2_w 141, 3, 0, 0, 0, 1022, .long 525939), (394, .lastore, 1, 0, 0, 0, 0, .null), (395, .putfield 143, 3, 11, 51, 6, 1074, .null), (398, .aload_n 0, 1, 0, 0, 0, 0, .null), (399, .bipush 96, 2, 0, 0, 0, 0, .int 96), (401, .newarray .int, 2, 0, 0, 0, 0, .null), (403, .putfield 146, 3, 11, 52, 6, 1075, .null), (406, .aload_n 0, 1, 0, 0, 0, 0, .null), (407, .iconst (-1), 1, 0, 0, 0, 0, .int (-1)), (408, .putfield 149, 3, 11, 55, 0, 1078, .null), (411, .aload_n 0, 1, 0, 0, 0, 0, .null), (412, .bipush 20, 2, 0, 0, 0, 0, .int 20), (414, .newarray .int, 2, 0, 0, 0, 0, .null), (416, .putfield 152, 3, 11, 58, 6, 1081, .null), (419, .aload_n 0, 1, 0, 0, 0, 0, .null), (420, .iconst (-1), 1, 0, 0, 0, 0, .int (-1)), (421, .putfield 155, 3, 11, 59, 0, 1082, .null), (424, .aload_n 0, 1, 0, 0, 0, 0, .null), (425, .getfield 13, 3, 11, 3, 2, 1026, .null), (428, .iconst 3, 1, 0, 0, 0, 0, .int 3), (429, .iconst (-1), 1, 0, 0, 0, 0, .int (-1)), (430, .iastore, 1, 0, 0, 0, 0, .null), (431, .aload_n 0, 1, 0, 0, 0, 0, .null), (432, .getfield 13, 3, 11, 3, 2, 1026, .null), (435, .iconst 5, 1, 0, 0, 0, 0, .int 5), (436, .iconst 1, 1, 0, 0, 0, 0, .int 1), (437, .iastore, 1, 0, 0, 0, 0, .null), (438, .aload_n 0, 1, 0, 0, 0, 0, .null), (439, .getfield 13, 3, 11, 3, 2, 1026, .null), (442, .bipush 7, 2, 0, 0, 0, 0, .int 7), (444, .iconst 2, 1, 0, 0, 0, 0, .int 2), (445, .iastore, 1, 0, 0, 0, 0, .null), (446, .aload_n 0, 1, 0, 0, 0, 0, .null), (447, .getfield 13, 3, 11, 3, 2, 1026, .null), (450, .bipush 8, 2, 0, 0, 0, 0, .int 8), (452, .iconst (-1), 1, 0, 0, 0, 0, .int (-1)), (453, .iastore, 1, 0, 0, 0, 0, .null), (454, .return_, 1, 0, 0, 0, 0, .null)]
noncomputable def sm_o124 : List (Nat × sm_E) := [(0, .lload_n 0, 1, 0, 0, 0, 0, .null), (1, .lload_n 2, 1, 0, 0, 0, 0, .null), (2, .lcmp, 1, 0, 0, 0, 0, .null), (3, .ifCond .lt 14, 3, 17, 0, 0, 0, .null), (6, .lload_n 0, 1, 0, 0, 0, 0, .null), (7, .lload 4, 2, 0, 0, 0, 0, .null), (9, .lcmp, 1, 0, 0, 0, 0, .null), (10, .ifCond .gt 7, 3, 17, 0, 0, 0, .null), (13, .iconst 1, 1, 0, 0, 0, 0, .int 1), (14, .goto 4, 3, 18, 0, 0, 0, .null), (17, .iconst 0, 1, 0, 0, 0, 0, .int 0), (18, .ireturn, 1, 0, 0, 1, 0, .null)]
noncomputable def sm_o125 : List (Nat × sm_E) := [(0, .iload_n 0, 1, 0, 0, 0, 0, .null), (1, .iload_n 1, 1, 0, 0, 0, 0, .null), (2, .ishr, 1, 0, 0, 0, 0, .null), (3, .iconst 1, 1, 0, 0, 0, 0, .int 1), (4, .iand, 1, 0, 0, 0, 0, .null), (5, .iconst 1, 1, 0, 0, 0, 0, .int 1), (6, .if_icmp .ne 7, 3, 13, 0, 0, 0, .null), (9, .iconst 1, 1, 0, 0, 0, 0, .int 1), (10, .goto 4, 3, 14, 0, 0, 0, .null), (13, .iconst 0, 1, 0, 0, 0, 0, .int 0), (14, .ireturn, 1, 0, 0, 1, 0, .null)]
noncomputable def sm_o126 : List (Nat × sm_E) := [(0, .lload_n 0, 1, 0, 0, 0, 0, .null), (1, .iload_n 2, 1, 0, 0, 0, 0, .null), (2, .i2l, 1, 0, 0, 0, 0, .null), (3, .lcmp, 1, 0, 0, 0, 0, .null), (4, .ifCond .ge 7, 3, 11, 0, 0, 0, .null), (7, .iload_n 2, 1, 0, 0, 0, 0, .null), (8, .goto 16, 3, 24, 0, 0, 0, .null), (11, .lload_n 0, 1, 0, 0, 0, 0, .null), (12, .iload_n 3, 1, 0, 0, 0, 0, .null), (13, .i2l, 1, 0, 0, 0, 0, .null), (14, .lcmp, 1, 0, 0, 0, 0, .null), (15, .ifCond .le 7, 3, 22, 0, 0, 0, .null), (18, .iload_n 3, 1, 0, 0, 0, 0, .null), (19, .goto 5, 3, 24, 0, 0, 0, .null), (22, .lload_n 0, 1, 0, 0, 0, 0, .null), (23, .l2i, 1, 0, 0, 0, 0, .null), (24, .ireturn, 1, 0, 0, 0, 0, .null)]
noncomputable def sm_o127 : List (Nat × sm_E) := [(0, .iconst 0, 1, 0, 0, 0, 0, .int 0), (1, .istore_n 1, 1, 0, 0, 0, 0, .null), (2, .iconst 0, 1, 0, 0, 0, 0, .int 0), (3, .istore_n 2, 1, 0, 0, 0, 0, .null), (4, .iload_n 2, 1, 0, 0, 0, 0, .null), (5, .bipush 7, 2, 0, 0, 0, 0, .int 7), (7, .if_icmp .ge 17, 3, 24, 0, 0, 0, .null), (10, .iload_n 1, 1, 0, 0, 0, 0, .null), (11, .iload_n 0, 1, 0, 0, 0, 0, .null), (12, .iload_n 2, 1, 0, 0, 0, 0, .null), (13, .ishr, 1, 0, 0, 0, 0, .null), (14, .iconst 1, 1, 0, 0, 0, 0, .int 1), (15, .iand, 1, 0, 0, 0, 0, .null), (16, .iadd, 1, 0, 0, 0, 0, .null), (17, .istore_n 1, 1, 0, 0, 0, 0, .null), (18, .iinc 2 1, 3, 0, 0, 0, 0, .int 1), (21, .goto (-17), 3, 4, 0, 0, 0, .null), (24, .iload_n 1, 1, 0, 0, 0, 0, .null), (25, .ireturn, 1, 0, 0, 0, 0, .null)]
noncomputable def sm_o128 : List (Nat × sm_E) := [(0, .aload_n 0, 1, 0, 0, 0, 0, .null), (1, .iload_n 1, 1, 0, 0, 0, 0, .null), (2, .ifCond .ge 7, 3, 9, 0, 0, 0, .null), (5, .iload_n 1, 1, 0, 0, 0, 0, .null), (6, .goto 4, 3, 10, 0, 0, 0, .null), (9, .iconst 0, 1, 0, 0, 0, 0, .int 0), (10, .putfield 161, 3, 11, 1, 0, 1024, .null), (13, .iload_n 1, 1, 0, 0, 0, 0, .null), (14, .ifCond .ge 14, 3, 28, 0, 0, 0, .null), (17, .aload_n 0, 1, 0, 0, 0, 0, .null), (18, .getfield 7, 3, 11, 2, 2, 1025, .null), (21, .iload_n 1, 1, 0, 0, 0, 0, .null), (22, .ineg, 1, 0, 0, 0, 0, .null), (23, .dup2, 1, 0, 0, 0, 0, .null), (24, .iaload, 1, 0, 0, 0, 0, .null), (25, .iconst 1, 1, 0, 0, 0, 0, .int 1), (26, .iadd, 1, 0, 0, 0, 0, .null), (27, .iastore, 1, 0, 0, 0, 0, .null), (28, .iload_n 1, 1, 0, 0, 0, 0, .null), (29, .ireturn, 1, 0, 0, 0, 0, .null)]
noncomputable def sm_o129 : List (Nat × sm_E) := [(0, .aload_n 0, 1, 0, 0, 0, 0, .null), (1, .getfield 13, 3, 11, 3, 2, 1026, .null), (4, .iload_n 1, 1, 0, 0, 0, 0, .null), (5, .iaload, 1, 0, 0, 0, 0, .null), (6, .istore_n 3, 1, 0, 0, 0, 0, .null), (7, .aload_n 0, 1, 0, 0, 0, 0, .null), (8, .getfield 13, 3, 11, 3, 2, 1026, .null), (11, .iload_n 1, 1, 0, 0, 0, 0, .null), (12, .iload_n 2, 1, 0, 0, 0, 0, .null), (13, .iastore, 1, 0, 0, 0, 0, .null), (14, .aload_n 0, 1, 0, 0, 0, 0, .null), (15, .iconst 0, 1, 0, 0, 0, 0, .int 0), (16, .putfield 161, 3, 11, 1, 0, 1024, .null), (19, .iload_n 3, 1, 0, 0, 0, 0, .null), (20, .ireturn, 1, 0, 0, 0, 0, .null)]
noncomputable def sm_o130 : List (Nat × sm_E) := [(0, .aload_n 0, 1, 0, 0, 0, 0, .null), (1, .iload_n 1, 1, 0, 0, 0, 0, .null), (2, .ifCond .ge 10, 3, 12, 0, 0, 0, .null), (5, .aload_n 0, 1, 0, 0, 0, 0, .null), (6, .getfield 164, 3, 11, 8, 0, 1031, .null), (9, .goto 4, 3, 13, 0, 0, 0, .null), (12, .iconst 0, 1, 0, 0, 0, 0, .int 0), (13, .putfield 164, 3, 11, 8, 0, 1031, .null), (16, .aload_n 0, 1, 0, 0, 0, 0, .null), (17, .iload_n 1, 1, 0, 0, 0, 0, .null), (18, .invokevirtual 167, 3, 128, 1, 0, 1209, .ref 2), (21, .ireturn, 1, 0, 0, 0, 0, .null)]
noncomputable def sm_o131 : List (Nat × sm_E) := [(0, .iconst 0, 1, 0, 0, 0, 0, .int 0), (1, .istore_n 2, 1, 0, 0, 0, 0, .null), (2, .iload_n 2, 1, 0, 0, 0, 0, .null), (3, .bipush 20, 2, 0, 0, 0, 0, .int 20), (5, .if_icmp .ge 28, 3, 33, 0, 0, 0, .null), (8, .aload_n 0, 1, 0, 0, 0, 0, .null), (9, .getfield 23, 3, 11, 6, 2, 1029, .null), (12, .bipush 20, 2, 0, 0, 0, 0, .int 20), (14, .iload_n 1, 1, 0, 0, 0, 0, .null), (15, .imul, 1, 0, 0, 0, 0, .null), (16, .iload_n 2, 1, 0, 0, 0, 0, .null), (17, .iadd, 1, 0, 0, 0, 0, .null), (18, .aload_n 0, 1, 0, 0, 0, 0, .null), (19, .getfield 13, 3, 11, 3, 2, 1026, .null), (22, .iconst 4, 1, 0, 0, 0, 0, .int 4), (23, .iload_n 2, 1, 0, 0, 0, 0, .null), (24, .iadd, 1, 0, 0, 0, 0, .null), (25, .iaload, 1, 0, 0, 0, 0, .null), (26, .iastore, 1, 0, 0, 0, 0, .null), (27, .iinc 2 1, 3, 0, 0, 0, 0, .int 1), (30, .goto (-28), 3, 2, 0, 0, 0, .null), (33, .return_, 1, 0, 0, 0, 0, .null)]
noncomputable def sm_o132 : List (Nat × sm_E) := [(0, .iconst 0, 1, 0, 0, 0, 0, .int 0), (1, .istore_n 2, 1, 0, 0, 0, 0, .null), (2, .iload_n 2, 1, 0, 0, 0, 0, .null), (3, .bipush 20, 2, 0, 0, 0, 0, .int 20), (5, .if_icmp .ge 28, 3, 33, 0, 0, 0, .null), (8, .aload_n 0, 1, 0, 0, 0, 0, .null), (9, .getfield 13, 3, 11, 3, 2, 1026, .null), (12, .iconst 4, 1, 0, 0, 0, 0, .int 4), (13, .iload_n 2, 1, 0, 0, 0, 0, .null), (14, .iadd, 1, 0, 0, 0, 0, .null), (15, .aload_n 0, 1, 0, 0, 0, 0, .null), (16, .getfield 23, 3, 11, 6, 2, 1029, .null), (19, .bipush 20, 2, 0, 0, 0, 0, .int 20), (21, .iload_n 1, 1, 0, 0, 0, 0, .null), (22, .imul, 1, 0, 0, 0, 0, .null), (23, .iload_n 2, 1, 0, 0, 0, 0, .null), (24, .iadd, 1, 0, 0, 0, 0, .null), (25, .iaload, 1, 0, 0, 0, 0, .null), (26, .iastore, 1, 0, 0, 0, 0, .null), (27, .iinc 2 1, 3, 0, 0, 0, 0, .int 1), (30, .goto (-28), 3, 2, 0, 0, 0, .null), (33, .return_, 1, 0, 0, 0, 0, .null)]
noncomputable def sm_o133 : List (Nat × sm_E) := [(0, .aload_n 0, 1, 0, 0, 0, 0, .null), (1, .getfield 164, 3, 11, 8, 0, 1031, .null), (4, .bipush 16, 2, 0, 0, 0, 0, .int 16), (6, .if_icmp .ne 71, 3, 77, 0, 0, 0, .null), (9, .iconst 0, 1, 0, 0, 0, 0, .int 0), (10, .istore_n 2, 1, 0, 0, 0, 0, .null), (11, .iload_n 2, 1, 0, 0, 0, 0, .null), (12, .sipush 300, 3, 0, 0, 0, 0, .int 300), (15, .if_icmp .ge 24, 3, 39, 0, 0, 0, .null), (18, .aload_n 0, 1, 0, 0, 0, 0, .null), (19, .getfield 23, 3, 11, 6, 2, 1029, .null), (22, .iload_n 2, 1, 0, 0, 0, 0, .null), (23, .aload_n 0, 1, 0, 0, 0, 0, .null), (24, .getfield 23, 3, 11, 6, 2, 1029, .null), (27, .iload_n 2, 1, 0, 0, 0, 0, .null), (28, .bipush 20, 2, 0, 0, 0, 0, .int 20), (30, .iadd, 1, 0, 0, 0, 0, .null), (31, .iaload, 1, 0, 0, 0, 0, .null), (32, .iastore, 1, 0, 0, 0, 0, .null), (33, .iinc 2 1, 3, 0, 0, 0, 0, .int 1), (36, .goto (-25), 3, 11, 0, 0, 0, .null), (39, .iconst 0, 1, 0, 0, 0, 0, .int 0), (40, .istore_n 2, 1, 0, 0, 0, 0, .null), (41, .iload_n 2, 1, 0, 0, 0, 0, .null), (42, .bipush 15, 2, 0, 0, 0, 0, .int 15), (44, .if_icmp .ge 23, 3, 67, 0, 0, 0, .null), (47, .aload_n 0, 1, 0, 0, 0, 0, .null), (48, .getfield 26, 3, 11, 7, 2, 1030, .null), (51, .iload_n 2, 1, 0, 0, 0, 0, .null), (52, .aload_n 0, 1, 0, 0, 0, 0, .null), (53, .getfield 26, 3, 11, 7, 2, 1030, .null), (56, .iload_n 2, 1, 0, 0, 0, 0, .null), (57, .iconst 1, 1, 0, 0, 0, 0, .int 1), (58, .iadd, 1, 0, 0, 0, 0, .null), (59, .iaload, 1, 0, 0, 0, 0, .null), (60, .iastore, 1, 0, 0, 0, 0, .null), (61, .iinc 2 1, 3, 0, 0, 0, 0, .int 1), (64, .goto (-23), 3, 41, 0, 0, 0, .null), (67, .aload_n 0, 1, 0, 0, 0, 0, .null), (68, .dup, 1, 0, 0, 0, 0, .null), (69, .getfield 164, 3, 11, 8, 0, 1031, .null), (72, .iconst 1, 1, 0, 0, 0, 0, .int 1), (73, .isub, 1, 0, 0, 0, 0, .null), (74, .putfield 164, 3, 11, 8, 0, 1031, .null), (77, .aload_n 0, 1, 0, 0, 0, 0, .null), (78, .aload_n 0, 1, 0, 0, 0, 0, .null), (79, .getfield 164, 3, 11, 8, 0, 1031, .null), (82, .invokevirtual 171, 3, 131, 1, 0, 1481, .ref 3), (85, .aload_n 0, 1, 0, 0, 0, 0, .null), (86, .getfield 26, 3, 11, 7, 2, 1030, .null), (89, .aload_n 0, 1, 0, 0, 0, 0, .null), (90, .getfield 164, 3, 11, 8, 0, 1031, .null), (93, .iload_n 1, 1, 0, 0, 0, 0, .null), (94, .iastore, 1, 0, 0, 0, 0, .null), (95, .aload_n 0, 1, 0, 0, 0, 0, .null), (96, .dup, 1, 0, 0, 0, 0, .null), (97, .getfield 164, 3, 11, 8, 0, 1031, .null), (100, .iconst 1, 1, 0, 0, 0, 0, .int 1), (101, .iadd, 1, 0, 0, 0, 0, .null), (102, .putfield 164, 3, 11, 8, 0, 1031, .null), (105, .return_, 1, 0, 0, 0, 0, .null)]
noncomputable def sm_o134 : List (Nat × sm_E) := [(0, .aload_n 0, 1, 0, 0, 0, 0, .null), (1, .iconst 0, 1, 0, 0, 0, 0, .int 0), (2, .putfield 158, 3, 11, 0, 0, 1023, .null), (5, .aload_n 0, 1, 0, 0, 0, 0, .null), (6, .getfield 164, 3, 11, 8, 0, 1031, .null), (9, .ifCond .ne 10, 3, 19, 0, 0, 0, .null), (12, .aload_n 0, 1, 0, 0, 0, 0, .null), (13, .bipush (-3), 2, 0, 0, 0, 0, .int (-3)), (15, .invokevirtual 167, 3, 128, 1, 0, 1209, .ref 2), (18, .ireturn, 1, 0, 0, 0, 0, .null), (19, .aload_n 0, 1, 0, 0, 0, 0, .null), (20, .dup, 1, 0, 0, 0, 0, .null), (21, .getfield 164, 3, 11, 8, 0, 1031, .null), (24, .iconst 1, 1, 0, 0, 0, 0, .int 1), (25, .isub, 1, 0, 0, 0, 0, .null), (26, .putfield 164, 3, 11, 8, 0, 1031, .null), (29, .aload_n 0, 1, 0, 0, 0, 0, .null), (30, .aload_n 0, 1, 0, 0, 0, 0, .null), (31, .getfield 164, 3, 11, 8, 0, 1031, .null), (34, .invokevirtual 175, 3, 132, 1, 0, 1213, .ref 3), (37, .aload_n 0, 1, 0, 0, 0, 0, .null), (38, .aload_n 0, 1, 0, 0, 0, 0, .null), (39, .getfield 26, 3, 11, 7, 2, 1030, .null), (42, .aload_n 0, 1, 0, 0, 0, 0, .null), (43, .getfield 164, 3, 11, 8, 0, 1031, .null), (46, .iaload, 1, 0, 0, 0, 0, .null), (47, .invokevirtual 167, 3, 128, 1, 0, 1209, .ref 2), (50, .ireturn, 1, 0, 0, 0, 0, .null)]
noncomputable def sm_o135 : List (Nat × sm_E) := [(0, .aload_n 0, 1, 0, 0, 0, 0, .null), (1, .iconst 0, 1, 0, 0, 0, 0, .int 0), (2, .putfield 158, 3, 11, 0, 0, 1023, .null), (5, .iload_n 1, 1, 0, 0, 0, 0, .null), (6, .i2l, 1, 0, 0, 0, 0, .null), (7, .lconst 0, 1, 0, 0, 0, 0, .long 0), (8, .lconst 1, 1, 0, 0, 0, 0, .long 1), (9, .invokestatic 178, 3, 124, 3, 0, 1221, .ref 6), (12, .ifCond .ne 9, 3, 21, 0, 0, 0, .null), (15, .aload_n 0, 1, 0, 0, 0, 0, .null), (16, .iconst (-1), 1, 0, 0, 0, 0, .int (-1)), (17, .invokevirtual 167, 3, 128, 1, 0, 1209, .ref 2), (20, .ireturn, 1, 0, 0, 0, 0, .null), (21, .iconst 0, 1, 0, 0, 0, 0, .int 0), (22, .istore_n 2, 1, 0, 0, 0, 0, .null), (23, .iload_n 2, 1, 0, 0, 0, 0, .null), (24, .sipush 5450, 3, 0, 0, 0, 0, .int 5450), (27, .if_icmp .ge 27, 3, 54, 0, 0, 0, .null), (30, .aload_n 0, 1, 0, 0, 0, 0, .null), (31, .getfield 16, 3, 11, 4, 2, 1027, .null), (34, .sipush 5450, 3, 0, 0, 0, 0, .int 5450), (37, .iload_n 1, 1, 0, 0, 0, 0, .null), (38, .imul, 1, 0, 0, 0, 0, .null), (39, .iload_n 2, 1, 0, 0, 0, 0, .null), (40, .iadd, 1, 0, 0, 0, 0, .null), (41, .aload_n 0, 1, 0, 0, 0, 0, .null), (42, .getfield 13, 3, 11, 3, 2, 1026, .null), (45, .iload_n 2, 1, 0, 0, 0, 0, .null), (46, .iaload, 1, 0, 0, 0, 0, .null), (47, .iastore, 1, 0, 0, 0, 0, .null), (48, .iinc 2 1, 3, 0, 0, 0, 0, .int 1), (51, .goto (-28), 3, 23, 0, 0, 0, .null), (54, .aload_n 0, 1, 0, 0, 0, 0, .null), (55, .getfield 19, 3, 11, 5, 2, 1028, .null), (58, .iload_n 1, 1, 0, 0, 0, 0, .null), (59, .iconst 1, 1, 0, 0, 0, 0, .int 1), (60, .bastore, 1, 0, 0, 0, 0, .null), (61, .aload_n 0, 1, 0, 0, 0, 0, .null), (62, .iconst 0, 1, 0, 0, 0, 0, .int 0), (63, .invokevirtual 167, 3, 128, 1, 0, 1209, .ref 2), (66, .ireturn, 1, 0, 0, 0, 0, .null)]
noncomputable def sm_o136 : List (Nat × sm_E) := [(0, .aload_n 0, 1, 0, 0, 0, 0, .null), (1, .iconst 0, 1, 0, 0, 0, 0, .int 0), (2, .putfield 158, 3, 11, 0, 0, 1023, .null), (5, .iload_n 1, 1, 0, 0, 0, 0, .null), (6, .i2l, 1, 0, 0, 0, 0, .null), (7, .lconst 0, 1, 0, 0, 0, 0, .long 0), (8, .lconst 1, 1, 0, 0, 0, 0, .long 1), (9, .invokestatic 178, 3, 124, 3, 0, 1221, .ref 6), (12, .ifCond .ne 9, 3, 21, 0, 0, 0, .null), (15, .aload_n 0, 1, 0, 0, 0, 0, .null), (16, .iconst (-1), 1, 0, 0, 0, 0, .int (-1)), (17, .invokevirtual 167, 3, 128, 1, 0, 1209, .ref 2), (20, .ireturn, 1, 0, 0, 0, 0, .null), (21, .aload_n 0, 1, 0, 0, 0, 0, .null), (22, .getfield 19, 3, 11, 5, 2, 1028, .null), (25, .iload_n 1, 1, 0, 0, 0, 0, .null), (26, .baload, 1, 0, 0, 0, 0, .null), (27, .ifCond .ne 10, 3, 37, 0, 0, 0, .null), (30, .aload_n 0, 1, 0, 0, 0, 0, .null), (31, .bipush (-2), 2, 0, 0, 0, 0, .int (-2)), (33, .invokevirtual 167, 3, 128, 1, 0, 1209, .ref 2), (36, .ireturn, 1, 0, 0, 0, 0, .null), (37, .iconst 0, 1, 0, 0, 0, 0, .int 0), (38, .istore_n 2, 1, 0, 0, 0, 0, .null), (39, .iload_n 2, 1, 0, 0, 0, 0, .null), (40, .sipush 5450, 3, 0, 0, 0, 0, .int 5450), (43, .if_icmp .ge 27, 3, 70, 0, 0, 0, .null), (46, .aload_n 0, 1, 0, 0, 0, 0, .null), (47, .getfield 13, 3, 11, 3, 2, 1026, .null), (50, .iload_n 2, 1, 0, 0, 0, 0, .null), (51, .aload_n 0, 1, 0, 0, 0, 0, .null), (52, .getfield 16, 3, 11, 4, 2, 1027, .null), (55, .sipush 5450, 3, 0, 0, 0, 0, .int 5450), (58, .iload_n 1, 1, 0, 0, 0, 0, .null), (59, .imul, 1, 0, 0, 0, 0, .null), (60, .iload_n 2, 1, 0, 0, 0, 0, .null), (61, .iadd, 1, 0, 0, 0, 0, .null), (62, .iaload, 1, 0, 0, 0, 0, .null), (63, .iastore, 1, 0, 0, 0, 0, .null), (64, .iinc 2 1, 3, 0, 0, 0, 0, .int 1), (67, .goto (-28), 3, 39, 0, 0, 0, .null), (70, .aload_n 0, 1, 0, 0, 0, 0, .null), (71, .iconst 0, 1, 0, 0, 0, 0, .int 0), (72, .invokevirtual 182, 3, 130, 1, 0, 1228, .ref 2), (75, .ireturn, 1, 0, 0, 0, 0, .null)]
noncomputable def sm_o137 : List (Nat × sm_E) := [(0, .iload_n 1, 1, 0, 0, 0, 0, .null), (1, .i2l, 1, 0, 0, 0, 0, .null), (2, .lconst 0, 1, 0, 0, 0, 0, .long 0), (3, .aload_n 0, 1, 0, 0, 0, 0, .null), (4, .getfield 13, 3, 11, 3, 2, 1026, .null), (7, .iconst 0, 1, 0, 0, 0, 0, .int 0), (8, .iaload, 1, 0, 0, 0, 0, .null), (9, .i2l, 1, 0, 0, 0, 0, .null), (10, .lconst 1, 1, 0, 0, 0, 0, .long 1), (11, .lsub, 1, 0, 0, 0, 0, .null), (12, .invokestatic 178, 3, 124, 3, 0, 1221, .ref 6), (15, .ireturn, 1, 0, 0, 1, 0, .null)]
noncomputable def sm_o138 : List (Nat × sm_E) := [(0, .aload_n 0, 1, 0, 0, 0, 0, .null), (1, .getfield 13, 3, 11, 3, 2, 1026, .null), (4, .bipush 17, 2, 0, 0, 0, 0, .int 17), (6, .iload_n 1, 1, 0, 0, 0, 0, .null), (7, .iadd, 1, 0, 0, 0, 0, .null), (8, .iaload, 1, 0, 0, 0, 0, .null), (9, .ifCond .ne 7, 3, 16, 0, 0, 0, .null), (12, .iconst 1, 1, 0, 0, 0, 0, .int 1), (13, .goto 4, 3, 17, 0, 0, 0, .null), (16, .iconst 0, 1, 0, 0, 0, 0, .int 0), (17, .ireturn, 1, 0, 0, 1, 0, .null)]
noncomputable def sm_o139 : List (Nat × sm_E) := [(0, .iconst 0, 1, 0, 0, 0, 0, .int 0), (1, .istore_n 1, 1, 0, 0, 0, 0, .null), (2, .iconst 0, 1, 0, 0, 0, 0, .int 0), (3, .istore_n 2, 1, 0, 0, 0, 0, .null), (4, .iload_n 2, 1, 0, 0, 0, 0, .null), (5, .aload_n 0, 1, 0, 0, 0, 0, .null), (6, .getfield 13, 3, 11, 3, 2, 1026, .null), (9, .iconst 0, 1, 0, 0, 0, 0, .int 0), (10, .iaload, 1, 0, 0, 0, 0, .null), (11, .if_icmp .ge 27, 3, 38, 0, 0, 0, .null), (14, .iload_n 1, 1, 0, 0, 0, 0, .null), (15, .aload_n 0, 1, 0, 0, 0, 0, .null), (16, .iload_n 2, 1, 0, 0, 0, 0, .null), (17, .invokevirtual 185, 3, 138, 1, 0, 1295, .ref 2), (20, .ifCond .eq 9, 3, 29, 0, 0, 0, .null), (23, .iconst 1, 1, 0, 0, 0, 0, .int 1), (24, .iload_n 2, 1, 0, 0, 0, 0, .null), (25, .ishl, 1, 0, 0, 0, 0, .null), (26, .goto 4, 3, 30, 0, 0, 0, .null), (29, .iconst 0, 1, 0, 0, 0, 0, .int 0), (30, .ior, 1, 0, 0, 0, 0, .null), (31, .istore_n 1, 1, 0, 0, 0, 0, .null), (32, .iinc 2 1, 3, 0, 0, 0, 0, .int 1), (35, .goto (-31), 3, 4, 0, 0, 0, .null), (38, .iload_n 1, 1, 0, 0, 0, 0, .null), (39, .ireturn, 1, 0, 0, 0, 0, .null)]
noncomputable def sm_o140 : List (Nat × sm_E) := [(0, .iconst 0, 1, 0, 0, 0, 0, .int 0), (1, .istore_n 3, 1, 0, 0, 0, 0, .null), (2, .iconst 0, 1, 0, 0, 0, 0, .int 0), (3, .istore 4, 2, 0, 0, 0, 0, .null), (5, .iload 4, 2, 0, 0, 0, 0, .null), (7, .bipush 6, 2, 0, 0, 0, 0, .int 6), (9, .if_icmp .ge 48, 3, 57, 0, 0, 0, .null), (12, .iload_n 3, 1, 0, 0, 0, 0, .null), (13, .aload_n 0, 1, 0, 0, 0, 0, .null), (14, .getfield 13, 3, 11, 3, 2, 1026, .null), (17, .bipush 31, 2, 0, 0, 0, 0, .int 31), (19, .iload_n 1, 1, 0, 0, 0, 0, .null), (20, .iadd, 1, 0, 0, 0, 0, .null), (21, .iaload, 1, 0, 0, 0, 0, .null), (22, .iload 4, 2, 0, 0, 0, 0, .null), (24, .invokestatic 189, 3, 125, 2, 0, 1263, .ref 2), (27, .aload_n 0, 1, 0, 0, 0, 0, .null), (28, .getfield 13, 3, 11, 3, 2, 1026, .null), (31, .bipush 31, 2, 0, 0, 0, 0, .int 31), (33, .iload_n 2, 1, 0, 0, 0, 0, .null), (34, .iadd, 1, 0, 0, 0, 0, .null), (35, .iaload, 1, 0, 0, 0, 0, .null), (36, .iload 4, 2, 0, 0, 0, 0, .null), (38, .invokestatic 189, 3, 125, 2, 0, 1263, .ref 2), (41, .if_icmp .eq 7, 3, 48, 0, 0, 0, .null), (44, .iconst 1, 1, 0, 0, 0, 0, .int 1), (45, .goto 4, 3, 49, 0, 0, 0, .null), (48, .iconst 0, 1, 0, 0, 0, 0, .int 0), (49, .iadd, 1, 0, 0, 0, 0, .null), (50, .istore_n 3, 1, 0, 0, 0, 0, .null), (51, .iinc 4 1, 3, 0, 0, 0, 0, .int 1), (54, .goto (-49), 3, 5, 0, 0, 0, .null), (57, .iload_n 3, 1, 0, 0, 0, 0, .null), (58, .ireturn, 1, 0, 0, 0, 0, .null)]
noncomputable def sm_o141 : List (Nat × sm_E) := [(0, .iload_n 1, 1, 0, 0, 0, 0, .null), (1, .i2l, 1, 0, 0, 0, 0, .null), (2, .lconst 1, 1, 0, 0, 0, 0, .long 1), (3, .ldc2_w 193, 3, 0, 0, 0, 1240, .long 9), (6, .invokestatic 178, 3, 124, 3, 0, 1221, .ref 6), (9, .ifCond .eq 15, 3, 24, 0, 0, 0, .null), (12, .iload_n 2, 1, 0, 0, 0, 0, .null), (13, .i2l, 1, 0, 0, 0, 0, .null), (14, .lconst 0, 1, 0, 0, 0, 0, .long 0), (15, .ldc2_w 195, 3, 0, 0, 0, 1241, .long 63), (18, .invokestatic 178, 3, 124, 3, 0, 1221, .ref 6), (21, .ifCond .ne 5, 3, 26, 0, 0, 0, .null), (24, .iconst (-1), 1, 0, 0, 0, 0, .int (-1)), (25, .ireturn, 1, 0, 0, 0, 0, .null), (26, .aload_n 0, 1, 0, 0, 0, 0, .null), (27, .getfield 13, 3, 11, 3, 2, 1026, .null), (30, .iconst 0, 1, 0, 0, 0, 0, .int 0), (31, .iaload, 1, 0, 0, 0, 0, .null), (32, .istore_n 3, 1, 0, 0, 0, 0, .null), (33, .iload_n 3, 1, 0, 0, 0, 0, .null), (34, .bipush 7, 2, 0, 0, 0, 0, .int 7), (36, .if_icmp .ne 6, 3, 42, 0, 0, 0, .null), (39, .bipush (-5), 2, 0, 0, 0, 0, .int (-5)), (41, .ireturn, 1, 0, 0, 0, 0, .null), (42, .aload_n 0, 1, 0, 0, 0, 0, .null), (43, .getfield 13, 3, 11, 3, 2, 1026, .null), (46, .bipush 24, 2, 0, 0, 0, 0, .int 24), (48, .iload_n 3, 1, 0, 0, 0, 0, .null), (49, .iadd, 1, 0, 0, 0, 0, .null), (50, .iload_n 1, 1, 0, 0, 0, 0, .null), (51, .iastore, 1, 0, 0, 0, 0, .null), (52, .aload_n 0, 1, 0, 0, 0, 0, .null), (53, .getfield 13, 3, 11, 3, 2, 1026, .null), (56, .bipush 31, 2, 0, 0, 0, 0, .int 31), (58, .iload_n 3, 1, 0, 0, 0, 0, .null), (59, .iadd, 1, 0, 0, 0, 0, .null), (60, .iload_n 2, 1, 0, 0, 0, 0, .null), (61, .iastore, 1, 0, 0, 0, 0, .null), (62, .aload_n 0, 1, 0, 0, 0, 0, .null), (63, .getfield 13, 3, 11, 3, 2, 1026, .null), (66, .bipush 10, 2, 0, 0, 0, 0, .int 10), (68, .iload_n 3, 1, 0, 0, 0, 0, .null), (69, .iadd, 1, 0, 0, 0, 0, .null), (70, .iconst 0, 1, 0, 0, 0, 0, .int 0), (71, .iastore, 1, 0, 0, 0, 0, .null), (72, .aload_n 0, 1, 0, 0, 0, 0, .null), (73, .getfield 13, 3, 11, 3, 2, 1026, .null), (76, .bipush 17, 2, 0, 0, 0, 0, .int 17), (78, .iload_n 3, 1, 0, 0, 0, 0, .null), (79, .iadd, 1, 0, 0, 0, 0, .null), (80, .iconst 0, 1, 0, 0, 0, 0, .int 0), (81, .iastore, 1, 0, 0, 0, 0, .null), (82, .aload_n 0, 1, 0, 0, 0, 0, .null), (83, .getfield 13, 3, 11, 3, 2, 1026, .null), (86, .iconst 0, 1, 0, 0, 0, 0, .int 0), (87, .dup2, 1, 0, 0, 0, 0, .null), (88, .iaload, 1, 0, 0, 0, 0, .null), (89, .iconst 1, 1, 0, 0, 0, 0, .int 1), (90, .iadd, 1, 0, 0, 0, 0, .null), (91, .iastore, 1, 0, 0, 0, 0, .null), (92, .iload_n 3, 1, 0, 0, 0, 0, .null), (93, .ireturn, 1, 0, 0, 0, 0, .null)]
noncomputable def sm_o142 : List (Nat × sm_E) := [(0, .aload_n 0, 1, 0, 0, 0, 0, .null), (1, .iconst 0, 1, 0, 0, 0, 0, .int 0), (2, .putfield 158, 3, 11, 0, 0, 1023, .null), (5, .aload_n 0, 1, 0, 0, 0, 0, .null), (6, .aload_n 0, 1, 0, 0, 0, 0, .null), (7, .iload_n 1, 1, 0, 0, 0, 0, .null), (8, .iload_n 2, 1, 0, 0, 0, 0, .null), (9, .invokevirtual 197, 3, 141, 2, 0, 1236, .ref 4), (12, .invokevirtual 182, 3, 130, 1, 0, 1228, .ref 2), (15, .ireturn, 1, 0, 0, 0, 0, .null)]
noncomputable def sm_o143 : List (Nat × sm_E) := [(0, .aload_n 0, 1, 0, 0, 0, 0, .null), (1, .iconst 0, 1, 0, 0, 0, 0, .int 0), (2, .putfield 158, 3, 11, 0, 0, 1023, .null), (5, .aload_n 0, 1, 0, 0, 0, 0, .null), (6, .iload_n 1, 1, 0, 0, 0, 0, .null), (7, .invokevirtual 201, 3, 137, 1, 0, 1246, .ref 2), (10, .ifCond .ne 5, 3, 15, 0, 0, 0, .null), (13, .iconst (-1), 1, 0, 0, 0, 0, .int (-1)), (14, .ireturn, 1, 0, 0, 0, 0, .null), (15, .iload_n 2, 1, 0, 0, 0, 0, .null), (16, .tableswitch 149 0 8 #[52, 62, 72, 82, 92, 109, 115, 121, 135], 52, 165, 0, 0, 0, .null), (68, .aload_n 0, 1, 0, 0, 0, 0, .null), (69, .getfield 13, 3, 11, 3, 2, 1026, .null), (72, .bipush 24, 2, 0, 0, 0, 0, .int 24), (74, .iload_n 1, 1, 0, 0, 0, 0, .null), (75, .iadd, 1, 0, 0, 0, 0, .null), (76, .iaload, 1, 0, 0, 0, 0, .null), (77, .ireturn, 1, 0, 0, 0, 0, .null), (78, .aload_n 0, 1, 0, 0, 0, 0, .null), (79, .getfield 13, 3, 11, 3, 2, 1026, .null), (82, .bipush 31, 2, 0, 0, 0, 0, .int 31), (84, .iload_n 1, 1, 0, 0, 0, 0, .null), (85, .iadd, 1, 0, 0, 0, 0, .null), (86, .iaload, 1, 0, 0, 0, 0, .null), (87, .ireturn, 1, 0, 0, 0, 0, .null), (88, .aload_n 0, 1, 0, 0, 0, 0, .null), (89, .getfield 13, 3, 11, 3, 2, 1026, .null), (92, .bipush 10, 2, 0, 0, 0, 0, .int 10), (94, .iload_n 1, 1, 0, 0, 0, 0, .null), (95, .iadd, 1, 0, 0, 0, 0, .null), (96, .iaload, 1, 0, 0, 0, 0, .null), (97, .ireturn, 1, 0, 0, 0, 0, .null), (98, .aload_n 0, 1, 0, 0, 0, 0, .null), (99, .getfield 13, 3, 11, 3, 2, 1026, .null), (102, .bipush 17, 2, 0, 0, 0, 0, .int 17), (104, .iload_n 1, 1, 0, 0, 0, 0, .null), (105, .iadd, 1, 0, 0, 0, 0, .null), (106, .iaload, 1, 0, 0, 0, 0, .null), (107, .ireturn, 1, 0, 0, 0, 0, .null), (108, .aload_n 0, 1, 0, 0, 0, 0, .null), (109, .getfield 13, 3, 11, 3, 2, 1026, .null), (112, .bipush 8, 2, 0, 0, 0, 0, .int 8), (114, .iaload, 1, 0, 0, 0, 0, .null), (115, .iload_n 1, 1, 0, 0, 0, 0, .null), (116, .if_icmp .ne 7, 3, 123, 0, 0, 0, .null), (119, .iconst 1, 1, 0, 0, 0, 0, .int 1), (120, .goto 4, 3, 124, 0, 0, 0, .null), (123, .iconst 0, 1, 0, 0, 0, 0, .int 0), (124, .ireturn, 1, 0, 0, 0, 0, .null), (125, .aload_n 0, 1, 0, 0, 0, 0, .null), (126, .iload_n 1, 1, 0, 0, 0, 0, .null), (127, .invokevirtual 204, 3, 185, 1, 0, 1250, .ref 2), (130, .ireturn, 1, 0, 0, 0, 0, .null), (131, .aload_n 0, 1, 0, 0, 0, 0, .null), (132, .iload_n 1, 1, 0, 0, 0, 0, .null), (133, .invokevirtual 207, 3, 186, 1, 0, 1283, .ref 2), (136, .ireturn, 1, 0, 0, 0, 0, .null), (137, .aload_n 0, 1, 0, 0, 0, 0, .null), (138, .iload_n 1, 1, 0, 0, 0, 0, .null), (139, .invokevirtual 210, 3, 187, 1, 0, 1287, .ref 2), (142, .ifCond .eq 7, 3, 149, 0, 0, 0, .null), (145, .iconst 1, 1, 0, 0, 0, 0, .int 1), (146, .goto 4, 3, 150, 0, 0, 0, .null), (149, .iconst 0, 1, 0, 0, 0, 0, .int 0), (150, .ireturn, 1, 0, 0, 0, 0, .null), (151, .aload_n 0, 1, 0, 0, 0, 0, .null), (152, .iload_n 1, 1, 0, 0, 0, 0, .null), (153, .invokevirtual 213, 3, 189, 1, 0, 1291, .ref 2), (156, .ifCond .eq 7, 3, 163, 0, 0, 0, .null), (159, .iconst 1, 1, 0, 0, 0, 0, .int 1), (160, .goto 4, 3, 164, 0, 0, 0, .null), (163, .iconst 0, 1, 0, 0, 0, 0, .int 0), (164, .ireturn, 1, 0, 0, 0, 0, .null), (165, .iconst (-1), 1, 0, 0, 0, 0, .int (-1)), (166, .ireturn, 1, 0, 0, 0, 0, .null)]
noncomputable def sm_o144 : List (Nat × sm_E) := [(0, .aload_n 0, 1, 0, 0, 0, 0, .null), (1, .iconst 0, 1, 0, 0, 0, 0, .int 0), (2, .putfield 158, 3, 11, 0, 0, 1023, .null), (5, .aload_n 0, 1, 0, 0, 0, 0, .null), (6, .iload_n 1, 1, 0, 0, 0, 0, .null), (7, .invokevirtual 201, 3, 137, 1, 0, 1246, .ref 2), (10, .ifCond .eq 16, 3, 26, 0, 0, 0, .null), (13, .aload_n 0, 1, 0, 0, 0, 0, .null), (14, .iload_n 2, 1, 0, 0, 0, 0, .null), (15, .invokevirtual 201, 3, 137, 1, 0, 1246, .ref 2), (18, .ifCond .eq 8, 3, 26, 0, 0, 0, .null), (21, .iload_n 1, 1, 0, 0, 0, 0, .null), (22, .iload_n 2, 1, 0, 0, 0, 0, .null), (23, .if_icmp .ne 5, 3, 28, 0, 0, 0, .null), (26, .iconst (-1), 1, 0, 0, 0, 0, .int (-1)), (27, .ireturn, 1, 0, 0, 0, 0, .null), (28, .iload_n 3, 1, 0, 0, 0, 0, .null), (29, .ifCond .ne 12, 3, 41, 0, 0, 0, .null), (32, .aload_n 0, 1, 0, 0, 0, 0, .null), (33, .iload_n 1, 1, 0, 0, 0, 0, .null), (34, .iload_n 2, 1, 0, 0, 0, 0, .null), (35, .invokevirtual 216, 3, 140, 2, 0, 1259, .ref 5), (38, .goto 18, 3, 56, 0, 0, 0, .null), (41, .iload_n 3, 1, 0, 0, 0, 0, .null), (42, .iconst 1, 1, 0, 0, 0, 0, .int 1), (43, .if_icmp .ne 12, 3, 55, 0, 0, 0, .null), (46, .aload_n 0, 1, 0, 0, 0, 0, .null), (47, .iload_n 1, 1, 0, 0, 0, 0, .null), (48, .iload_n 2, 1, 0, 0, 0, 0, .null), (49, .invokevirtual 219, 3, 188, 2, 0, 1303, .ref 3), (52, .goto 4, 3, 56, 0, 0, 0, .null), (55, .iconst (-1), 1, 0, 0, 0, 0, .int (-1)), (56, .ireturn, 1, 0, 0, 0, 0, .null)]
noncomputable def sm_o145 : List (Nat × sm_E) := [(0, .aload_n 0, 1, 0, 0, 0, 0, .null), (1, .iconst 0, 1, 0, 0, 0, 0, .int 0), (2, .putfield 158, 3, 11, 0, 0, 1023, .null), (5, .iload_n 1, 1, 0, 0, 0, 0, .null), (6, .ifCond .ne 15, 3, 21, 0, 0, 0, .null), (9, .iload_n 2, 1, 0, 0, 0, 0, .null), (10, .i2l, 1, 0, 0, 0, 0, .null), (11, .lconst 0, 1, 0, 0, 0, 0, .long 0), (12, .ldc2_w 222, 3, 0, 0, 0, 1311, .long 999), (15, .invokestatic 178, 3, 124, 3, 0, 1221, .ref 6), (18, .goto 59, 3, 77, 0, 0, 0, .null), (21, .iload_n 1, 1, 0, 0, 0, 0, .null), (22, .iconst 1, 1, 0, 0, 0, 0, .int 1), (23, .if_icmp .ne 15, 3, 38, 0, 0, 0, .null), (26, .iload_n 2, 1, 0, 0, 0, 0, .null), (27, .i2l, 1, 0, 0, 0, 0, .null), (28, .lconst 0, 1, 0, 0, 0, 0, .long 0), (29, .ldc2_w 224, 3, 0, 0, 0, 1312, .long 10), (32, .invokestatic 178, 3, 124, 3, 0, 1221, .ref 6), (35, .goto 42, 3, 77, 0, 0, 0, .null), (38, .iload_n 1, 1, 0, 0, 0, 0, .null), (39, .iconst 2, 1, 0, 0, 0, 0, .int 2), (40, .if_icmp .ne 15, 3, 55, 0, 0, 0, .null), (43, .iload_n 2, 1, 0, 0, 0, 0, .null), (44, .i2l, 1, 0, 0, 0, 0, .null), (45, .lconst 0, 1, 0, 0, 0, 0, .long 0), (46, .ldc2_w 193, 3, 0, 0, 0, 1240, .long 9), (49, .invokestatic 178, 3, 124, 3, 0, 1221, .ref 6), (52, .goto 25, 3, 77, 0, 0, 0, .null), (55, .iload_n 1, 1, 0, 0, 0, 0, .null), (56, .iconst 3, 1, 0, 0, 0, 0, .int 3), (57, .if_icmp .ne 19, 3, 76, 0, 0, 0, .null), (60, .iload_n 2, 1, 0, 0, 0, 0, .null), (61, .i2l, 1, 0, 0, 0, 0, .null), (62, .lconst 0, 1, 0, 0, 0, 0, .long 0), (63, .ldc2_w 226, 3, 0, 0, 0, 1313, .long 99), (66, .invokestatic 178, 3, 124, 3, 0, 1221, .ref 6), (69, .ifCond .eq 7, 3, 76, 0, 0, 0, .null), (72, .iconst 1, 1, 0, 0, 0, 0, .int 1), (73, .goto 4, 3, 77, 0, 0, 0, .null), (76, .iconst 0, 1, 0, 0, 0, 0, .int 0), (77, .istore_n 3, 1, 0, 0, 0, 0, .null), (78, .iload_n 3, 1, 0, 0, 0, 0, .null), (79, .ifCond .ne 9, 3, 88, 0, 0, 0, .null), (82, .aload_n 0, 1, 0, 0, 0, 0, .null), (83, .iconst (-1), 1, 0, 0, 0, 0, .int (-1)), (84, .invokevirtual 167, 3, 128, 1, 0, 1209, .ref 2), (87, .ireturn, 1, 0, 0, 0, 0, .null), (88, .aload_n 0, 1, 0, 0, 0, 0, .null), (89, .iconst 0, 1, 0, 0, 0, 0, .int 0), (90, .putfield 164, 3, 11, 8, 0, 1031, .null), (93, .aload_n 0, 1, 0, 0, 0, 0, .null), (94, .iconst 4, 1, 0, 0, 0, 0, .int 4), (95, .iload_n 1, 1, 0, 0, 0, 0, .null), (96, .iadd, 1, 0, 0, 0, 0, .null), (97, .iload_n 2, 1, 0, 0, 0, 0, .null), (98, .invokevirtual 228, 3, 129, 2, 0, 1314, .ref 4), (101, .ireturn, 1, 0, 0, 0, 0, .null)]
noncomputable def sm_o146 : List (Nat × sm_E) := [(0, .aload_n 0, 1, 0, 0, 0, 0, .null), (1, .iconst 0, 1, 0, 0, 0, 0, .int 0), (2, .putfield 158, 3, 11, 0, 0, 1023, .null), (5, .aload_n 0, 1, 0, 0, 0, 0, .null), (6, .getfield 231, 3, 11, 13, 0, 1036, .null), (9, .istore_n 1, 1, 0, 0, 0, 0, .null), (10, .aload_n 0, 1, 0, 0, 0, 0, .null), (11, .iconst 0, 1, 0, 0, 0, 0, .int 0), (12, .putfield 231, 3, 11, 13, 0, 1036, .null), (15, .iload_n 1, 1, 0, 0, 0, 0, .null), (16, .ifCond .ne 10, 3, 26, 0, 0, 0, .null), (19, .aload_n 0, 1, 0, 0, 0, 0, .null), (20, .bipush (-6), 2, 0, 0, 0, 0, .int (-6)), (22, .invokevirtual 167, 3, 128, 1, 0, 1209, .ref 2), (25, .ireturn, 1, 0, 0, 0, 0, .null), (26, .aload_n 0, 1, 0, 0, 0, 0, .null), (27, .iconst 0, 1, 0, 0, 0, 0, .int 0), (28, .putfield 234, 3, 11, 11, 0, 1034, .null), (31, .iconst 0, 1, 0, 0, 0, 0, .int 0), (32, .istore_n 2, 1, 0, 0, 0, 0, .null), (33, .iconst 0, 1, 0, 0, 0, 0, .int 0), (34, .istore_n 3, 1, 0, 0, 0, 0, .null), (35, .iload_n 3, 1, 0, 0, 0, 0, .null), (36, .iload_n 1, 1, 0, 0, 0, 0, .null), (37, .if_icmp .ge 53, 3, 90, 0, 0, 0, .null), (40, .iload_n 3, 1, 0, 0, 0, 0, .null), (41, .iconst 1, 1, 0, 0, 0, 0, .int 1), (42, .iadd, 1, 0, 0, 0, 0, .null), (43, .iload_n 1, 1, 0, 0, 0, 0, .null), (44, .if_icmp .ge 30, 3, 74, 0, 0, 0, .null), (47, .aload_n 0, 1, 0, 0, 0, 0, .null), (48, .aload_n 0, 1, 0, 0, 0, 0, .null), (49, .getfield 35, 3, 11, 12, 2, 1035, .null), (52, .iload_n 3, 1, 0, 0, 0, 0, .null), (53, .iaload, 1, 0, 0, 0, 0, .null), (54, .aload_n 0, 1, 0, 0, 0, 0, .null), (55, .getfield 35, 3, 11, 12, 2, 1035, .null), (58, .iload_n 3, 1, 0, 0, 0, 0, .null), (59, .iconst 1, 1, 0, 0, 0, 0, .int 1), (60, .iadd, 1, 0, 0, 0, 0, .null), (61, .iaload, 1, 0, 0, 0, 0, .null), (62, .invokevirtual 197, 3, 141, 2, 0, 1236, .ref 4), (65, .ifCond .lt 9, 3, 74, 0, 0, 0, .null), (68, .iinc 2 1, 3, 0, 0, 0, 0, .int 1), (71, .goto 13, 3, 84, 0, 0, 0, .null), (74, .aload_n 0, 1, 0, 0, 0, 0, .null), (75, .dup, 1, 0, 0, 0, 0, .null), (76, .getfield 234, 3, 11, 11, 0, 1034, .null), (79, .iconst 1, 1, 0, 0, 0, 0, .int 1), (80, .iadd, 1, 0, 0, 0, 0, .null), (81, .putfield 234, 3, 11, 11, 0, 1034, .null), (84, .iinc 3 2, 3, 0, 0, 0, 0, .int 2), (87, .goto (-52), 3, 35, 0, 0, 0, .null), (90, .aload_n 0, 1, 0, 0, 0, 0, .null), (91, .iload_n 2, 1, 0, 0, 0, 0, .null), (92, .invokevirtual 182, 3, 130, 1, 0, 1228, .ref 2), (95, .ireturn, 1, 0, 0, 0, 0, .null)]
noncomputable def sm_o147 : List (Nat × sm_E) := [(0, .aload_n 0, 1, 0, 0, 0, 0, .null), (1, .iconst 0, 1, 0, 0, 0, 0, .int 0), (2, .putfield 158, 3, 11, 0, 0, 1023, .null), (5, .aload_n 0, 1, 0, 0, 0, 0, .null), (6, .getfield 234, 3, 11, 11, 0, 1034, .null), (9, .ireturn, 1, 0, 0, 0, 0, .null)]
noncomputable def sm_o148 : List (Nat × sm_E) := [(0, .bipush 24, 2, 0, 0, 0, 0, .int 24), (2, .istore_n 2, 1, 0, 0, 0, 0, .null), (3, .iload_n 2, 1, 0, 0, 0, 0, .null), (4, .ifCond .lt 35, 3, 39, 0, 0, 0, .null), (7, .aload_n 0, 1, 0, 0, 0, 0, .null), (8, .getfield 35, 3, 11, 12, 2, 1035, .null), (11, .aload_n 0, 1, 0, 0, 0, 0, .null), (12, .getfield 231, 3, 11, 13, 0, 1036, .null), (15, .iload_n 1, 1, 0, 0, 0, 0, .null), (16, .iload_n 2, 1, 0, 0, 0, 0, .null), (17, .ishr, 1, 0, 0, 0, 0, .null), (18, .sipush 255, 3, 0, 0, 0, 0, .int 255), (21, .iand, 1, 0, 0, 0, 0, .null), (22, .iastore, 1, 0, 0, 0, 0, .null), (23, .aload_n 0, 1, 0, 0, 0, 0, .null), (24, .dup, 1, 0, 0, 0, 0, .null), (25, .getfield 231, 3, 11, 13, 0, 1036, .null), (28, .iconst 1, 1, 0, 0, 0, 0, .int 1), (29, .iadd, 1, 0, 0, 0, 0, .null), (30, .putfield 231, 3, 11, 13, 0, 1036, .null), (33, .iinc 2 (-8), 3, 0, 0, 0, 0, .int (-8)), (36, .goto (-33), 3, 3, 0, 0, 0, .null), (39, .return_, 1, 0, 0, 0, 0, .null)]
noncomputable def sm_o149 : List (Nat × sm_E) := [(0, .aload_n 0, 1, 0, 0, 0, 0, .null), (1, .iconst 0, 1, 0, 0, 0, 0, .int 0), (2, .putfield 158, 3, 11, 0, 0, 1023, .null), (5, .aload_n 0, 1, 0, 0, 0, 0, .null), (6, .getfield 231, 3, 11, 13, 0, 1036, .null), (9, .bipush 20, 2, 0, 0, 0, 0, .int 20), (11, .iadd, 1, 0, 0, 0, 0, .null), (12, .sipush 400, 3, 0, 0, 0, 0, .int 400), (15, .if_icmp .le 5, 3, 20, 0, 0, 0, .null), (18, .iconst (-1), 1, 0, 0, 0, 0, .int (-1)), (19, .ireturn, 1, 0, 0, 0, 0, .null), (20, .aload_n 0, 1, 0, 0, 0, 0, .null), (21, .iload_n 1, 1, 0, 0, 0, 0, .null), (22, .invokevirtual 237, 3, 148, 1, 0, 1330, .ref 3), (25, .aload_n 0, 1, 0, 0, 0, 0, .null), (26, .iload_n 2, 1, 0, 0, 0, 0, .null), (27, .invokevirtual 237, 3, 148, 1, 0, 1330, .ref 3), (30, .aload_n 0, 1, 0, 0, 0, 0, .null), (31, .iload_n 3, 1, 0, 0, 0, 0, .null), (32, .invokevirtual 237, 3, 148, 1, 0, 1330, .ref 3), (35, .aload_n 0, 1, 0, 0, 0, 0, .null), (36, .iload 4, 2, 0, 0, 0, 0, .null), (38, .invokevirtual 237, 3, 148, 1, 0, 1330, .ref 3), (41, .aload_n 0, 1, 0, 0, 0, 0, .null), (42, .iload 5, 2, 0, 0, 0, 0, .null), (44, .invokevirtual 237, 3, 148, 1, 0, 1330, .ref 3), (47, .aload_n 0, 1, 0, 0, 0, 0, .null), (48, .getfield 231, 3, 11, 13, 0, 1036, .null), (51, .ireturn, 1, 0, 0, 0, 0, .null)]
noncomputable def sm_o150 : List (Nat × sm_E) := [(0, .aload_n 0, 1, 0, 0, 0, 0, .null), (1, .iconst 0, 1, 0, 0, 0, 0, .int 0), (2, .putfield 158, 3, 11, 0, 0, 1023, .null), (5, .iload_n 1, 1, 0, 0, 0, 0, .null), (6, .ifCond .lt 11, 3, 17, 0, 0, 0, .null), (9, .iload_n 1, 1, 0, 0, 0, 0, .null), (10, .aload_n 0, 1, 0, 0, 0, 0, .null), (11, .getfield 231, 3, 11, 13, 0, 1036, .null), (14, .if_icmp .le 5, 3, 19, 0, 0, 0, .null), (17, .iconst (-1), 1, 0, 0, 0, 0, .int (-1)), (18, .ireturn, 1, 0, 0, 0, 0, .null), (19, .aload_n 0, 1, 0, 0, 0, 0, .null), (20, .iload_n 1, 1, 0, 0, 0, 0, .null), (21, .putfield 231, 3, 11, 13, 0, 1036, .null), (24, .iload_n 1, 1, 0, 0, 0, 0, .null), (25, .ireturn, 1, 0, 0, 0, 0, .null)]
noncomputable def sm_o151 : List (Nat × sm_E) := [(0, .iload_n 0, 1, 0, 0, 0, 0, .null), (1, .bipush 97, 2, 0, 0, 0, 0, .int 97), (3, .if_icmp .lt 13, 3, 16, 0, 0, 0, .null), (6, .iload_n 0, 1, 0, 0, 0, 0, .null), (7, .bipush 122, 2, 0, 0, 0, 0, .int 122), (9, .if_icmp .gt 7, 3, 16, 0, 0, 0, .null), (12, .iconst 1, 1, 0, 0, 0, 0, .int 1), (13, .goto 4, 3, 17, 0, 0, 0, .null), (16, .iconst 0, 1, 0, 0, 0, 0, .int 0), (17, .ireturn, 1, 0, 0, 1, 0, .null)]
noncomputable def sm_o152 : List (Nat × sm_E) := [(0, .iload_n 0, 1, 0, 0, 0, 0, .null), (1, .bipush 48, 2, 0, 0, 0, 0, .int 48), (3, .if_icmp .lt 13, 3, 16, 0, 0, 0, .null), (6, .iload_n 0, 1, 0, 0, 0, 0, .null), (7, .bipush 57, 2, 0, 0, 0, 0, .int 57), (9, .if_icmp .gt 7, 3, 16, 0, 0, 0, .null), (12, .iconst 1, 1, 0, 0, 0, 0, .int 1), (13, .goto 4, 3, 17, 0, 0, 0, .null), (16, .iconst 0, 1, 0, 0, 0, 0, .int 0), (17, .ireturn, 1, 0, 0, 1, 0, .null)]
noncomputable def sm_o153 : List (Nat × sm_E) := [(0, .aload_n 0, 1, 0, 0, 0, 0, .null), (1, .iconst 0, 1, 0, 0, 0, 0, .int 0), (2, .putfield 240, 3, 11, 15, 0, 1038, .null), (5, .aload_n 0, 1, 0, 0, 0, 0, .null), (6, .iconst 0, 1, 0, 0, 0, 0, .int 0), (7, .putfield 243, 3, 11, 19, 3, 1042, .null), (10, .aload_n 0, 1, 0, 0, 0, 0, .null), (11, .iconst (-1), 1, 0, 0, 0, 0, .int (-1)), (12, .putfield 38, 3, 11, 18, 0, 1041, .null), (15, .aload_n 0, 1, 0, 0, 0, 0, .null), (16, .invokevirtual 247, 3, 154, 0, 0, 1354, .ref 1), (19, .return_, 1, 0, 0, 0, 0, .null)]
noncomputable def sm_o154 : List (Nat × sm_E) := [(0, .aload_n 0, 1, 0, 0, 0, 0, .null), (1, .aload_n 0, 1, 0, 0, 0, 0, .null), (2, .getfield 240, 3, 11, 15, 0, 1038, .null), (5, .putfield 250, 3, 11, 14, 0, 1037, .null), (8, .aload_n 0, 1, 0, 0, 0, 0, .null), (9, .getfield 250, 3, 11, 14, 0, 1037, .null), (12, .aload_n 0, 1, 0, 0, 0, 0, .null), (13, .getfield 231, 3, 11, 13, 0, 1036, .null), (16, .if_icmp .ge 30, 3, 46, 0, 0, 0, .null), (19, .aload_n 0, 1, 0, 0, 0, 0, .null), (20, .getfield 35, 3, 11, 12, 2, 1035, .null), (23, .aload_n 0, 1, 0, 0, 0, 0, .null), (24, .getfield 250, 3, 11, 14, 0, 1037, .null), (27, .iaload, 1, 0, 0, 0, 0, .null), (28, .bipush 32, 2, 0, 0, 0, 0, .int 32), (30, .if_icmp .ne 16, 3, 46, 0, 0, 0, .null), (33, .aload_n 0, 1, 0, 0, 0, 0, .null), (34, .dup, 1, 0, 0, 0, 0, .null), (35, .getfield 250, 3, 11, 14, 0, 1037, .null), (38, .iconst 1, 1, 0, 0, 0, 0, .int 1), (39, .iadd, 1, 0, 0, 0, 0, .null), (40, .putfield 250, 3, 11, 14, 0, 1037, .null), (43, .goto (-35), 3, 8, 0, 0, 0, .null), (46, .aload_n 0, 1, 0, 0, 0, 0, .null), (47, .aload_n 0, 1, 0, 0, 0, 0, .null), (48, .getfield 250, 3, 11, 14, 0, 1037, .null), (51, .putfield 240, 3, 11, 15, 0, 1038, .null), (54, .aload_n 0, 1, 0, 0, 0, 0, .null), (55, .lconst 0, 1, 0, 0, 0, 0, .long 0), (56, .putfield 253, 3, 11, 17, 1, 1040, .null), (59, .aload_n 0, 1, 0, 0, 0, 0, .null), (60, .aload_n 0, 1, 0, 0, 0, 0, .null), (61, .getfield 250, 3, 11, 14, 0, 1037, .null), (64, .aload_n 0, 1, 0, 0, 0, 0, .null), (65, .getfield 231, 3, 11, 13, 0, 1036, .null), (68, .if_icmp .ne 7, 3, 75, 0, 0, 0, .null), (71, .iconst 0, 1, 0, 0, 0, 0, .int 0), (72, .goto 42, 3, 114, 0, 0, 0, .null), (75, .aload_n 0, 1, 0, 0, 0, 0, .null), (76, .getfield 35, 3, 11, 12, 2, 1035, .null), (79, .aload_n 0, 1, 0, 0, 0, 0, .null), (80, .getfield 250, 3, 11, 14, 0, 1037, .null), (83, .iaload, 1, 0, 0, 0, 0, .null), (84, .invokestatic 257, 3, 151, 1, 0, 1358, .ref 1), (87, .ifCond .eq 7, 3, 94, 0, 0, 0, .null), (90, .iconst 1, 1, 0, 0, 0, 0, .int 1), (91, .goto 23, 3, 114, 0, 0, 0, .null), (94, .aload_n 0, 1, 0, 0, 0, 0, .null), (95, .getfield 35, 3, 11, 12, 2, 1035, .null), (98, .aload_n 0, 1, 0, 0, 0, 0, .null), (99, .getfield 250, 3, 11, 14, 0, 1037, .null), (102, .iaload, 1, 0, 0, 0, 0, .null), (103, .invokestatic 260, 3, 152, 1, 0, 1361, .ref 1), (106, .ifCond .eq 7, 3, 113, 0, 0, 0, .null), (109, .iconst 2, 1, 0, 0, 0, 0, .int 2), (110, .goto 4, 3, 114, 0, 0, 0, .null), (113, .iconst 3, 1, 0, 0, 0, 0, .int 3), (114, .putfield 263, 3, 11, 16, 0, 1039, .null), (117, .aload_n 0, 1, 0, 0, 0, 0, .null), (118, .getfield 263, 3, 11, 16, 0, 1039, .null), (121, .iconst 3, 1, 0, 0, 0, 0, .int 3), (122, .if_icmp .ne 27, 3, 149, 0, 0, 0, .null), (125, .aload_n 0, 1, 0, 0, 0, 0, .null), (126, .aload_n 0, 1, 0, 0, 0, 0, .null), (127, .getfield 35, 3, 11, 12, 2, 1035, .null), (130, .aload_n 0, 1, 0, 0, 0, 0, .null), (131, .getfield 250, 3, 11, 14, 0, 1037, .null), (134, .iaload, 1, 0, 0, 0, 0, .null), (135, .i2l, 1, 0, 0, 0, 0, .null), (136, .putfield 253, 3, 11, 17, 1, 1040, .null), (139, .aload_n 0, 1, 0, 0, 0, 0, .null), (140, .dup, 1, 0, 0, 0, 0, .null), (141, .getfield 240, 3, 11, 15, 0, 1038, .null), (144, .iconst 1, 1, 0, 0, 0, 0, .int 1), (145, .iadd, 1, 0, 0, 0, 0, .null), (146, .putfield 240, 3, 11, 15, 0, 1038, .null), (149, .aload_n 0, 1, 0, 0, 0, 0, .null), (150, .getfield 263, 3, 11, 16, 0, 1039, .null), (153, .iconst 1, 1, 0, 0, 0, 0, .int 1), (154, .if_icmp .ne 89, 3, 243, 0, 0, 0, .null), (157, .aload_n 0, 1, 0, 0, 0, 0, .null), (158, .getfield 240, 3, 11, 15, 0, 1038, .null), (161, .aload_n 0, 1, 0, 0, 0, 0, .null), (162, .getfield 231, 3, 11, 13, 0, 1036, .null), (165, .if_icmp .ge 78, 3, 243, 0, 0, 0, .null), (168, .aload_n 0, 1, 0, 0, 0, 0, .null), (169, .getfield 35, 3, 11, 12, 2, 1035, .null), (172, .aload_n 0, 1, 0, 0, 0, 0, .null), (173, .getfield 240, 3, 11, 15, 0, 1038, .null), (176, .iaload, 1, 0, 0, 0, 0, .null), (177, .invokestatic 257, 3, 151, 1, 0, 1358, .ref 1), (180, .ifCond .eq 63, 3, 243, 0, 0, 0, .null), (183, .aload_n 0, 1, 0, 0, 0, 0, .null), (184, .aload_n 0, 1, 0, 0, 0, 0, .null), (185, .getfield 240, 3, 11, 15, 0, 1038, .null), (188, .aload_n 0, 1, 0, 0, 0, 0, .null), (189, .getfield 250, 3, 11, 14, 0, 1037, .null), (192, .isub, 1, 0, 0, 0, 0, .null), (193, .bipush 10, 2, 0, 0, 0, 0, .int 10), (195, .if_icmp .ge 29, 3, 224, 0, 0, 0, .null), (198, .aload_n 0, 1, 0, 0, 0, 0, .null), (199, .getfield 253, 3, 11, 17, 1, 1040, .null), (202, .ldc2_w 266, 3, 0, 0, 0, 1364, .long 32), (205, .lmul, 1, 0, 0, 0, 0, .null), (206, .aload_n 0, 1, 0, 0, 0, 0, .null), (207, .getfield 35, 3, 11, 12, 2, 1035, .null), (210, .aload_n 0, 1, 0, 0, 0, 0, .null), (211, .getfield 240, 3, 11, 15, 0, 1038, .null), (214, .iaload, 1, 0, 0, 0, 0, .null), (215, .i2l, 1, 0, 0, 0, 0, .null), (216, .ladd, 1, 0, 0, 0, 0, .null), (217, .ldc2_w 268, 3, 0, 0, 0, 1365, .long 96), (220, .lsub, 1, 0, 0, 0, 0, .null), (221, .goto 6, 3, 227, 0, 0, 0, .null), (224, .ldc2_w 270, 3, 0, 0, 0, 1258, .long (-1)), (227, .putfield 253, 3, 11, 17, 1, 1040, .null), (230, .aload_n 0, 1, 0, 0, 0, 0, .null), (231, .dup, 1, 0, 0, 0, 0, .null), (232, .getfield 240, 3, 11, 15, 0, 1038, .null), (235, .iconst 1, 1, 0, 0, 0, 0, .int 1), (236, .iadd, 1, 0, 0, 0, 0, .null), (237, .putfield 240, 3, 11, 15, 0, 1038, .null), (240, .goto (-91), 3, 149, 0, 0, 0, .null), (243, .aload_n 0, 1, 0, 0, 0, 0, .null), (244, .getfield 263, 3, 11, 16, 0, 1039, .null), (247, .iconst 2, 1, 0, 0, 0, 0, .int 2), (248, .if_icmp .ne 87, 3, 335, 0, 0, 0, .null), (251, .aload_n 0, 1, 0, 0, 0, 0, .null), (252, .getfield 240, 3, 11, 15, 0, 1038, .null), (255, .aload_n 0, 1, 0, 0, 0, 0, .null), (256, .getfield 231, 3, 11, 13, 0, 1036, .null), (259, .if_icmp .ge 76, 3, 335, 0, 0, 0, .null), (262, .aload_n 0, 1, 0, 0, 0, 0, .null), (263, .getfield 35, 3, 11, 12, 2, 1035, .null), (266, .aload_n 0, 1, 0, 0, 0, 0, .null), (267, .getfield 240, 3, 11, 15, 0, 1038, .null), (270, .iaload, 1, 0, 0, 0, 0, .null), (271, .invokestatic 260, 3, 152, 1, 0, 1361, .ref 1), (274, .ifCond .eq 61, 3, 335, 0, 0, 0, .null), (277, .aload_n 0, 1, 0, 0, 0, 0, .null), (278, .aload_n 0, 1, 0, 0, 0, 0, .null), (279, .getfield 253, 3, 11, 17, 1, 1040, .null), (282, .ldc2_w 272, 3, 0, 0, 0, 1366, .long 1000000), (285, .lcmp, 1, 0, 0, 0, 0, .null), (286, .ifCond .le 10, 3, 296, 0, 0, 0, .null), (289, .aload_n 0, 1, 0, 0, 0, 0, .null), (290, .getfield 253, 3, 11, 17, 1, 1040, .null), (293, .goto 26, 3, 319, 0, 0, 0, .null), (296, .aload_n 0, 1, 0, 0, 0, 0, .null), (297, .getfield 253, 3, 11, 17, 1, 1040, .null), (300, .ldc2_w 224, 3, 0, 0, 0, 1312, .long 10), (303, .lmul, 1, 0, 0, 0, 0, .null), (304, .aload_n 0, 1, 0, 0, 0, 0, .null), (305, .getfield 35, 3, 11, 12, 2, 1035, .null), (308, .aload_n 0, 1, 0, 0, 0, 0, .null), (309, .getfield 240, 3, 11, 15, 0, 1038, .null), (312, .iaload, 1, 0, 0, 0, 0, .null), (313, .i2l, 1, 0, 0, 0, 0, .null), (314, .ladd, 1, 0, 0, 0, 0, .null), (315, .ldc2_w 274, 3, 0, 0, 0, 1367, .long 48), (318, .lsub, 1, 0, 0, 0, 0, .null), (319, .putfield 253, 3, 11, 17, 1, 1040, .null), (322, .aload_n 0, 1, 0, 0, 0, 0, .null), (323, .dup, 1, 0, 0, 0, 0, .null), (324, .getfield 240, 3, 11, 15, 0, 1038, .null), (327, .iconst 1, 1, 0, 0, 0, 0, .int 1), (328, .iadd, 1, 0, 0, 0, 0, .null), (329, .putfield 240, 3, 11, 15, 0, 1038, .null), (332, .goto (-89), 3, 243, 0, 0, 0, .null), (335, .return_, 1, 0, 0, 0, 0, .null)]
noncomputable def sm_o155 : List (Nat × sm_E) := [(0, .aload_n 0, 1, 0, 0, 0, 0, .null), (1, .getfield 263, 3, 11, 16, 0, 1039, .null), (4, .iconst 1, 1, 0, 0, 0, 0, .int 1), (5, .if_icmp .ne 16, 3, 21, 0, 0, 0, .null), (8, .aload_n 0, 1, 0, 0, 0, 0, .null), (9, .getfield 253, 3, 11, 17, 1, 1040, .null), (12, .lload_n 1, 1, 0, 0, 0, 0, .null), (13, .lcmp, 1, 0, 0, 0, 0, .null), (14, .ifCond .ne 7, 3, 21, 0, 0, 0, .null), (17, .iconst 1, 1, 0, 0, 0, 0, .int 1), (18, .goto 4, 3, 22, 0, 0, 0, .null), (21, .iconst 0, 1, 0, 0, 0, 0, .int 0), (22, .ireturn, 1, 0, 0, 1, 0, .null)]
noncomputable def sm_o156 : List (Nat × sm_E) := [(0, .aload_n 0, 1, 0, 0, 0, 0, .null), (1, .getfield 263, 3, 11, 16, 0, 1039, .null), (4, .iconst 3, 1, 0, 0, 0, 0, .int 3), (5, .if_icmp .ne 17, 3, 22, 0, 0, 0, .null), (8, .aload_n 0, 1, 0, 0, 0, 0, .null), (9, .getfield 253, 3, 11, 17, 1, 1040, .null), (12, .iload_n 1, 1, 0, 0, 0, 0, .null), (13, .i2l, 1, 0, 0, 0, 0, .null), (14, .lcmp, 1, 0, 0, 0, 0, .null), (15, .ifCond .ne 7, 3, 22, 0, 0, 0, .null), (18, .iconst 1, 1, 0, 0, 0, 0, .int 1), (19, .goto 4, 3, 23, 0, 0, 0, .null), (22, .iconst 0, 1, 0, 0, 0, 0, .int 0), (23, .ireturn, 1, 0, 0, 1, 0, .null)]
noncomputable def sm_o157 : List (Nat × sm_E) := [(0, .aload_n 0, 1, 0, 0, 0, 0, .null), (1, .getfield 243, 3, 11, 19, 3, 1042, .null), (4, .ifCond .ne 20, 3, 24, 0, 0, 0, .null), (7, .iload_n 1, 1, 0, 0, 0, 0, .null), (8, .ifCond .ne 16, 3, 24, 0, 0, 0, .null), (11, .aload_n 0, 1, 0, 0, 0, 0, .null), (12, .iconst 1, 1, 0, 0, 0, 0, .int 1), (13, .putfield 243, 3, 11, 19, 3, 1042, .null), (16, .aload_n 0, 1, 0, 0, 0, 0, .null), (17, .aload_n 0, 1, 0, 0, 0, 0, .null), (18, .getfield 250, 3, 11, 14, 0, 1037, .null), (21, .putfield 38, 3, 11, 18, 0, 1041, .null), (24, .aload_n 0, 1, 0, 0, 0, 0, .null), (25, .getfield 243, 3, 11, 19, 3, 1042, .null), (28, .ifCond .ne 7, 3, 35, 0, 0, 0, .null), (31, .aload_n 0, 1, 0, 0, 0, 0, .null), (32, .invokevirtual 247, 3, 154, 0, 0, 1354, .ref 1), (35, .return_, 1, 0, 0, 0, 0, .null)]
noncomputable def sm_o158 : List (Nat × sm_E) := [(0, .aload_n 0, 1, 0, 0, 0, 0, .null), (1, .getfield 253, 3, 11, 17, 1, 1040, .null), (4, .l2i, 1, 0, 0, 0, 0, .null), (5, .istore 5, 2, 0, 0, 0, 0, .null), (7, .aload_n 0, 1, 0, 0, 0, 0, .null), (8, .aload_n 0, 1, 0, 0, 0, 0, .null), (9, .getfield 263, 3, 11, 16, 0, 1039, .null), (12, .iconst 2, 1, 0, 0, 0, 0, .int 2), (13, .if_icmp .ne 19, 3, 32, 0, 0, 0, .null), (16, .aload_n 0, 1, 0, 0, 0, 0, .null), (17, .getfield 253, 3, 11, 17, 1, 1040, .null), (20, .lload_n 1, 1, 0, 0, 0, 0, .null), (21, .lload_n 3, 1, 0, 0, 0, 0, .null), (22, .invokestatic 178, 3, 124, 3, 0, 1221, .ref 6), (25, .ifCond .eq 7, 3, 32, 0, 0, 0, .null), (28, .iconst 1, 1, 0, 0, 0, 0, .int 1), (29, .goto 4, 3, 33, 0, 0, 0, .null), (32, .iconst 0, 1, 0, 0, 0, 0, .int 0), (33, .invokevirtual 276, 3, 157, 1, 0, 1376, .ref 2), (36, .iload 5, 2, 0, 0, 0, 0, .null), (38, .ireturn, 1, 0, 0, 0, 0, .null)]
noncomputable def sm_o159 : List (Nat × sm_E) := [(0, .aload_n 0, 1, 0, 0, 0, 0, .null), (1, .iconst 0, 1, 0, 0, 0, 0, .int 0), (2, .putfield 158, 3, 11, 0, 0, 1023, .null), (5, .aload_n 0, 1, 0, 0, 0, 0, .null), (6, .getfield 38, 3, 11, 18, 0, 1041, .null), (9, .ireturn, 1, 0, 0, 0, 0, .null)]
noncomputable def sm_o160 : List (Nat × sm_E) := [(0, .aload_n 0, 1, 0, 0, 0, 0, .null), (1, .getfield 45, 3, 11, 24, 2, 1047, .null), (4, .aload_n 0, 1, 0, 0, 0, 0, .null), (5, .getfield 280, 3, 11, 23, 0, 1046, .null), (8, .iload_n 1, 1, 0, 0, 0, 0, .null), (9, .iastore, 1, 0, 0, 0, 0, .null), (10, .aload_n 0, 1, 0, 0, 0, 0, .null), (11, .getfield 48, 3, 11, 25, 2, 1048, .null), (14, .aload_n 0, 1, 0, 0, 0, 0, .null), (15, .getfield 280, 3, 11, 23, 0, 1046, .null), (18, .iload_n 2, 1, 0, 0, 0, 0, .null), (19, .iastore, 1, 0, 0, 0, 0, .null), (20, .aload_n 0, 1, 0, 0, 0, 0, .null), (21, .dup, 1, 0, 0, 0, 0, .null), (22, .getfield 280, 3, 11, 23, 0, 1046, .null), (25, .iconst 1, 1, 0, 0, 0, 0, .int 1), (26, .iadd, 1, 0, 0, 0, 0, .null), (27, .putfield 280, 3, 11, 23, 0, 1046, .null), (30, .return_, 1, 0, 0, 0, 0, .null)]
noncomputable def sm_o161 : List (Nat × sm_E) := [(0, .aload_n 0, 1, 0, 0, 0, 0, .null), (1, .getfield 51, 3, 11, 27, 2, 1050, .null), (4, .aload_n 0, 1, 0, 0, 0, 0, .null), (5, .getfield 283, 3, 11, 29, 0, 1052, .null), (8, .iload_n 1, 1, 0, 0, 0, 0, .null), (9, .iastore, 1, 0, 0, 0, 0, .null), (10, .aload_n 0, 1, 0, 0, 0, 0, .null), (11, .getfield 54, 3, 11, 28, 2, 1051, .null), (14, .aload_n 0, 1, 0, 0, 0, 0, .null), (15, .getfield 283, 3, 11, 29, 0, 1052, .null), (18, .iload_n 2, 1, 0, 0, 0, 0, .null), (19, .iastore, 1, 0, 0, 0, 0, .null), (20, .aload_n 0, 1, 0, 0, 0, 0, .null), (21, .dup, 1, 0, 0, 0, 0, .null), (22, .getfield 283, 3, 11, 29, 0, 1052, .null), (25, .iconst 1, 1, 0, 0, 0, 0, .int 1), (26, .iadd, 1, 0, 0, 0, 0, .null), (27, .putfield 283, 3, 11, 29, 0, 1052, .null), (30, .return_, 1, 0, 0, 0, 0, .null)]
noncomputable def sm_o162 : List (Nat × sm_E) := [(0, .iload_n 0, 1, 0, 0, 0, 0, .null), (1, .bipush 31, 2, 0, 0, 0, 0, .int 31), (3, .if_icmp .lt 7, 3, 10, 0, 0, 0, .null), (6, .iconst 0, 1, 0, 0, 0, 0, .int 0), (7, .goto 55, 3, 62, 0, 0, 0, .null), (10, .iload_n 0, 1, 0, 0, 0, 0, .null), (11, .bipush 30, 2, 0, 0, 0, 0, .int 30), (13, .if_icmp .ne 7, 3, 20, 0, 0, 0, .null), (16, .iconst 1, 1, 0, 0, 0, 0, .int 1), (17, .goto 45, 3, 62, 0, 0, 0, .null), (20, .iload_n 0, 1, 0, 0, 0, 0, .null), (21, .bipush 29, 2, 0, 0, 0, 0, .int 29), (23, .if_icmp .ne 7, 3, 30, 0, 0, 0, .null), (26, .iconst 2, 1, 0, 0, 0, 0, .int 2), (27, .goto 35, 3, 62, 0, 0, 0, .null), (30, .iload_n 0, 1, 0, 0, 0, 0, .null), (31, .bipush 28, 2, 0, 0, 0, 0, .int 28), (33, .if_icmp .ne 7, 3, 40, 0, 0, 0, .null), (36, .iconst 3, 1, 0, 0, 0, 0, .int 3), (37, .goto 25, 3, 62, 0, 0, 0, .null), (40, .iload_n 0, 1, 0, 0, 0, 0, .null), (41, .bipush 25, 2, 0, 0, 0, 0, .int 25), (43, .if_icmp .lt 7, 3, 50, 0, 0, 0, .null), (46, .iconst 4, 1, 0, 0, 0, 0, .int 4), (47, .goto 15, 3, 62, 0, 0, 0, .null), (50, .iload_n 0, 1, 0, 0, 0, 0, .null), (51, .bipush 22, 2, 0, 0, 0, 0, .int 22), (53, .if_icmp .lt 8, 3, 61, 0, 0, 0, .null), (56, .bipush 6, 2, 0, 0, 0, 0, .int 6), (58, .goto 4, 3, 62, 0, 0, 0, .null), (61, .iconst 5, 1, 0, 0, 0, 0, .int 5), (62, .ireturn, 1, 0, 0, 0, 0, .null)]
noncomputable def sm_o163 : List (Nat × sm_E) := [(0, .aload_n 0, 1, 0, 0, 0, 0, .null), (1, .getfield 283, 3, 11, 29, 0, 1052, .null), (4, .ifCond .le 97, 3, 101, 0, 0, 0, .null), (7, .aload_n 0, 1, 0, 0, 0, 0, .null), (8, .getfield 51, 3, 11, 27, 2, 1050, .null), (11, .aload_n 0, 1, 0, 0, 0, 0, .null), (12, .getfield 283, 3, 11, 29, 0, 1052, .null), (15, .iconst 1, 1, 0, 0, 0, 0, .int 1), (16, .isub, 1, 0, 0, 0, 0, .null), (17, .iaload, 1, 0, 0, 0, 0, .null), (18, .invokestatic 286, 3, 162, 1, 0, 1431, .ref 1), (21, .iload_n 1, 1, 0, 0, 0, 0, .null), (22, .if_icmp .lt 79, 3, 101, 0, 0, 0, .null), (25, .aload_n 0, 1, 0, 0, 0, 0, .null), (26, .dup, 1, 0, 0, 0, 0, .null), (27, .getfield 283, 3, 11, 29, 0, 1052, .null), (30, .iconst 1, 1, 0, 0, 0, 0, .int 1), (31, .isub, 1, 0, 0, 0, 0, .null), (32, .putfield 283, 3, 11, 29, 0, 1052, .null), (35, .aload_n 0, 1, 0, 0, 0, 0, .null), (36, .getfield 51, 3, 11, 27, 2, 1050, .null), (39, .aload_n 0, 1, 0, 0, 0, 0, .null), (40, .getfield 283, 3, 11, 29, 0, 1052, .null), (43, .iaload, 1, 0, 0, 0, 0, .null), (44, .bipush 29, 2, 0, 0, 0, 0, .int 29), (46, .if_icmp .eq 17, 3, 63, 0, 0, 0, .null), (49, .aload_n 0, 1, 0, 0, 0, 0, .null), (50, .getfield 51, 3, 11, 27, 2, 1050, .null), (53, .aload_n 0, 1, 0, 0, 0, 0, .null), (54, .getfield 283, 3, 11, 29, 0, 1052, .null), (57, .iaload, 1, 0, 0, 0, 0, .null), (58, .bipush 30, 2, 0, 0, 0, 0, .int 30), (60, .if_icmp .ne 24, 3, 84, 0, 0, 0, .null), (63, .aload_n 0, 1, 0, 0, 0, 0, .null), (64, .getfield 48, 3, 11, 25, 2, 1048, .null), (67, .aload_n 0, 1, 0, 0, 0, 0, .null), (68, .getfield 54, 3, 11, 28, 2, 1051, .null), (71, .aload_n 0, 1, 0, 0, 0, 0, .null), (72, .getfield 283, 3, 11, 29, 0, 1052, .null), (75, .iaload, 1, 0, 0, 0, 0, .null), (76, .aload_n 0, 1, 0, 0, 0, 0, .null), (77, .getfield 280, 3, 11, 23, 0, 1046, .null), (80, .iastore, 1, 0, 0, 0, 0, .null), (81, .goto (-81), 3, 0, 0, 0, 0, .null), (84, .aload_n 0, 1, 0, 0, 0, 0, .null), (85, .aload_n 0, 1, 0, 0, 0, 0, .null), (86, .getfield 51, 3, 11, 27, 2, 1050, .null), (89, .aload_n 0, 1, 0, 0, 0, 0, .null), (90, .getfield 283, 3, 11, 29, 0, 1052, .null), (93, .iaload, 1, 0, 0, 0, 0, .null), (94, .iconst 0, 1, 0, 0, 0, 0, .int 0), (95, .invokevirtual 289, 3, 160, 2, 0, 1418, .ref 3), (98, .goto (-98), 3, 0, 0, 0, 0, .null), (101, .return_, 1, 0, 0, 0, 0, .null)]
noncomputable def sm_o164 : List (Nat × sm_E) := [(0, .iconst (-1), 1, 0, 0, 0, 0, .int (-1)), (1, .istore_n 1, 1, 0, 0, 0, 0, .null), (2, .iconst 0, 1, 0, 0, 0, 0, .int 0), (3, .istore_n 2, 1, 0, 0, 0, 0, .null), (4, .iload_n 2, 1, 0, 0, 0, 0, .null), (5, .aload_n 0, 1, 0, 0, 0, 0, .null), (6, .getfield 283, 3, 11, 29, 0, 1052, .null), (9, .if_icmp .ge 31, 3, 40, 0, 0, 0, .null), (12, .aload_n 0, 1, 0, 0, 0, 0, .null), (13, .getfield 51, 3, 11, 27, 2, 1050, .null), (16, .iload_n 2, 1, 0, 0, 0, 0, .null), (17, .iaload, 1, 0, 0, 0, 0, .null), (18, .bipush 31, 2, 0, 0, 0, 0, .int 31), (20, .if_icmp .lt 12, 3, 32, 0, 0, 0, .null), (23, .aload_n 0, 1, 0, 0, 0, 0, .null), (24, .getfield 51, 3, 11, 27, 2, 1050, .null), (27, .iload_n 2, 1, 0, 0, 0, 0, .null), (28, .iaload, 1, 0, 0, 0, 0, .null), (29, .goto 4, 3, 33, 0, 0, 0, .null), (32, .iload_n 1, 1, 0, 0, 0, 0, .null), (33, .istore_n 1, 1, 0, 0, 0, 0, .null), (34, .iinc 2 1, 3, 0, 0, 0, 0, .int 1), (37, .goto (-33), 3, 4, 0, 0, 0, .null), (40, .iload_n 1, 1, 0, 0, 0, 0, .null), (41, .ireturn, 1, 0, 0, 0, 0, .null)]
noncomputable def sm_o165 : List (Nat × sm_E) := [(0, .aload_n 0, 1, 0, 0, 0, 0, .null), (1, .getfield 283, 3, 11, 29, 0, 1052, .null), (4, .iconst 1, 1, 0, 0, 0, 0, .int 1), (5, .isub, 1, 0, 0, 0, 0, .null), (6, .istore_n 1, 1, 0, 0, 0, 0, .null), (7, .iload_n 1, 1, 0, 0, 0, 0, .null), (8, .ifCond .lt 28, 3, 36, 0, 0, 0, .null), (11, .aload_n 0, 1, 0, 0, 0, 0, .null), (12, .getfield 51, 3, 11, 27, 2, 1050, .null), (15, .iload_n 1, 1, 0, 0, 0, 0, .null), (16, .iaload, 1, 0, 0, 0, 0, .null), (17, .i2l, 1, 0, 0, 0, 0, .null), (18, .ldc2_w 293, 3, 0, 0, 0, 1446, .long 20), (21, .ldc2_w 295, 3, 0, 0, 0, 1447, .long 24), (24, .invokestatic 178, 3, 124, 3, 0, 1221, .ref 6), (27, .ifCond .eq 9, 3, 36, 0, 0, 0, .null), (30, .iinc 1 (-1), 3, 0, 0, 0, 0, .int (-1)), (33, .goto (-26), 3, 7, 0, 0, 0, .null), (36, .iload_n 1, 1, 0, 0, 0, 0, .null), (37, .ifCond .lt 26, 3, 63, 0, 0, 0, .null), (40, .aload_n 0, 1, 0, 0, 0, 0, .null), (41, .getfield 51, 3, 11, 27, 2, 1050, .null), (44, .iload_n 1, 1, 0, 0, 0, 0, .null), (45, .iaload, 1, 0, 0, 0, 0, .null), (46, .i2l, 1, 0, 0, 0, 0, .null), (47, .ldc2_w 297, 3, 0, 0, 0, 1448, .long 25), (50, .ldc2_w 299, 3, 0, 0, 0, 1449, .long 27), (53, .invokestatic 178, 3, 124, 3, 0, 1221, .ref 6), (56, .ifCond .eq 7, 3, 63, 0, 0, 0, .null), (59, .iconst 1, 1, 0, 0, 0, 0, .int 1), (60, .goto 4, 3, 64, 0, 0, 0, .null), (63, .iconst 0, 1, 0, 0, 0, 0, .int 0), (64, .ireturn, 1, 0, 0, 1, 0, .null)]
noncomputable def sm_o166 : List (Nat × sm_E) := [(0, .iconst (-1), 1, 0, 0, 0, 0, .int (-1)), (1, .istore_n 1, 1, 0, 0, 0, 0, .null), (2, .iconst 0, 1, 0, 0, 0, 0, .int 0), (3, .istore_n 2, 1, 0, 0, 0, 0, .null), (4, .iload_n 2, 1, 0, 0, 0, 0, .null), (5, .bipush 8, 2, 0, 0, 0, 0, .int 8), (7, .if_icmp .ge 30, 3, 37, 0, 0, 0, .null), (10, .aload_n 0, 1, 0, 0, 0, 0, .null), (11, .aload_n 0, 1, 0, 0, 0, 0, .null), (12, .getfield 73, 3, 11, 31, 2, 1054, .null), (15, .iload_n 2, 1, 0, 0, 0, 0, .null), (16, .laload, 1, 0, 0, 0, 0, .null), (17, .invokevirtual 301, 3, 155, 1, 0, 1372, .ref 3), (20, .ifCond .eq 9, 3, 29, 0, 0, 0, .null), (23, .iload_n 2, 1, 0, 0, 0, 0, .null), (24, .iconst 1, 1, 0, 0, 0, 0, .int 1), (25, .iadd, 1, 0, 0, 0, 0, .null), (26, .goto 4, 3, 30, 0, 0, 0, .null), (29, .iload_n 1, 1, 0, 0, 0, 0, .null), (30, .istore_n 1, 1, 0, 0, 0, 0, .null), (31, .iinc 2 1, 3, 0, 0, 0, 0, .int 1), (34, .goto (-30), 3, 4, 0, 0, 0, .null), (37, .iload_n 1, 1, 0, 0, 0, 0, .null), (38, .ireturn, 1, 0, 0, 0, 0, .null)]
noncomputable def sm_o167 : List (Nat × sm_E) := [(0, .iconst (-1), 1, 0, 0, 0, 0, .int (-1)), (1, .istore_n 1, 1, 0, 0, 0, 0, .null), (2, .iconst 0, 1, 0, 0, 0, 0, .int 0), (3, .istore_n 2, 1, 0, 0, 0, 0, .null), (4, .iload_n 2, 1, 0, 0, 0, 0, .null), (5, .bipush 7, 2, 0, 0, 0, 0, .int 7), (7, .if_icmp .ge 30, 3, 37, 0, 0, 0, .null), (10, .aload_n 0, 1, 0, 0, 0, 0, .null), (11, .aload_n 0, 1, 0, 0, 0, 0, .null), (12, .getfield 85, 3, 11, 32, 2, 1055, .null), (15, .iload_n 2, 1, 0, 0, 0, 0, .null), (16, .laload, 1, 0, 0, 0, 0, .null), (17, .invokevirtual 301, 3, 155, 1, 0, 1372, .ref 3), (20, .ifCond .eq 9, 3, 29, 0, 0, 0, .null), (23, .iload_n 2, 1, 0, 0, 0, 0, .null), (24, .iconst 1, 1, 0, 0, 0, 0, .int 1), (25, .iadd, 1, 0, 0, 0, 0, .null), (26, .goto 4, 3, 30, 0, 0, 0, .null), (29, .iload_n 1, 1, 0, 0, 0, 0, .null), (30, .istore_n 1, 1, 0, 0, 0, 0, .null), (31, .iinc 2 1, 3, 0, 0, 0, 0, .int 1), (34, .goto (-30), 3, 4, 0, 0, 0, .null), (37, .iload_n 1, 1, 0, 0, 0, 0, .null), (38, .ireturn, 1, 0, 0, 0, 0, .null)]
noncomputable def sm_o168 : List (Nat × sm_E) := [(0, .aload_n 0, 1, 0, 0, 0, 0, .null), (1, .aload_n 0, 1, 0, 0, 0, 0, .null), (2, .getfield 305, 3, 11, 30, 0, 1053, .null), (5, .bipush 8, 2, 0, 0, 0, 0, .int 8), (7, .if_icmp .ge 7, 3, 14, 0, 0, 0, .null), (10, .iconst 1, 1, 0, 0, 0, 0, .int 1), (11, .goto 4, 3, 15, 0, 0, 0, .null), (14, .iconst 0, 1, 0, 0, 0, 0, .int 0), (15, .invokevirtual 276, 3, 157, 1, 0, 1376, .ref 2), (18, .aload_n 0, 1, 0, 0, 0, 0, .null), (19, .getfield 243, 3, 11, 19, 3, 1042, .null), (22, .ifCond .ne 19, 3, 41, 0, 0, 0, .null), (25, .aload_n 0, 1, 0, 0, 0, 0, .null), (26, .dup, 1, 0, 0, 0, 0, .null), (27, .getfield 305, 3, 11, 30, 0, 1053, .null), (30, .iconst 1, 1, 0, 0, 0, 0, .int 1), (31, .iadd, 1, 0, 0, 0, 0, .null), (32, .putfield 305, 3, 11, 30, 0, 1053, .null), (35, .aload_n 0, 1, 0, 0, 0, 0, .null), (36, .iload_n 1, 1, 0, 0, 0, 0, .null), (37, .iconst 0, 1, 0, 0, 0, 0, .int 0), (38, .invokevirtual 308, 3, 161, 2, 0, 1389, .ref 3), (41, .return_, 1, 0, 0, 0, 0, .null)]
noncomputable def sm_o169 : List (Nat × sm_E) := [(0, .aload_n 0, 1, 0, 0, 0, 0, .null), (1, .iload_n 1, 1, 0, 0, 0, 0, .null), (2, .ifCond .eq 16, 3, 18, 0, 0, 0, .null), (5, .aload_n 0, 1, 0, 0, 0, 0, .null), (6, .getfield 311, 3, 11, 26, 0, 1049, .null), (9, .bipush 50, 2, 0, 0, 0, 0, .int 50), (11, .if_icmp .ge 7, 3, 18, 0, 0, 0, .null), (14, .iconst 1, 1, 0, 0, 0, 0, .int 1), (15, .goto 4, 3, 19, 0, 0, 0, .null), (18, .iconst 0, 1, 0, 0, 0, 0, .int 0), (19, .invokevirtual 276, 3, 157, 1, 0, 1376, .ref 2), (22, .aload_n 0, 1, 0, 0, 0, 0, .null), (23, .getfield 243, 3, 11, 19, 3, 1042, .null), (26, .ifCond .ne 19, 3, 45, 0, 0, 0, .null), (29, .aload_n 0, 1, 0, 0, 0, 0, .null), (30, .iload_n 2, 1, 0, 0, 0, 0, .null), (31, .iload_n 3, 1, 0, 0, 0, 0, .null), (32, .invokevirtual 289, 3, 160, 2, 0, 1418, .ref 3), (35, .aload_n 0, 1, 0, 0, 0, 0, .null), (36, .dup, 1, 0, 0, 0, 0, .null), (37, .getfield 311, 3, 11, 26, 0, 1049, .null), (40, .iconst 1, 1, 0, 0, 0, 0, .int 1), (41, .iadd, 1, 0, 0, 0, 0, .null), (42, .putfield 311, 3, 11, 26, 0, 1049, .null), (45, .return_, 1, 0, 0, 0, 0, .null)]
noncomputable def sm_o170 : List (Nat × sm_E) := [(0, .aload_n 0, 1, 0, 0, 0, 0, .null), (1, .bipush 91, 2, 0, 0, 0, 0, .int 91), (3, .invokevirtual 314, 3, 156, 1, 0, 1393, .ref 2), (6, .ifCond .eq 11, 3, 17, 0, 0, 0, .null), (9, .aload_n 0, 1, 0, 0, 0, 0, .null), (10, .bipush 32, 2, 0, 0, 0, 0, .int 32), (12, .invokevirtual 317, 3, 168, 1, 0, 1397, .ref 2), (15, .iconst 1, 1, 0, 0, 0, 0, .int 1), (16, .ireturn, 1, 0, 0, 0, 0, .null), (17, .aload_n 0, 1, 0, 0, 0, 0, .null), (18, .getfield 320, 3, 11, 20, 3, 1043, .null), (21, .ifCond .eq 10, 3, 31, 0, 0, 0, .null), (24, .aload_n 0, 1, 0, 0, 0, 0, .null), (25, .invokevirtual 323, 3, 167, 0, 0, 1405, .ref 3), (28, .goto 7, 3, 35, 0, 0, 0, .null), (31, .aload_n 0, 1, 0, 0, 0, 0, .null), (32, .invokevirtual 327, 3, 166, 0, 0, 1409, .ref 3), (35, .istore_n 1, 1, 0, 0, 0, 0, .null), (36, .aload_n 0, 1, 0, 0, 0, 0, .null), (37, .getfield 263, 3, 11, 16, 0, 1039, .null), (40, .iconst 2, 1, 0, 0, 0, 0, .int 2), (41, .if_icmp .ne 18, 3, 59, 0, 0, 0, .null), (44, .aload_n 0, 1, 0, 0, 0, 0, .null), (45, .getfield 253, 3, 11, 17, 1, 1040, .null), (48, .ldc2_w 330, 3, 0, 0, 0, 1413, .long 1000), (51, .lcmp, 1, 0, 0, 0, 0, .null), (52, .ifCond .gt 7, 3, 59, 0, 0, 0, .null), (55, .iconst 1, 1, 0, 0, 0, 0, .int 1), (56, .goto 4, 3, 60, 0, 0, 0, .null), (59, .iconst 0, 1, 0, 0, 0, 0, .int 0), (60, .istore_n 2, 1, 0, 0, 0, 0, .null), (61, .aload_n 0, 1, 0, 0, 0, 0, .null), (62, .iload_n 1, 1, 0, 0, 0, 0, .null), (63, .iconst (-1), 1, 0, 0, 0, 0, .int (-1)), (64, .if_icmp .ne 7, 3, 71, 0, 0, 0, .null), (67, .iload_n 2, 1, 0, 0, 0, 0, .null), (68, .ifCond .eq 7, 3, 75, 0, 0, 0, .null), (71, .iconst 1, 1, 0, 0, 0, 0, .int 1), (72, .goto 4, 3, 76, 0, 0, 0, .null), (75, .iconst 0, 1, 0, 0, 0, 0, .int 0), (76, .iload_n 1, 1, 0, 0, 0, 0, .null), (77, .iconst (-1), 1, 0, 0, 0, 0, .int (-1)), (78, .if_icmp .ne 7, 3, 85, 0, 0, 0, .null), (81, .iconst 0, 1, 0, 0, 0, 0, .int 0), (82, .goto 4, 3, 86, 0, 0, 0, .null), (85, .iload_n 1, 1, 0, 0, 0, 0, .null), (86, .iload_n 2, 1, 0, 0, 0, 0, .null), (87, .ifCond .eq 11, 3, 98, 0, 0, 0, .null), (90, .aload_n 0, 1, 0, 0, 0, 0, .null), (91, .getfield 253, 3, 11, 17, 1, 1040, .null), (94, .l2i, 1, 0, 0, 0, 0, .null), (95, .goto 4, 3, 99, 0, 0, 0, .null), (98, .iconst 0, 1, 0, 0, 0, 0, .int 0), (99, .invokevirtual 332, 3, 169, 3, 0, 1414, .ref 4), (102, .aload_n 0, 1, 0, 0, 0, 0, .null), (103, .getfield 320, 3, 11, 20, 3, 1043, .null), (106, .ifCond .eq 37, 3, 143, 0, 0, 0, .null), (109, .iload_n 1, 1, 0, 0, 0, 0, .null), (110, .bipush 7, 2, 0, 0, 0, 0, .int 7), (112, .if_icmp .lt 31, 3, 143, 0, 0, 0, .null), (115, .aload_n 0, 1, 0, 0, 0, 0, .null), (116, .getfield 243, 3, 11, 19, 3, 1042, .null), (119, .ifCond .ne 24, 3, 143, 0, 0, 0, .null), (122, .aload_n 0, 1, 0, 0, 0, 0, .null), (123, .getfield 280, 3, 11, 23, 0, 1046, .null), (126, .iconst 1, 1, 0, 0, 0, 0, .int 1), (127, .isub, 1, 0, 0, 0, 0, .null), (128, .istore_n 3, 1, 0, 0, 0, 0, .null), (129, .aload_n 0, 1, 0, 0, 0, 0, .null), (130, .getfield 48, 3, 11, 25, 2, 1048, .null), (133, .iload_n 3, 1, 0, 0, 0, 0, .null), (134, .aload_n 0, 1, 0, 0, 0, 0, .null), (135, .lconst 0, 1, 0, 0, 0, 0, .long 0), (136, .ldc2_w 336, 3, 0, 0, 0, 1422, .long 6), (139, .invokevirtual 338, 3, 158, 2, 0, 1423, .ref 6), (142, .iastore, 1, 0, 0, 0, 0, .null), (143, .iconst 3, 1, 0, 0, 0, 0, .int 3), (144, .ireturn, 1, 0, 0, 0, 0, .null)]
noncomputable def sm_o171 : List (Nat × sm_E) := [(0, .aload_n 0, 1, 0, 0, 0, 0, .null), (1, .ldc2_w 342, 3, 0, 0, 0, 1388, .long 14836), (4, .invokevirtual 301, 3, 155, 1, 0, 1372, .ref 3), (7, .ifCond .eq 16, 3, 23, 0, 0, 0, .null), (10, .aload_n 0, 1, 0, 0, 0, 0, .null), (11, .bipush 28, 2, 0, 0, 0, 0, .int 28), (13, .iconst 0, 1, 0, 0, 0, 0, .int 0), (14, .invokevirtual 308, 3, 161, 2, 0, 1389, .ref 3), (17, .aload_n 0, 1, 0, 0, 0, 0, .null), (18, .invokevirtual 247, 3, 154, 0, 0, 1354, .ref 1), (21, .iconst 0, 1, 0, 0, 0, 0, .int 0), (22, .ireturn, 1, 0, 0, 0, 0, .null), (23, .aload_n 0, 1, 0, 0, 0, 0, .null), (24, .bipush 40, 2, 0, 0, 0, 0, .int 40), (26, .invokevirtual 314, 3, 156, 1, 0, 1393, .ref 2), (29, .ifCond .eq 11, 3, 40, 0, 0, 0, .null), (32, .aload_n 0, 1, 0, 0, 0, 0, .null), (33, .bipush 31, 2, 0, 0, 0, 0, .int 31), (35, .invokevirtual 317, 3, 168, 1, 0, 1397, .ref 2), (38, .iconst 0, 1, 0, 0, 0, 0, .int 0), (39, .ireturn, 1, 0, 0, 0, 0, .null), (40, .aload_n 0, 1, 0, 0, 0, 0, .null), (41, .invokevirtual 344, 3, 170, 0, 0, 1401, .ref 4), (44, .ireturn, 1, 0, 0, 0, 0, .null)]
noncomputable def sm_o172 : List (Nat × sm_E) := [(0, .aload_n 0, 1, 0, 0, 0, 0, .null), (1, .bipush 43, 2, 0, 0, 0, 0, .int 43), (3, .invokevirtual 314, 3, 156, 1, 0, 1393, .ref 2), (6, .ifCond .eq 8, 3, 14, 0, 0, 0, .null), (9, .bipush 20, 2, 0, 0, 0, 0, .int 20), (11, .goto 60, 3, 71, 0, 0, 0, .null), (14, .aload_n 0, 1, 0, 0, 0, 0, .null), (15, .bipush 45, 2, 0, 0, 0, 0, .int 45), (17, .invokevirtual 314, 3, 156, 1, 0, 1393, .ref 2), (20, .ifCond .eq 8, 3, 28, 0, 0, 0, .null), (23, .bipush 21, 2, 0, 0, 0, 0, .int 21), (25, .goto 46, 3, 71, 0, 0, 0, .null), (28, .aload_n 0, 1, 0, 0, 0, 0, .null), (29, .bipush 42, 2, 0, 0, 0, 0, .int 42), (31, .invokevirtual 314, 3, 156, 1, 0, 1393, .ref 2), (34, .ifCond .eq 8, 3, 42, 0, 0, 0, .null), (37, .bipush 22, 2, 0, 0, 0, 0, .int 22), (39, .goto 32, 3, 71, 0, 0, 0, .null), (42, .aload_n 0, 1, 0, 0, 0, 0, .null), (43, .bipush 47, 2, 0, 0, 0, 0, .int 47), (45, .invokevirtual 314, 3, 156, 1, 0, 1393, .ref 2), (48, .ifCond .eq 8, 3, 56, 0, 0, 0, .null), (51, .bipush 23, 2, 0, 0, 0, 0, .int 23), (53, .goto 18, 3, 71, 0, 0, 0, .null), (56, .aload_n 0, 1, 0, 0, 0, 0, .null), (57, .bipush 37, 2, 0, 0, 0, 0, .int 37), (59, .invokevirtual 314, 3, 156, 1, 0, 1393, .ref 2), (62, .ifCond .eq 8, 3, 70, 0, 0, 0, .null), (65, .bipush 24, 2, 0, 0, 0, 0, .int 24), (67, .goto 4, 3, 71, 0, 0, 0, .null), (70, .iconst (-1), 1, 0, 0, 0, 0, .int (-1)), (71, .istore_n 2, 1, 0, 0, 0, 0, .null), (72, .iload_n 2, 1, 0, 0, 0, 0, .null), (73, .iconst (-1), 1, 0, 0, 0, 0, .int (-1)), (74, .if_icmp .eq 23, 3, 97, 0, 0, 0, .null), (77, .aload_n 0, 1, 0, 0, 0, 0, .null), (78, .iload_n 2, 1, 0, 0, 0, 0, .null), (79, .invokestatic 286, 3, 162, 1, 0, 1431, .ref 1), (82, .invokevirtual 347, 3, 163, 1, 0, 1434, .ref 2), (85, .aload_n 0, 1, 0, 0, 0, 0, .null), (86, .iload_n 2, 1, 0, 0, 0, 0, .null), (87, .iconst 0, 1, 0, 0, 0, 0, .int 0), (88, .invokevirtual 308, 3, 161, 2, 0, 1389, .ref 3), (91, .aload_n 0, 1, 0, 0, 0, 0, .null), (92, .invokevirtual 247, 3, 154, 0, 0, 1354, .ref 1), (95, .iconst 1, 1, 0, 0, 0, 0, .int 1), (96, .ireturn, 1, 0, 0, 0, 0, .null), (97, .aload_n 0, 1, 0, 0, 0, 0, .null), (98, .invokevirtual 350, 3, 164, 0, 0, 1438, .ref 3), (101, .istore_n 3, 1, 0, 0, 0, 0, .null), (102, .iload_n 3, 1, 0, 0, 0, 0, .null), (103, .bipush 32, 2, 0, 0, 0, 0, .int 32), (105, .if_icmp .ne 47, 3, 152, 0, 0, 0, .null), (108, .aload_n 0, 1, 0, 0, 0, 0, .null), (109, .aload_n 0, 1, 0, 0, 0, 0, .null), (110, .bipush 93, 2, 0, 0, 0, 0, .int 93), (112, .invokevirtual 314, 3, 156, 1, 0, 1393, .ref 2), (115, .invokevirtual 276, 3, 157, 1, 0, 1376, .ref 2), (118, .aload_n 0, 1, 0, 0, 0, 0, .null), (119, .getfield 243, 3, 11, 19, 3, 1042, .null), (122, .ifCond .ne 28, 3, 150, 0, 0, 0, .null), (125, .aload_n 0, 1, 0, 0, 0, 0, .null), (126, .iconst 5, 1, 0, 0, 0, 0, .int 5), (127, .invokevirtual 347, 3, 163, 1, 0, 1434, .ref 2), (130, .aload_n 0, 1, 0, 0, 0, 0, .null), (131, .dup, 1, 0, 0, 0, 0, .null), (132, .getfield 283, 3, 11, 29, 0, 1052, .null), (135, .iconst 1, 1, 0, 0, 0, 0, .int 1), (136, .isub, 1, 0, 0, 0, 0, .null), (137, .putfield 283, 3, 11, 29, 0, 1052, .null), (140, .aload_n 0, 1, 0, 0, 0, 0, .null), (141, .dup, 1, 0, 0, 0, 0, .null), (142, .getfield 305, 3, 11, 30, 0, 1053, .null), (145, .iconst 1, 1, 0, 0, 0, 0, .int 1), (146, .isub, 1, 0, 0, 0, 0, .null), (147, .putfield 305, 3, 11, 30, 0, 1053, .null), (150, .iconst 3, 1, 0, 0, 0, 0, .int 3), (151, .ireturn, 1, 0, 0, 0, 0, .null), (152, .iload_n 3, 1, 0, 0, 0, 0, .null), (153, .iconst (-1), 1, 0, 0, 0, 0, .int (-1)), (154, .if_icmp .ne 9, 3, 163, 0, 0, 0, .null), (157, .iload_n 1, 1, 0, 0, 0, 0, .null), (158, .ifCond .ne 5, 3, 163, 0, 0, 0, .null), (161, .iconst 4, 1, 0, 0, 0, 0, .int 4), (162, .ireturn, 1, 0, 0, 0, 0, .null), (163, .aload_n 0, 1, 0, 0, 0, 0, .null), (164, .invokevirtual 353, 3, 165, 0, 0, 1442, .ref 2), (167, .ifCond .eq 5, 3, 172, 0, 0, 0, .null), (170, .iconst 2, 1, 0, 0, 0, 0, .int 2), (171, .ireturn, 1, 0, 0, 0, 0, .null), (172, .aload_n 0, 1, 0, 0, 0, 0, .null), (173, .bipush 60, 2, 0, 0, 0, 0, .int 60), (175, .invokevirtual 314, 3, 156, 1, 0, 1393, .ref 2), (178, .ifCond .eq 8, 3, 186, 0, 0, 0, .null), (181, .bipush 25, 2, 0, 0, 0, 0, .int 25), (183, .goto 19, 3, 202, 0, 0, 0, .null), (186, .aload_n 0, 1, 0, 0, 0, 0, .null), (187, .bipush 62, 2, 0, 0, 0, 0, .int 62), (189, .invokevirtual 314, 3, 156, 1, 0, 1393, .ref 2), (192, .ifCond .eq 8, 3, 200, 0, 0, 0, .null), (195, .bipush 26, 2, 0, 0, 0, 0, .int 26), (197, .goto 5, 3, 202, 0, 0, 0, .null), (200, .bipush 27, 2, 0, 0, 0, 0, .int 27), (202, .istore_n 2, 1, 0, 0, 0, 0, .null), (203, .aload_n 0, 1, 0, 0, 0, 0, .null), (204, .iload_n 2, 1, 0, 0, 0, 0, .null), (205, .bipush 27, 2, 0, 0, 0, 0, .int 27), (207, .if_icmp .ne 12, 3, 219, 0, 0, 0, .null), (210, .aload_n 0, 1, 0, 0, 0, 0, .null), (211, .bipush 61, 2, 0, 0, 0, 0, .int 61), (213, .invokevirtual 314, 3, 156, 1, 0, 1393, .ref 2), (216, .ifCond .eq 7, 3, 223, 0, 0, 0, .null), (219, .iconst 1, 1, 0, 0, 0, 0, .int 1), (220, .goto 4, 3, 224, 0, 0, 0, .null), (223, .iconst 0, 1, 0, 0, 0, 0, .int 0), (224, .invokevirtual 276, 3, 157, 1, 0, 1376, .ref 2), (227, .aload_n 0, 1, 0, 0, 0, 0, .null), (228, .getfield 243, 3, 11, 19, 3, 1042, .null), (231, .ifCond .ne 14, 3, 245, 0, 0, 0, .null), (234, .aload_n 0, 1, 0, 0, 0, 0, .null), (235, .iconst 5, 1, 0, 0, 0, 0, .int 5), (236, .invokevirtual 347, 3, 163, 1, 0, 1434, .ref 2), (239, .aload_n 0, 1, 0, 0, 0, 0, .null), (240, .iload_n 2, 1, 0, 0, 0, 0, .null), (241, .iconst 0, 1, 0, 0, 0, 0, .int 0), (242, .invokevirtual 308, 3, 161, 2, 0, 1389, .ref 3), (245, .iconst 1, 1, 0, 0, 0, 0, .int 1), (246, .ireturn, 1, 0, 0, 0, 0, .null)]
noncomputable def sm_o173 : List (Nat × sm_E) := [(0, .aload_n 0, 1, 0, 0, 0, 0, .null), (1, .ldc2_w 357, 3, 0, 0, 0, 1454, .long 1476), (4, .invokevirtual 301, 3, 155, 1, 0, 1372, .ref 3), (7, .istore_n 1, 1, 0, 0, 0, 0, .null), (8, .iload_n 1, 1, 0, 0, 0, 0, .null), (9, .ifCond .ne 13, 3, 22, 0, 0, 0, .null), (12, .aload_n 0, 1, 0, 0, 0, 0, .null), (13, .ldc2_w 359, 3, 0, 0, 0, 1455, .long 498), (16, .invokevirtual 301, 3, 155, 1, 0, 1372, .ref 3), (19, .ifCond .eq 57, 3, 76, 0, 0, 0, .null), (22, .aload_n 0, 1, 0, 0, 0, 0, .null), (23, .iload_n 1, 1, 0, 0, 0, 0, .null), (24, .ifCond .eq 7, 3, 31, 0, 0, 0, .null), (27, .iconst 2, 1, 0, 0, 0, 0, .int 2), (28, .goto 4, 3, 32, 0, 0, 0, .null), (31, .iconst 1, 1, 0, 0, 0, 0, .int 1), (32, .invokevirtual 347, 3, 163, 1, 0, 1434, .ref 2), (35, .aload_n 0, 1, 0, 0, 0, 0, .null), (36, .iload_n 1, 1, 0, 0, 0, 0, .null), (37, .ifCond .eq 8, 3, 45, 0, 0, 0, .null), (40, .bipush 29, 2, 0, 0, 0, 0, .int 29), (42, .goto 5, 3, 47, 0, 0, 0, .null), (45, .bipush 30, 2, 0, 0, 0, 0, .int 30), (47, .aload_n 0, 1, 0, 0, 0, 0, .null), (48, .getfield 280, 3, 11, 23, 0, 1046, .null), (51, .invokevirtual 308, 3, 161, 2, 0, 1389, .ref 3), (54, .aload_n 0, 1, 0, 0, 0, 0, .null), (55, .iload_n 1, 1, 0, 0, 0, 0, .null), (56, .ifCond .eq 8, 3, 64, 0, 0, 0, .null), (59, .bipush 29, 2, 0, 0, 0, 0, .int 29), (61, .goto 5, 3, 66, 0, 0, 0, .null), (64, .bipush 30, 2, 0, 0, 0, 0, .int 30), (66, .iconst 0, 1, 0, 0, 0, 0, .int 0), (67, .invokevirtual 289, 3, 160, 2, 0, 1418, .ref 3), (70, .aload_n 0, 1, 0, 0, 0, 0, .null), (71, .invokevirtual 247, 3, 154, 0, 0, 1354, .ref 1), (74, .iconst 0, 1, 0, 0, 0, 0, .int 0), (75, .ireturn, 1, 0, 0, 0, 0, .null), (76, .aload_n 0, 1, 0, 0, 0, 0, .null), (77, .invokevirtual 350, 3, 164, 0, 0, 1438, .ref 3), (80, .iconst (-1), 1, 0, 0, 0, 0, .int (-1)), (81, .if_icmp .ne 5, 3, 86, 0, 0, 0, .null), (84, .iconst 4, 1, 0, 0, 0, 0, .int 4), (85, .ireturn, 1, 0, 0, 0, 0, .null), (86, .aload_n 0, 1, 0, 0, 0, 0, .null), (87, .aload_n 0, 1, 0, 0, 0, 0, .null), (88, .bipush 41, 2, 0, 0, 0, 0, .int 41), (90, .invokevirtual 314, 3, 156, 1, 0, 1393, .ref 2), (93, .invokevirtual 276, 3, 157, 1, 0, 1376, .ref 2), (96, .aload_n 0, 1, 0, 0, 0, 0, .null), (97, .getfield 243, 3, 11, 19, 3, 1042, .null), (100, .ifCond .ne 28, 3, 128, 0, 0, 0, .null), (103, .aload_n 0, 1, 0, 0, 0, 0, .null), (104, .iconst 1, 1, 0, 0, 0, 0, .int 1), (105, .invokevirtual 347, 3, 163, 1, 0, 1434, .ref 2), (108, .aload_n 0, 1, 0, 0, 0, 0, .null), (109, .dup, 1, 0, 0, 0, 0, .null), (110, .getfield 283, 3, 11, 29, 0, 1052, .null), (113, .iconst 1, 1, 0, 0, 0, 0, .int 1), (114, .isub, 1, 0, 0, 0, 0, .null), (115, .putfield 283, 3, 11, 29, 0, 1052, .null), (118, .aload_n 0, 1, 0, 0, 0, 0, .null), (119, .dup, 1, 0, 0, 0, 0, .null), (120, .getfield 305, 3, 11, 30, 0, 1053, .null), (123, .iconst 1, 1, 0, 0, 0, 0, .int 1), (124, .isub, 1, 0, 0, 0, 0, .null), (125, .putfield 305, 3, 11, 30, 0, 1053, .null), (128, .iconst 2, 1, 0, 0, 0, 0, .int 2), (129, .ireturn, 1, 0, 0, 0, 0, .null)]
noncomputable def sm_o174 : List (Nat × sm_E) := [(0, .aload_n 0, 1, 0, 0, 0, 0, .null), (1, .iconst 0, 1, 0, 0, 0, 0, .int 0), (2, .putfield 283, 3, 11, 29, 0, 1052, .null), (5, .aload_n 0, 1, 0, 0, 0, 0, .null), (6, .iconst 0, 1, 0, 0, 0, 0, .int 0), (7, .putfield 305, 3, 11, 30, 0, 1053, .null), (10, .iload_n 1, 1, 0, 0, 0, 0, .null), (11, .ifCond .eq 7, 3, 18, 0, 0, 0, .null), (14, .iconst 0, 1, 0, 0, 0, 0, .int 0), (15, .goto 4, 3, 19, 0, 0, 0, .null), (18, .iconst 1, 1, 0, 0, 0, 0, .int 1), (19, .istore_n 2, 1, 0, 0, 0, 0, .null), (20, .aload_n 0, 1, 0, 0, 0, 0, .null), (21, .getfield 243, 3, 11, 19, 3, 1042, .null), (24, .ifCond .ne 52, 3, 76, 0, 0, 0, .null), (27, .iload_n 2, 1, 0, 0, 0, 0, .null), (28, .iconst 4, 1, 0, 0, 0, 0, .int 4), (29, .if_icmp .eq 47, 3, 76, 0, 0, 0, .null), (32, .iload_n 2, 1, 0, 0, 0, 0, .null), (33, .ifCond .ne 10, 3, 43, 0, 0, 0, .null), (36, .aload_n 0, 1, 0, 0, 0, 0, .null), (37, .invokevirtual 361, 3, 171, 0, 0, 1384, .ref 1), (40, .goto 32, 3, 72, 0, 0, 0, .null), (43, .iload_n 2, 1, 0, 0, 0, 0, .null), (44, .iconst 1, 1, 0, 0, 0, 0, .int 1), (45, .if_icmp .ne 10, 3, 55, 0, 0, 0, .null), (48, .aload_n 0, 1, 0, 0, 0, 0, .null), (49, .invokevirtual 344, 3, 170, 0, 0, 1401, .ref 4), (52, .goto 20, 3, 72, 0, 0, 0, .null), (55, .iload_n 2, 1, 0, 0, 0, 0, .null), (56, .iconst 3, 1, 0, 0, 0, 0, .int 3), (57, .if_icmp .ne 11, 3, 68, 0, 0, 0, .null), (60, .aload_n 0, 1, 0, 0, 0, 0, .null), (61, .iload_n 1, 1, 0, 0, 0, 0, .null), (62, .invokevirtual 364, 3, 172, 1, 0, 1427, .ref 4), (65, .goto 7, 3, 72, 0, 0, 0, .null), (68, .aload_n 0, 1, 0, 0, 0, 0, .null), (69, .invokevirtual 368, 3, 173, 0, 0, 1450, .ref 2), (72, .istore_n 2, 1, 0, 0, 0, 0, .null), (73, .goto (-53), 3, 20, 0, 0, 0, .null), (76, .aload_n 0, 1, 0, 0, 0, 0, .null), (77, .iconst 1, 1, 0, 0, 0, 0, .int 1), (78, .invokevirtual 347, 3, 163, 1, 0, 1434, .ref 2), (81, .return_, 1, 0, 0, 0, 0, .null)]
noncomputable def sm_o175 : List (Nat × sm_E) := [(0, .aload_n 0, 1, 0, 0, 0, 0, .null), (1, .iload_n 1, 1, 0, 0, 0, 0, .null), (2, .putfield 320, 3, 11, 20, 3, 1043, .null), (5, .aload_n 0, 1, 0, 0, 0, 0, .null), (6, .invokevirtual 371, 3, 153, 0, 0, 1350, .ref 1), (9, .aload_n 0, 1, 0, 0, 0, 0, .null), (10, .iconst 0, 1, 0, 0, 0, 0, .int 0), (11, .putfield 374, 3, 11, 21, 0, 1044, .null), (14, .aload_n 0, 1, 0, 0, 0, 0, .null), (15, .iconst 0, 1, 0, 0, 0, 0, .int 0), (16, .putfield 280, 3, 11, 23, 0, 1046, .null), (19, .aload_n 0, 1, 0, 0, 0, 0, .null), (20, .iconst 0, 1, 0, 0, 0, 0, .int 0), (21, .putfield 311, 3, 11, 26, 0, 1049, .null), (24, .return_, 1, 0, 0, 0, 0, .null)]
noncomputable def sm_o176 : List (Nat × sm_E) := [(0, .aload_n 0, 1, 0, 0, 0, 0, .null), (1, .getfield 243, 3, 11, 19, 3, 1042, .null), (4, .ifCond .ne 15, 3, 19, 0, 0, 0, .null), (7, .aload_n 0, 1, 0, 0, 0, 0, .null), (8, .getfield 263, 3, 11, 16, 0, 1039, .null), (11, .ifCond .eq 8, 3, 19, 0, 0, 0, .null), (14, .aload_n 0, 1, 0, 0, 0, 0, .null), (15, .iconst 0, 1, 0, 0, 0, 0, .int 0), (16, .invokevirtual 276, 3, 157, 1, 0, 1376, .ref 2), (19, .aload_n 0, 1, 0, 0, 0, 0, .null), (20, .iconst 0, 1, 0, 0, 0, 0, .int 0), (21, .putfield 320, 3, 11, 20, 3, 1043, .null), (24, .aload_n 0, 1, 0, 0, 0, 0, .null), (25, .iconst 0, 1, 0, 0, 0, 0, .int 0), (26, .putfield 231, 3, 11, 13, 0, 1036, .null), (29, .return_, 1, 0, 0, 0, 0, .null)]
noncomputable def sm_o177 : List (Nat × sm_E) := [(0, .iconst (-1), 1, 0, 0, 0, 0, .int (-1)), (1, .istore_n 1, 1, 0, 0, 0, 0, .null), (2, .iconst 0, 1, 0, 0, 0, 0, .int 0), (3, .istore_n 2, 1, 0, 0, 0, 0, .null), (4, .iload_n 2, 1, 0, 0, 0, 0, .null), (5, .iconst 4, 1, 0, 0, 0, 0, .int 4), (6, .if_icmp .ge 28, 3, 34, 0, 0, 0, .null), (9, .aload_n 0, 1, 0, 0, 0, 0, .null), (10, .aload_n 0, 1, 0, 0, 0, 0, .null), (11, .getfield 96, 3, 11, 33, 2, 1056, .null), (14, .iload_n 2, 1, 0, 0, 0, 0, .null), (15, .laload, 1, 0, 0, 0, 0, .null), (16, .invokevirtual 301, 3, 155, 1, 0, 1372, .ref 3), (19, .ifCond .eq 7, 3, 26, 0, 0, 0, .null), (22, .iload_n 2, 1, 0, 0, 0, 0, .null), (23, .goto 4, 3, 27, 0, 0, 0, .null), (26, .iload_n 1, 1, 0, 0, 0, 0, .null), (27, .istore_n 1, 1, 0, 0, 0, 0, .null), (28, .iinc 2 1, 3, 0, 0, 0, 0, .int 1), (31, .goto (-27), 3, 4, 0, 0, 0, .null), (34, .aload_n 0, 1, 0, 0, 0, 0, .null), (35, .iload_n 1, 1, 0, 0, 0, 0, .null), (36, .iconst (-1), 1, 0, 0, 0, 0, .int (-1)), (37, .if_icmp .eq 16, 3, 53, 0, 0, 0, .null), (40, .aload_n 0, 1, 0, 0, 0, 0, .null), (41, .getfield 374, 3, 11, 21, 0, 1044, .null), (44, .bipush 12, 2, 0, 0, 0, 0, .int 12), (46, .if_icmp .ge 7, 3, 53, 0, 0, 0, .null), (49, .iconst 1, 1, 0, 0, 0, 0, .int 1), (50, .goto 4, 3, 54, 0, 0, 0, .null), (53, .iconst 0, 1, 0, 0, 0, 0, .int 0), (54, .invokevirtual 276, 3, 157, 1, 0, 1376, .ref 2), (57, .aload_n 0, 1, 0, 0, 0, 0, .null), (58, .getfield 243, 3, 11, 19, 3, 1042, .null), (61, .ifCond .eq 4, 3, 65, 0, 0, 0, .null), (64, .return_, 1, 0, 0, 0, 0, .null), (65, .bipush 8, 2, 0, 0, 0, 0, .int 8), (67, .aload_n 0, 1, 0, 0, 0, 0, .null), (68, .getfield 374, 3, 11, 21, 0, 1044, .null), (71, .imul, 1, 0, 0, 0, 0, .null), (72, .istore_n 2, 1, 0, 0, 0, 0, .null), (73, .iconst 0, 1, 0, 0, 0, 0, .int 0), (74, .istore_n 3, 1, 0, 0, 0, 0, .null), (75, .iload_n 3, 1, 0, 0, 0, 0, .null), (76, .bipush 8, 2, 0, 0, 0, 0, .int 8), (78, .if_icmp .ge 18, 3, 96, 0, 0, 0, .null), (81, .aload_n 0, 1, 0, 0, 0, 0, .null), (82, .getfield 42, 3, 11, 22, 2, 1045, .null), (85, .iload_n 2, 1, 0, 0, 0, 0, .null), (86, .iload_n 3, 1, 0, 0, 0, 0, .null), (87, .iadd, 1, 0, 0, 0, 0, .null), (88, .iconst 0, 1, 0, 0, 0, 0, .int 0), (89, .iastore, 1, 0, 0, 0, 0, .null), (90, .iinc 3 1, 3, 0, 0, 0, 0, .int 1), (93, .goto (-18), 3, 75, 0, 0, 0, .null), (96, .aload_n 0, 1, 0, 0, 0, 0, .null), (97, .getfield 42, 3, 11, 22, 2, 1045, .null), (100, .iload_n 2, 1, 0, 0, 0, 0, .null), (101, .iload_n 1, 1, 0, 0, 0, 0, .null), (102, .iastore, 1, 0, 0, 0, 0, .null), (103, .aload_n 0, 1, 0, 0, 0, 0, .null), (104, .dup, 1, 0, 0, 0, 0, .null), (105, .getfield 374, 3, 11, 21, 0, 1044, .null), (108, .iconst 1, 1, 0, 0, 0, 0, .int 1), (109, .iadd, 1, 0, 0, 0, 0, .null), (110, .putfield 374, 3, 11, 21, 0, 1044, .null), (113, .aload_n 0, 1, 0, 0, 0, 0, .null), (114, .getfield 42, 3, 11, 22, 2, 1045, .null), (117, .iload_n 2, 1, 0, 0, 0, 0, .null), (118, .iconst 3, 1, 0, 0, 0, 0, .int 3), (119, .iadd, 1, 0, 0, 0, 0, .null), (120, .aload_n 0, 1, 0, 0, 0, 0, .null), (121, .getfield 280, 3, 11, 23, 0, 1046, .null), (124, .iastore, 1, 0, 0, 0, 0, .null), (125, .iload_n 1, 1, 0, 0, 0, 0, .null), (126, .iconst 3, 1, 0, 0, 0, 0, .int 3), (127, .if_icmp .eq 8, 3, 135, 0, 0, 0, .null), (130, .aload_n 0, 1, 0, 0, 0, 0, .null), (131, .iconst 0, 1, 0, 0, 0, 0, .int 0), (132, .invokevirtual 377, 3, 174, 1, 0, 1380, .ref 3), (135, .aload_n 0, 1, 0, 0, 0, 0, .null), (136, .getfield 42, 3, 11, 22, 2, 1045, .null), (139, .iload_n 2, 1, 0, 0, 0, 0, .null), (140, .iconst 4, 1, 0, 0, 0, 0, .int 4), (141, .iadd, 1, 0, 0, 0, 0, .null), (142, .aload_n 0, 1, 0, 0, 0, 0, .null), (143, .getfield 280, 3, 11, 23, 0, 1046, .null), (146, .iastore, 1, 0, 0, 0, 0, .null), (147, .aload_n 0, 1, 0, 0, 0, 0, .null), (148, .getfield 42, 3, 11, 22, 2, 1045, .null), (151, .iload_n 2, 1, 0, 0, 0, 0, .null), (152, .iconst 5, 1, 0, 0, 0, 0, .int 5), (153, .iadd, 1, 0, 0, 0, 0, .null), (154, .aload_n 0, 1, 0, 0, 0, 0, .null), (155, .getfield 280, 3, 11, 23, 0, 1046, .null), (158, .iastore, 1, 0, 0, 0, 0, .null), (159, .aload_n 0, 1, 0, 0, 0, 0, .null), (160, .getfield 243, 3, 11, 19, 3, 1042, .null), (163, .ifCond .ne 22, 3, 185, 0, 0, 0, .null), (166, .aload_n 0, 1, 0, 0, 0, 0, .null), (167, .ldc2_w 380, 3, 0, 0, 0, 1456, .long 294), (170, .invokevirtual 301, 3, 155, 1, 0, 1372, .ref 3), (173, .ifCond .eq 12, 3, 185, 0, 0, 0, .null), (176, .aload_n 0, 1, 0, 0, 0, 0, .null), (177, .invokevirtual 247, 3, 154, 0, 0, 1354, .ref 1), (180, .aload_n 0, 1, 0, 0, 0, 0, .null), (181, .iconst 1, 1, 0, 0, 0, 0, .int 1), (182, .invokevirtual 377, 3, 174, 1, 0, 1380, .ref 3), (185, .aload_n 0, 1, 0, 0, 0, 0, .null), (186, .getfield 42, 3, 11, 22, 2, 1045, .null), (189, .iload_n 2, 1, 0, 0, 0, 0, .null), (190, .bipush 6, 2, 0, 0, 0, 0, .int 6), (192, .iadd, 1, 0, 0, 0, 0, .null), (193, .aload_n 0, 1, 0, 0, 0, 0, .null), (194, .getfield 280, 3, 11, 23, 0, 1046, .null), (197, .iastore, 1, 0, 0, 0, 0, .null), (198, .return_, 1, 0, 0, 0, 0, .null)]
noncomputable def sm_o178 : List (Nat × sm_E) := [(0, .aload_n 0, 1, 0, 0, 0, 0, .null), (1, .iconst 0, 1, 0, 0, 0, 0, .int 0), (2, .putfield 158, 3, 11, 0, 0, 1023, .null), (5, .aload_n 0, 1, 0, 0, 0, 0, .null), (6, .getfield 13, 3, 11, 3, 2, 1026, .null), (9, .iconst 2, 1, 0, 0, 0, 0, .int 2), (10, .iaload, 1, 0, 0, 0, 0, .null), (11, .bipush 6, 2, 0, 0, 0, 0, .int 6), (13, .if_icmp .ne 15, 3, 28, 0, 0, 0, .null), (16, .aload_n 0, 1, 0, 0, 0, 0, .null), (17, .iconst 0, 1, 0, 0, 0, 0, .int 0), (18, .putfield 231, 3, 11, 13, 0, 1036, .null), (21, .aload_n 0, 1, 0, 0, 0, 0, .null), (22, .bipush (-5), 2, 0, 0, 0, 0, .int (-5)), (24, .invokevirtual 167, 3, 128, 1, 0, 1209, .ref 2), (27, .ireturn, 1, 0, 0, 0, 0, .null), (28, .aload_n 0, 1, 0, 0, 0, 0, .null), (29, .iconst 0, 1, 0, 0, 0, 0, .int 0), (30, .invokevirtual 382, 3, 175, 1, 0, 1346, .ref 2), (33, .aload_n 0, 1, 0, 0, 0, 0, .null), (34, .invokevirtual 385, 3, 177, 0, 0, 1368, .ref 4), (37, .aload_n 0, 1, 0, 0, 0, 0, .null), (38, .getfield 243, 3, 11, 19, 3, 1042, .null), (41, .ifCond .ne 23, 3, 64, 0, 0, 0, .null), (44, .aload_n 0, 1, 0, 0, 0, 0, .null), (45, .bipush 59, 2, 0, 0, 0, 0, .int 59), (47, .invokevirtual 314, 3, 156, 1, 0, 1393, .ref 2), (50, .ifCond .eq 14, 3, 64, 0, 0, 0, .null), (53, .aload_n 0, 1, 0, 0, 0, 0, .null), (54, .invokevirtual 247, 3, 154, 0, 0, 1354, .ref 1), (57, .aload_n 0, 1, 0, 0, 0, 0, .null), (58, .invokevirtual 385, 3, 177, 0, 0, 1368, .ref 4), (61, .goto (-24), 3, 37, 0, 0, 0, .null), (64, .aload_n 0, 1, 0, 0, 0, 0, .null), (65, .invokevirtual 388, 3, 176, 0, 0, 1457, .ref 1), (68, .aload_n 0, 1, 0, 0, 0, 0, .null), (69, .getfield 243, 3, 11, 19, 3, 1042, .null), (72, .ifCond .eq 10, 3, 82, 0, 0, 0, .null), (75, .aload_n 0, 1, 0, 0, 0, 0, .null), (76, .bipush (-6), 2, 0, 0, 0, 0, .int (-6)), (78, .invokevirtual 167, 3, 128, 1, 0, 1209, .ref 2), (81, .ireturn, 1, 0, 0, 0, 0, .null), (82, .bipush 50, 2, 0, 0, 0, 0, .int 50), (84, .sipush 900, 3, 0, 0, 0, 0, .int 900), (87, .aload_n 0, 1, 0, 0, 0, 0, .null), (88, .getfield 13, 3, 11, 3, 2, 1026, .null), (91, .iconst 2, 1, 0, 0, 0, 0, .int 2), (92, .iaload, 1, 0, 0, 0, 0, .null), (93, .imul, 1, 0, 0, 0, 0, .null), (94, .iadd, 1, 0, 0, 0, 0, .null), (95, .istore_n 1, 1, 0, 0, 0, 0, .null), (96, .aload_n 0, 1, 0, 0, 0, 0, .null), (97, .getfield 13, 3, 11, 3, 2, 1026, .null), (100, .iload_n 1, 1, 0, 0, 0, 0, .null), (101, .iconst 1, 1, 0, 0, 0, 0, .int 1), (102, .iadd, 1, 0, 0, 0, 0, .null), (103, .aload_n 0, 1, 0, 0, 0, 0, .null), (104, .getfield 374, 3, 11, 21, 0, 1044, .null), (107, .iastore, 1, 0, 0, 0, 0, .null), (108, .iconst 0, 1, 0, 0, 0, 0, .int 0), (109, .istore_n 2, 1, 0, 0, 0, 0, .null), (110, .iload_n 2, 1, 0, 0, 0, 0, .null), (111, .bipush 8, 2, 0, 0, 0, 0, .int 8), (113, .aload_n 0, 1, 0, 0, 0, 0, .null), (114, .getfield 374, 3, 11, 21, 0, 1044, .null), (117, .imul, 1, 0, 0, 0, 0, .null), (118, .if_icmp .ge 25, 3, 143, 0, 0, 0, .null), (121, .aload_n 0, 1, 0, 0, 0, 0, .null), (122, .getfield 13, 3, 11, 3, 2, 1026, .null), (125, .iload_n 1, 1, 0, 0, 0, 0, .null), (126, .iconst 2, 1, 0, 0, 0, 0, .int 2), (127, .iadd, 1, 0, 0, 0, 0, .null), (128, .iload_n 2, 1, 0, 0, 0, 0, .null), (129, .iadd, 1, 0, 0, 0, 0, .null), (130, .aload_n 0, 1, 0, 0, 0, 0, .null), (131, .getfield 42, 3, 11, 22, 2, 1045, .null), (134, .iload_n 2, 1, 0, 0, 0, 0, .null), (135, .iaload, 1, 0, 0, 0, 0, .null), (136, .iastore, 1, 0, 0, 0, 0, .null), (137, .iinc 2 1, 3, 0, 0, 0, 0, .int 1), (140, .goto (-30), 3, 110, 0, 0, 0, .null), (143, .iconst 0, 1, 0, 0, 0, 0, .int 0), (144, .istore_n 2, 1, 0, 0, 0, 0, .null), (145, .iload_n 2, 1, 0, 0, 0, 0, .null), (146, .aload_n 0, 1, 0, 0, 0, 0, .null), (147, .getfield 280, 3, 11, 23, 0, 1046, .null), (150, .if_icmp .ge 49, 3, 199, 0, 0, 0, .null), (153, .aload_n 0, 1, 0, 0, 0, 0, .null), (154, .getfield 13, 3, 11, 3, 2, 1026, .null), (157, .iload_n 1, 1, 0, 0, 0, 0, .null), (158, .bipush 98, 2, 0, 0, 0, 0, .int 98), (160, .iadd, 1, 0, 0, 0, 0, .null), (161, .iconst 2, 1, 0, 0, 0, 0, .int 2), (162, .iload_n 2, 1, 0, 0, 0, 0, .null), (163, .imul, 1, 0, 0, 0, 0, .null), (164, .iadd, 1, 0, 0, 0, 0, .null), (165, .aload_n 0, 1, 0, 0, 0, 0, .null), (166, .getfield 45, 3, 11, 24, 2, 1047, .null), (169, .iload_n 2, 1, 0, 0, 0, 0, .null), (170, .iaload, 1, 0, 0, 0, 0, .null), (171, .iastore, 1, 0, 0, 0, 0, .null), (172, .aload_n 0, 1, 0, 0, 0, 0, .null), (173, .getfield 13, 3, 11, 3, 2, 1026, .null), (176, .iload_n 1, 1, 0, 0, 0, 0, .null), (177, .bipush 98, 2, 0, 0, 0, 0, .int 98), (179, .iadd, 1, 0, 0, 0, 0, .null), (180, .iconst 2, 1, 0, 0, 0, 0, .int 2), (181, .iload_n 2, 1, 0, 0, 0, 0, .null), (182, .imul, 1, 0, 0, 0, 0, .null), (183, .iadd, 1, 0, 0, 0, 0, .null), (184, .iconst 1, 1, 0, 0, 0, 0, .int 1), (185, .iadd, 1, 0, 0, 0, 0, .null), (186, .aload_n 0, 1, 0, 0, 0, 0, .null), (187, .getfield 48, 3, 11, 25, 2, 1048, .null), (190, .iload_n 2, 1, 0, 0, 0, 0, .null), (191, .iaload, 1, 0, 0, 0, 0, .null), (192, .iastore, 1, 0, 0, 0, 0, .null), (193, .iinc 2 1, 3, 0, 0, 0, 0, .int 1), (196, .goto (-51), 3, 145, 0, 0, 0, .null), (199, .aload_n 0, 1, 0, 0, 0, 0, .null), (200, .getfield 13, 3, 11, 3, 2, 1026, .null), (203, .iconst 2, 1, 0, 0, 0, 0, .int 2), (204, .dup2, 1, 0, 0, 0, 0, .null), (205, .iaload, 1, 0, 0, 0, 0, .null), (206, .iconst 1, 1, 0, 0, 0, 0, .int 1), (207, .iadd, 1, 0, 0, 0, 0, .null), (208, .iastore, 1, 0, 0, 0, 0, .null), (209, .aload_n 0, 1, 0, 0, 0, 0, .null), (210, .aload_n 0, 1, 0, 0, 0, 0, .null), (211, .getfield 13, 3, 11, 3, 2, 1026, .null), (214, .iconst 2, 1, 0, 0, 0, 0, .int 2), (215, .iaload, 1, 0, 0, 0, 0, .null), (216, .iconst 1, 1, 0, 0, 0, 0, .int 1), (217, .isub, 1, 0, 0, 0, 0, .null), (218, .invokevirtual 167, 3, 128, 1, 0, 1209, .ref 2), (221, .ireturn, 1, 0, 0, 0, 0, .null)]
noncomputable def sm_o179 : List (Nat × sm_E) := [(0, .iload_n 1, 1, 0, 0, 0, 0, .null), (1, .iconst (-1), 1, 0, 0, 0, 0, .int (-1)), (2, .if_icmp .eq 21, 3, 23, 0, 0, 0, .null), (5, .iload_n 1, 1, 0, 0, 0, 0, .null), (6, .i2l, 1, 0, 0, 0, 0, .null), (7, .lconst 0, 1, 0, 0, 0, 0, .long 0), (8, .aload_n 0, 1, 0, 0, 0, 0, .null), (9, .getfield 13, 3, 11, 3, 2, 1026, .null), (12, .iconst 2, 1, 0, 0, 0, 0, .int 2), (13, .iaload, 1, 0, 0, 0, 0, .null), (14, .i2l, 1, 0, 0, 0, 0, .null), (15, .lconst 1, 1, 0, 0, 0, 0, .long 1), (16, .lsub, 1, 0, 0, 0, 0, .null), (17, .invokestatic 178, 3, 124, 3, 0, 1221, .ref 6), (20, .ifCond .eq 7, 3, 27, 0, 0, 0, .null), (23, .iconst 1, 1, 0, 0, 0, 0, .int 1), (24, .goto 4, 3, 28, 0, 0, 0, .null), (27, .iconst 0, 1, 0, 0, 0, 0, .int 0), (28, .ireturn, 1, 0, 0, 1, 0, .null)]
noncomputable def sm_o180 : List (Nat × sm_E) := [(0, .aload_n 0, 1, 0, 0, 0, 0, .null), (1, .iconst 0, 1, 0, 0, 0, 0, .int 0), (2, .putfield 158, 3, 11, 0, 0, 1023, .null), (5, .aload_n 0, 1, 0, 0, 0, 0, .null), (6, .iload_n 1, 1, 0, 0, 0, 0, .null), (7, .invokevirtual 391, 3, 179, 1, 0, 1465, .ref 2), (10, .ifCond .eq 12, 3, 22, 0, 0, 0, .null), (13, .aload_n 0, 1, 0, 0, 0, 0, .null), (14, .iconst 3, 1, 0, 0, 0, 0, .int 3), (15, .iload_n 1, 1, 0, 0, 0, 0, .null), (16, .invokevirtual 228, 3, 129, 2, 0, 1314, .ref 4), (19, .goto 9, 3, 28, 0, 0, 0, .null), (22, .aload_n 0, 1, 0, 0, 0, 0, .null), (23, .bipush (-2), 2, 0, 0, 0, 0, .int (-2)), (25, .invokevirtual 167, 3, 128, 1, 0, 1209, .ref 2), (28, .ireturn, 1, 0, 0, 0, 0, .null)]
noncomputable def sm_o181 : List (Nat × sm_E) := [(0, .iload_n 1, 1, 0, 0, 0, 0, .null), (1, .tableswitch 148 20 26 #[43, 48, 53, 58, 90, 122, 135], 43, 149, 0, 0, 0, .null), (44, .lload_n 2, 1, 0, 0, 0, 0, .null), (45, .lload 4, 2, 0, 0, 0, 0, .null), (47, .ladd, 1, 0, 0, 0, 0, .null), (48, .lreturn, 1, 0, 0, 0, 0, .null), (49, .lload_n 2, 1, 0, 0, 0, 0, .null), (50, .lload 4, 2, 0, 0, 0, 0, .null), (52, .lsub, 1, 0, 0, 0, 0, .null), (53, .lreturn, 1, 0, 0, 0, 0, .null), (54, .lload_n 2, 1, 0, 0, 0, 0, .null), (55, .lload 4, 2, 0, 0, 0, 0, .null), (57, .lmul, 1, 0, 0, 0, 0, .null), (58, .lreturn, 1, 0, 0, 0, 0, .null), (59, .aload_n 0, 1, 0, 0, 0, 0, .null), (60, .lload 4, 2, 0, 0, 0, 0, .null), (62, .lconst 0, 1, 0, 0, 0, 0, .long 0), (63, .lcmp, 1, 0, 0, 0, 0, .null), (64, .ifCond .ne 7, 3, 71, 0, 0, 0, .null), (67, .iconst 1, 1, 0, 0, 0, 0, .int 1), (68, .goto 4, 3, 72, 0, 0, 0, .null), (71, .iconst 0, 1, 0, 0, 0, 0, .int 0), (72, .putfield 394, 3, 11, 38, 3, 1061, .null), (75, .aload_n 0, 1, 0, 0, 0, 0, .null), (76, .getfield 394, 3, 11, 38, 3, 1061, .null), (79, .ifCond .eq 7, 3, 86, 0, 0, 0, .null), (82, .lconst 0, 1, 0, 0, 0, 0, .long 0), (83, .goto 7, 3, 90, 0, 0, 0, .null), (86, .lload_n 2, 1, 0, 0, 0, 0, .null), (87, .lload 4, 2, 0, 0, 0, 0, .null), (89, .ldiv, 1, 0, 0, 0, 0, .null), (90, .lreturn, 1, 0, 0, 0, 0, .null), (91, .aload_n 0, 1, 0, 0, 0, 0, .null), (92, .lload 4, 2, 0, 0, 0, 0, .null), (94, .lconst 0, 1, 0, 0, 0, 0, .long 0), (95, .lcmp, 1, 0, 0, 0, 0, .null), (96, .ifCond .ne 7, 3, 103, 0, 0, 0, .null), (99, .iconst 1, 1, 0, 0, 0, 0, .int 1), (100, .goto 4, 3, 104, 0, 0, 0, .null), (103, .iconst 0, 1, 0, 0, 0, 0, .int 0), (104, .putfield 394, 3, 11, 38, 3, 1061, .null), (107, .aload_n 0, 1, 0, 0, 0, 0, .null), (108, .getfield 394, 3, 11, 38, 3, 1061, .null), (111, .ifCond .eq 7, 3, 118, 0, 0, 0, .null), (114, .lconst 0, 1, 0, 0, 0, 0, .long 0), (115, .goto 7, 3, 122, 0, 0, 0, .null), (118, .lload_n 2, 1, 0, 0, 0, 0, .null), (119, .lload 4, 2, 0, 0, 0, 0, .null), (121, .lrem, 1, 0, 0, 0, 0, .null), (122, .lreturn, 1, 0, 0, 0, 0, .null), (123, .lload_n 2, 1, 0, 0, 0, 0, .null), (124, .lload 4, 2, 0, 0, 0, 0, .null), (126, .lcmp, 1, 0, 0, 0, 0, .null), (127, .ifCond .ge 7, 3, 134, 0, 0, 0, .null), (130, .lconst 1, 1, 0, 0, 0, 0, .long 1), (131, .goto 4, 3, 135, 0, 0, 0, .null), (134, .lconst 0, 1, 0, 0, 0, 0, .long 0), (135, .lreturn, 1, 0, 0, 0, 0, .null), (136, .lload_n 2, 1, 0, 0, 0, 0, .null), (137, .lload 4, 2, 0, 0, 0, 0, .null), (139, .lcmp, 1, 0, 0, 0, 0, .null), (140, .ifCond .le 7, 3, 147, 0, 0, 0, .null), (143, .lconst 1, 1, 0, 0, 0, 0, .long 1), (144, .goto 4, 3, 148, 0, 0, 0, .null), (147, .lconst 0, 1, 0, 0, 0, 0, .long 0), (148, .lreturn, 1, 0, 0, 0, 0, .null), (149, .lload_n 2, 1, 0, 0, 0, 0, .null), (150, .lload 4, 2, 0, 0, 0, 0, .null), (152, .lcmp, 1, 0, 0, 0, 0, .null), (153, .ifCond .ne 7, 3, 160, 0, 0, 0, .null), (156, .lconst 1, 1, 0, 0, 0, 0, .long 1), (157, .goto 4, 3, 161, 0, 0, 0, .null), (160, .lconst 0, 1, 0, 0, 0, 0, .long 0), (161, .lreturn, 1, 0, 0, 0, 0, .null)]
noncomputable def sm_o182 : List (Nat × sm_E) := [(0, .aload_n 0, 1, 0, 0, 0, 0, .null), (1, .iconst 0, 1, 0, 0, 0, 0, .int 0), (2, .putfield 394, 3, 11, 38, 3, 1061, .null), (5, .iconst 0, 1, 0, 0, 0, 0, .int 0), (6, .istore_n 3, 1, 0, 0, 0, 0, .null), (7, .iload_n 1, 1, 0, 0, 0, 0, .null), (8, .istore 4, 2, 0, 0, 0, 0, .null), (10, .iload 4, 2, 0, 0, 0, 0, .null), (12, .iload_n 2, 1, 0, 0, 0, 0, .null), (13, .if_icmp .ge 319, 3, 332, 0, 0, 0, .null), (16, .aload_n 0, 1, 0, 0, 0, 0, .null), (17, .getfield 394, 3, 11, 38, 3, 1061, .null), (20, .ifCond .ne 312, 3, 332, 0, 0, 0, .null), (23, .aload_n 0, 1, 0, 0, 0, 0, .null), (24, .getfield 320, 3, 11, 20, 3, 1043, .null), (27, .ifCond .eq 13, 3, 40, 0, 0, 0, .null), (30, .aload_n 0, 1, 0, 0, 0, 0, .null), (31, .getfield 45, 3, 11, 24, 2, 1047, .null), (34, .iload 4, 2, 0, 0, 0, 0, .null), (36, .iaload, 1, 0, 0, 0, 0, .null), (37, .goto 20, 3, 57, 0, 0, 0, .null), (40, .aload_n 0, 1, 0, 0, 0, 0, .null), (41, .getfield 13, 3, 11, 3, 2, 1026, .null), (44, .aload_n 0, 1, 0, 0, 0, 0, .null), (45, .getfield 397, 3, 11, 34, 0, 1057, .null), (48, .bipush 98, 2, 0, 0, 0, 0, .int 98), (50, .iadd, 1, 0, 0, 0, 0, .null), (51, .iconst 2, 1, 0, 0, 0, 0, .int 2), (52, .iload 4, 2, 0, 0, 0, 0, .null), (54, .imul, 1, 0, 0, 0, 0, .null), (55, .iadd, 1, 0, 0, 0, 0, .null), (56, .iaload, 1, 0, 0, 0, 0, .null), (57, .istore 5, 2, 0, 0, 0, 0, .null), (59, .aload_n 0, 1, 0, 0, 0, 0, .null), (60, .getfield 320, 3, 11, 20, 3, 1043, .null), (63, .ifCond .eq 13, 3, 76, 0, 0, 0, .null), (66, .aload_n 0, 1, 0, 0, 0, 0, .null), (67, .getfield 48, 3, 11, 25, 2, 1048, .null), (70, .iload 4, 2, 0, 0, 0, 0, .null), (72, .iaload, 1, 0, 0, 0, 0, .null), (73, .goto 22, 3, 95, 0, 0, 0, .null), (76, .aload_n 0, 1, 0, 0, 0, 0, .null), (77, .getfield 13, 3, 11, 3, 2, 1026, .null), (80, .aload_n 0, 1, 0, 0, 0, 0, .null), (81, .getfield 397, 3, 11, 34, 0, 1057, .null), (84, .bipush 98, 2, 0, 0, 0, 0, .int 98), (86, .iadd, 1, 0, 0, 0, 0, .null), (87, .iconst 2, 1, 0, 0, 0, 0, .int 2), (88, .iload 4, 2, 0, 0, 0, 0, .null), (90, .imul, 1, 0, 0, 0, 0, .null), (91, .iadd, 1, 0, 0, 0, 0, .null), (92, .iconst 1, 1, 0, 0, 0, 0, .int 1), (93, .iadd, 1, 0, 0, 0, 0, .null), (94, .iaload, 1, 0, 0, 0, 0, .null), (95, .istore 6, 2, 0, 0, 0, 0, .null), (97, .iinc 4 1, 3, 0, 0, 0, 0, .int 1), (100, .iload 5, 2, 0, 0, 0, 0, .null), (102, .bipush 20, 2, 0, 0, 0, 0, .int 20), (104, .if_icmp .ge 86, 3, 190, 0, 0, 0, .null), (107, .aload_n 0, 1, 0, 0, 0, 0, .null), (108, .getfield 105, 3, 11, 37, 2, 1060, .null), (111, .iload_n 3, 1, 0, 0, 0, 0, .null), (112, .iload 5, 2, 0, 0, 0, 0, .null), (114, .ifCond .ne 9, 3, 123, 0, 0, 0, .null), (117, .iload 6, 2, 0, 0, 0, 0, .null), (119, .i2l, 1, 0, 0, 0, 0, .null), (120, .goto 63, 3, 183, 0, 0, 0, .null), (123, .aload_n 0, 1, 0, 0, 0, 0, .null), (124, .getfield 320, 3, 11, 20, 3, 1043, .null), (127, .ifCond .ne 13, 3, 140, 0, 0, 0, .null), (130, .aload_n 0, 1, 0, 0, 0, 0, .null), (131, .getfield 99, 3, 11, 35, 2, 1058, .null), (134, .iload 5, 2, 0, 0, 0, 0, .null), (136, .laload, 1, 0, 0, 0, 0, .null), (137, .goto 46, 3, 183, 0, 0, 0, .null), (140, .iload 5, 2, 0, 0, 0, 0, .null), (142, .bipush 7, 2, 0, 0, 0, 0, .int 7), (144, .if_icmp .ge 13, 3, 157, 0, 0, 0, .null), (147, .aload_n 0, 1, 0, 0, 0, 0, .null), (148, .getfield 102, 3, 11, 36, 2, 1059, .null), (151, .iload 5, 2, 0, 0, 0, 0, .null), (153, .laload, 1, 0, 0, 0, 0, .null), (154, .goto 29, 3, 183, 0, 0, 0, .null), (157, .aload_n 0, 1, 0, 0, 0, 0, .null), (158, .iload 6, 2, 0, 0, 0, 0, .null), (160, .invokevirtual 201, 3, 137, 1, 0, 1246, .ref 2), (163, .ifCond .eq 17, 3, 180, 0, 0, 0, .null), (166, .aload_n 0, 1, 0, 0, 0, 0, .null), (167, .getfield 13, 3, 11, 3, 2, 1026, .null), (170, .bipush 10, 2, 0, 0, 0, 0, .int 10), (172, .iload 6, 2, 0, 0, 0, 0, .null), (174, .iadd, 1, 0, 0, 0, 0, .null), (175, .iaload, 1, 0, 0, 0, 0, .null), (176, .i2l, 1, 0, 0, 0, 0, .null), (177, .goto 6, 3, 183, 0, 0, 0, .null), (180, .ldc2_w 270, 3, 0, 0, 0, 1258, .long (-1)), (183, .lastore, 1, 0, 0, 0, 0, .null), (184, .iinc 3 1, 3, 0, 0, 0, 0, .int 1), (187, .goto 142, 3, 329, 0, 0, 0, .null), (190, .iload 5, 2, 0, 0, 0, 0, .null), (192, .bipush 28, 2, 0, 0, 0, 0, .int 28), (194, .if_icmp .ge 73, 3, 267, 0, 0, 0, .null), (197, .iinc 3 (-1), 3, 0, 0, 0, 0, .int (-1)), (200, .aload_n 0, 1, 0, 0, 0, 0, .null), (201, .getfield 105, 3, 11, 37, 2, 1060, .null), (204, .iload_n 3, 1, 0, 0, 0, 0, .null), (205, .iconst 1, 1, 0, 0, 0, 0, .int 1), (206, .isub, 1, 0, 0, 0, 0, .null), (207, .aload_n 0, 1, 0, 0, 0, 0, .null), (208, .iload 5, 2, 0, 0, 0, 0, .null), (210, .aload_n 0, 1, 0, 0, 0, 0, .null), (211, .getfield 105, 3, 11, 37, 2, 1060, .null), (214, .iload_n 3, 1, 0, 0, 0, 0, .null), (215, .iconst 1, 1, 0, 0, 0, 0, .int 1), (216, .isub, 1, 0, 0, 0, 0, .null), (217, .laload, 1, 0, 0, 0, 0, .null), (218, .aload_n 0, 1, 0, 0, 0, 0, .null), (219, .getfield 105, 3, 11, 37, 2, 1060, .null), (222, .iload_n 3, 1, 0, 0, 0, 0, .null), (223, .laload, 1, 0, 0, 0, 0, .null), (224, .invokevirtual 400, 3, 181, 3, 0, 1274, .ref 6), (227, .lastore, 1, 0, 0, 0, 0, .null), (228, .aload_n 0, 1, 0, 0, 0, 0, .null), (229, .aload_n 0, 1, 0, 0, 0, 0, .null), (230, .getfield 394, 3, 11, 38, 3, 1061, .null), (233, .ifCond .ne 23, 3, 256, 0, 0, 0, .null), (236, .aload_n 0, 1, 0, 0, 0, 0, .null), (237, .getfield 105, 3, 11, 37, 2, 1060, .null), (240, .iload_n 3, 1, 0, 0, 0, 0, .null), (241, .iconst 1, 1, 0, 0, 0, 0, .int 1), (242, .isub, 1, 0, 0, 0, 0, .null), (243, .laload, 1, 0, 0, 0, 0, .null), (244, .ldc2_w 404, 3, 0, 0, 0, 1278, .long (-1000000000)), (247, .ldc2_w 406, 3, 0, 0, 0, 1279, .long 1000000000), (250, .invokestatic 178, 3, 124, 3, 0, 1221, .ref 6), (253, .ifCond .ne 7, 3, 260, 0, 0, 0, .null), (256, .iconst 1, 1, 0, 0, 0, 0, .int 1), (257, .goto 4, 3, 261, 0, 0, 0, .null), (260, .iconst 0, 1, 0, 0, 0, 0, .int 0), (261, .putfield 394, 3, 11, 38, 3, 1061, .null), (264, .goto 65, 3, 329, 0, 0, 0, .null), (267, .iload 5, 2, 0, 0, 0, 0, .null), (269, .bipush 28, 2, 0, 0, 0, 0, .int 28), (271, .if_icmp .ne 24, 3, 295, 0, 0, 0, .null), (274, .aload_n 0, 1, 0, 0, 0, 0, .null), (275, .getfield 105, 3, 11, 37, 2, 1060, .null), (278, .iload_n 3, 1, 0, 0, 0, 0, .null), (279, .iconst 1, 1, 0, 0, 0, 0, .int 1), (280, .isub, 1, 0, 0, 0, 0, .null), (281, .lconst 1, 1, 0, 0, 0, 0, .long 1), (282, .aload_n 0, 1, 0, 0, 0, 0, .null), (283, .getfield 105, 3, 11, 37, 2, 1060, .null), (286, .iload_n 3, 1, 0, 0, 0, 0, .null), (287, .iconst 1, 1, 0, 0, 0, 0, .int 1), (288, .isub, 1, 0, 0, 0, 0, .null), (289, .laload, 1, 0, 0, 0, 0, .null), (290, .lsub, 1, 0, 0, 0, 0, .null), (291, .lastore, 1, 0, 0, 0, 0, .null), (292, .goto 37, 3, 329, 0, 0, 0, .null), (295, .aload_n 0, 1, 0, 0, 0, 0, .null), (296, .getfield 105, 3, 11, 37, 2, 1060, .null), (299, .iload_n 3, 1, 0, 0, 0, 0, .null), (300, .iconst 1, 1, 0, 0, 0, 0, .int 1), (301, .isub, 1, 0, 0, 0, 0, .null), (302, .laload, 1, 0, 0, 0, 0, .null), (303, .iload 5, 2, 0, 0, 0, 0, .null), (305, .bipush 29, 2, 0, 0, 0, 0, .int 29), (307, .if_icmp .ne 7, 3, 314, 0, 0, 0, .null), (310, .lconst 0, 1, 0, 0, 0, 0, .long 0), (311, .goto 4, 3, 315, 0, 0, 0, .null), (314, .lconst 1, 1, 0, 0, 0, 0, .long 1), (315, .lcmp, 1, 0, 0, 0, 0, .null), (316, .ifCond .ne 10, 3, 326, 0, 0, 0, .null), (319, .iload 6, 2, 0, 0, 0, 0, .null), (321, .istore 4, 2, 0, 0, 0, 0, .null), (323, .goto 6, 3, 329, 0, 0, 0, .null), (326, .iinc 3 (-1), 3, 0, 0, 0, 0, .int (-1)), (329, .goto (-319), 3, 10, 0, 0, 0, .null), (332, .aload_n 0, 1, 0, 0, 0, 0, .null), (333, .iload_n 3, 1, 0, 0, 0, 0, .null), (334, .ifCond .le 12, 3, 346, 0, 0, 0, .null), (337, .aload_n 0, 1, 0, 0, 0, 0, .null), (338, .getfield 105, 3, 11, 37, 2, 1060, .null), (341, .iconst 0, 1, 0, 0, 0, 0, .int 0), (342, .laload, 1, 0, 0, 0, 0, .null), (343, .goto 4, 3, 347, 0, 0, 0, .null), (346, .lconst 0, 1, 0, 0, 0, 0, .long 0), (347, .putfield 408, 3, 11, 39, 1, 1062, .null), (350, .return_, 1, 0, 0, 0, 0, .null)]
noncomputable def sm_o183 : List (Nat × sm_E) := [(0, .aload_n 0, 1, 0, 0, 0, 0, .null), (1, .getfield 13, 3, 11, 3, 2, 1026, .null), (4, .iload_n 1, 1, 0, 0, 0, 0, .null), (5, .iconst 5, 1, 0, 0, 0, 0, .int 5), (6, .iadd, 1, 0, 0, 0, 0, .null), (7, .iaload, 1, 0, 0, 0, 0, .null), (8, .aload_n 0, 1, 0, 0, 0, 0, .null), (9, .getfield 13, 3, 11, 3, 2, 1026, .null), (12, .iload_n 1, 1, 0, 0, 0, 0, .null), (13, .bipush 6, 2, 0, 0, 0, 0, .int 6), (15, .iadd, 1, 0, 0, 0, 0, .null), (16, .iaload, 1, 0, 0, 0, 0, .null), (17, .if_icmp .ge 42, 3, 59, 0, 0, 0, .null), (20, .aload_n 0, 1, 0, 0, 0, 0, .null), (21, .aload_n 0, 1, 0, 0, 0, 0, .null), (22, .getfield 13, 3, 11, 3, 2, 1026, .null), (25, .iload_n 1, 1, 0, 0, 0, 0, .null), (26, .iconst 5, 1, 0, 0, 0, 0, .int 5), (27, .iadd, 1, 0, 0, 0, 0, .null), (28, .iaload, 1, 0, 0, 0, 0, .null), (29, .aload_n 0, 1, 0, 0, 0, 0, .null), (30, .getfield 13, 3, 11, 3, 2, 1026, .null), (33, .iload_n 1, 1, 0, 0, 0, 0, .null), (34, .bipush 6, 2, 0, 0, 0, 0, .int 6), (36, .iadd, 1, 0, 0, 0, 0, .null), (37, .iaload, 1, 0, 0, 0, 0, .null), (38, .invokevirtual 411, 3, 182, 2, 0, 1270, .ref 7), (41, .aload_n 0, 1, 0, 0, 0, 0, .null), (42, .getfield 394, 3, 11, 38, 3, 1061, .null), (45, .ifCond .ne 12, 3, 57, 0, 0, 0, .null), (48, .aload_n 0, 1, 0, 0, 0, 0, .null), (49, .getfield 408, 3, 11, 39, 1, 1062, .null), (52, .lconst 0, 1, 0, 0, 0, 0, .long 0), (53, .lcmp, 1, 0, 0, 0, 0, .null), (54, .ifCond .ne 5, 3, 59, 0, 0, 0, .null), (57, .iconst 0, 1, 0, 0, 0, 0, .int 0), (58, .ireturn, 1, 0, 0, 1, 0, .null), (59, .aload_n 0, 1, 0, 0, 0, 0, .null), (60, .getfield 13, 3, 11, 3, 2, 1026, .null), (63, .iload_n 1, 1, 0, 0, 0, 0, .null), (64, .iaload, 1, 0, 0, 0, 0, .null), (65, .iconst 3, 1, 0, 0, 0, 0, .int 3), (66, .if_icmp .eq 44, 3, 110, 0, 0, 0, .null), (69, .aload_n 0, 1, 0, 0, 0, 0, .null), (70, .aload_n 0, 1, 0, 0, 0, 0, .null), (71, .getfield 13, 3, 11, 3, 2, 1026, .null), (74, .iload_n 1, 1, 0, 0, 0, 0, .null), (75, .iconst 3, 1, 0, 0, 0, 0, .int 3), (76, .iadd, 1, 0, 0, 0, 0, .null), (77, .iaload, 1, 0, 0, 0, 0, .null), (78, .aload_n 0, 1, 0, 0, 0, 0, .null), (79, .getfield 13, 3, 11, 3, 2, 1026, .null), (82, .iload_n 1, 1, 0, 0, 0, 0, .null), (83, .iconst 4, 1, 0, 0, 0, 0, .int 4), (84, .iadd, 1, 0, 0, 0, 0, .null), (85, .iaload, 1, 0, 0, 0, 0, .null), (86, .invokevirtual 411, 3, 182, 2, 0, 1270, .ref 7), (89, .aload_n 0, 1, 0, 0, 0, 0, .null), (90, .aload_n 0, 1, 0, 0, 0, 0, .null), (91, .getfield 408, 3, 11, 39, 1, 1062, .null), (94, .putfield 414, 3, 11, 40, 1, 1063, .null), (97, .aload_n 0, 1, 0, 0, 0, 0, .null), (98, .getfield 394, 3, 11, 38, 3, 1061, .null), (101, .ifCond .ne 7, 3, 108, 0, 0, 0, .null), (104, .iconst 1, 1, 0, 0, 0, 0, .int 1), (105, .goto 4, 3, 109, 0, 0, 0, .null), (108, .iconst 0, 1, 0, 0, 0, 0, .int 0), (109, .ireturn, 1, 0, 0, 1, 0, .null), (110, .iconst 1, 1, 0, 0, 0, 0, .int 1), (111, .ireturn, 1, 0, 0, 1, 0, .null)]
noncomputable def sm_o184 : List (Nat × sm_E) := [(0, .aload_n 0, 1, 0, 0, 0, 0, .null), (1, .getfield 13, 3, 11, 3, 2, 1026, .null), (4, .iconst 3, 1, 0, 0, 0, 0, .int 3), (5, .iaload, 1, 0, 0, 0, 0, .null), (6, .iconst (-1), 1, 0, 0, 0, 0, .int (-1)), (7, .if_icmp .ne 6, 3, 13, 0, 0, 0, .null), (10, .lload 4, 2, 0, 0, 0, 0, .null), (12, .lreturn, 1, 0, 0, 0, 0, .null), (13, .aload_n 0, 1, 0, 0, 0, 0, .null), (14, .bipush 50, 2, 0, 0, 0, 0, .int 50), (16, .sipush 900, 3, 0, 0, 0, 0, .int 900), (19, .aload_n 0, 1, 0, 0, 0, 0, .null), (20, .getfield 13, 3, 11, 3, 2, 1026, .null), (23, .iconst 3, 1, 0, 0, 0, 0, .int 3), (24, .iaload, 1, 0, 0, 0, 0, .null), (25, .imul, 1, 0, 0, 0, 0, .null), (26, .iadd, 1, 0, 0, 0, 0, .null), (27, .putfield 397, 3, 11, 34, 0, 1057, .null), (30, .aload_n 0, 1, 0, 0, 0, 0, .null), (31, .getfield 99, 3, 11, 35, 2, 1058, .null), (34, .iconst 1, 1, 0, 0, 0, 0, .int 1), (35, .iload_n 2, 1, 0, 0, 0, 0, .null), (36, .i2l, 1, 0, 0, 0, 0, .null), (37, .lastore, 1, 0, 0, 0, 0, .null), (38, .aload_n 0, 1, 0, 0, 0, 0, .null), (39, .getfield 99, 3, 11, 35, 2, 1058, .null), (42, .iconst 2, 1, 0, 0, 0, 0, .int 2), (43, .aload_n 0, 1, 0, 0, 0, 0, .null), (44, .getfield 13, 3, 11, 3, 2, 1026, .null), (47, .bipush 24, 2, 0, 0, 0, 0, .int 24), (49, .iload_n 2, 1, 0, 0, 0, 0, .null), (50, .iadd, 1, 0, 0, 0, 0, .null), (51, .iaload, 1, 0, 0, 0, 0, .null), (52, .i2l, 1, 0, 0, 0, 0, .null), (53, .lastore, 1, 0, 0, 0, 0, .null), (54, .aload_n 0, 1, 0, 0, 0, 0, .null), (55, .getfield 99, 3, 11, 35, 2, 1058, .null), (58, .iconst 3, 1, 0, 0, 0, 0, .int 3), (59, .aload_n 0, 1, 0, 0, 0, 0, .null), (60, .getfield 13, 3, 11, 3, 2, 1026, .null), (63, .bipush 10, 2, 0, 0, 0, 0, .int 10), (65, .iload_n 2, 1, 0, 0, 0, 0, .null), (66, .iadd, 1, 0, 0, 0, 0, .null), (67, .iaload, 1, 0, 0, 0, 0, .null), (68, .i2l, 1, 0, 0, 0, 0, .null), (69, .lastore, 1, 0, 0, 0, 0, .null), (70, .aload_n 0, 1, 0, 0, 0, 0, .null), (71, .getfield 99, 3, 11, 35, 2, 1058, .null), (74, .iconst 4, 1, 0, 0, 0, 0, .int 4), (75, .aload_n 0, 1, 0, 0, 0, 0, .null), (76, .getfield 13, 3, 11, 3, 2, 1026, .null), (79, .bipush 9, 2, 0, 0, 0, 0, .int 9), (81, .iaload, 1, 0, 0, 0, 0, .null), (82, .i2l, 1, 0, 0, 0, 0, .null), (83, .lastore, 1, 0, 0, 0, 0, .null), (84, .aload_n 0, 1, 0, 0, 0, 0, .null), (85, .getfield 99, 3, 11, 35, 2, 1058, .null), (88, .iconst 5, 1, 0, 0, 0, 0, .int 5), (89, .iload_n 3, 1, 0, 0, 0, 0, .null), (90, .i2l, 1, 0, 0, 0, 0, .null), (91, .lastore, 1, 0, 0, 0, 0, .null), (92, .aload_n 0, 1, 0, 0, 0, 0, .null), (93, .getfield 99, 3, 11, 35, 2, 1058, .null), (96, .bipush 6, 2, 0, 0, 0, 0, .int 6), (98, .iload_n 3, 1, 0, 0, 0, 0, .null), (99, .iconst (-1), 1, 0, 0, 0, 0, .int (-1)), (100, .if_icmp .ne 9, 3, 109, 0, 0, 0, .null), (103, .ldc2_w 270, 3, 0, 0, 0, 1258, .long (-1)), (106, .goto 10, 3, 116, 0, 0, 0, .null), (109, .aload_n 0, 1, 0, 0, 0, 0, .null), (110, .iload_n 2, 1, 0, 0, 0, 0, .null), (111, .iload_n 3, 1, 0, 0, 0, 0, .null), (112, .invokevirtual 216, 3, 140, 2, 0, 1259, .ref 5), (115, .i2l, 1, 0, 0, 0, 0, .null), (116, .lastore, 1, 0, 0, 0, 0, .null), (117, .aload_n 0, 1, 0, 0, 0, 0, .null), (118, .getfield 99, 3, 11, 35, 2, 1058, .null), (121, .bipush 7, 2, 0, 0, 0, 0, .int 7), (123, .aload_n 0, 1, 0, 0, 0, 0, .null), (124, .getfield 13, 3, 11, 3, 2, 1026, .null), (127, .iconst 4, 1, 0, 0, 0, 0, .int 4), (128, .iaload, 1, 0, 0, 0, 0, .null), (129, .i2l, 1, 0, 0, 0, 0, .null), (130, .lastore, 1, 0, 0, 0, 0, .null), (131, .aload_n 0, 1, 0, 0, 0, 0, .null), (132, .getfield 99, 3, 11, 35, 2, 1058, .null), (135, .bipush 8, 2, 0, 0, 0, 0, .int 8), (137, .aload_n 0, 1, 0, 0, 0, 0, .null), (138, .getfield 13, 3, 11, 3, 2, 1026, .null), (141, .bipush 6, 2, 0, 0, 0, 0, .int 6), (143, .iaload, 1, 0, 0, 0, 0, .null), (144, .i2l, 1, 0, 0, 0, 0, .null), (145, .lastore, 1, 0, 0, 0, 0, .null), (146, .lload 4, 2, 0, 0, 0, 0, .null), (148, .lstore 6, 2, 0, 0, 0, 0, .null), (150, .iconst 0, 1, 0, 0, 0, 0, .int 0), (151, .istore 8, 2, 0, 0, 0, 0, .null), (153, .iload 8, 2, 0, 0, 0, 0, .null), (155, .aload_n 0, 1, 0, 0, 0, 0, .null), (156, .getfield 13, 3, 11, 3, 2, 1026, .null), (159, .aload_n 0, 1, 0, 0, 0, 0, .null), (160, .getfield 397, 3, 11, 34, 0, 1057, .null), (163, .iconst 1, 1, 0, 0, 0, 0, .int 1), (164, .iadd, 1, 0, 0, 0, 0, .null), (165, .iaload, 1, 0, 0, 0, 0, .null), (166, .if_icmp .ge 58, 3, 224, 0, 0, 0, .null), (169, .aload_n 0, 1, 0, 0, 0, 0, .null), (170, .getfield 397, 3, 11, 34, 0, 1057, .null), (173, .iconst 2, 1, 0, 0, 0, 0, .int 2), (174, .iadd, 1, 0, 0, 0, 0, .null), (175, .bipush 8, 2, 0, 0, 0, 0, .int 8), (177, .iload 8, 2, 0, 0, 0, 0, .null), (179, .imul, 1, 0, 0, 0, 0, .null), (180, .iadd, 1, 0, 0, 0, 0, .null), (181, .istore 9, 2, 0, 0, 0, 0, .null), (183, .aload_n 0, 1, 0, 0, 0, 0, .null), (184, .getfield 13, 3, 11, 3, 2, 1026, .null), (187, .iload 9, 2, 0, 0, 0, 0, .null), (189, .iaload, 1, 0, 0, 0, 0, .null), (190, .iload_n 1, 1, 0, 0, 0, 0, .null), (191, .if_icmp .ne 27, 3, 218, 0, 0, 0, .null), (194, .aload_n 0, 1, 0, 0, 0, 0, .null), (195, .iload 9, 2, 0, 0, 0, 0, .null), (197, .invokevirtual 417, 3, 183, 1, 0, 1266, .ref 2), (200, .ifCond .eq 18, 3, 218, 0, 0, 0, .null), (203, .iload_n 1, 1, 0, 0, 0, 0, .null), (204, .iconst 3, 1, 0, 0, 0, 0, .int 3), (205, .if_icmp .ne 7, 3, 212, 0, 0, 0, .null), (208, .lconst 1, 1, 0, 0, 0, 0, .long 1), (209, .goto 7, 3, 216, 0, 0, 0, .null), (212, .aload_n 0, 1, 0, 0, 0, 0, .null), (213, .getfield 414, 3, 11, 40, 1, 1063, .null), (216, .lstore 6, 2, 0, 0, 0, 0, .null), (218, .iinc 8 1, 3, 0, 0, 0, 0, .int 1), (221, .goto (-68), 3, 153, 0, 0, 0, .null), (224, .lload 6, 2, 0, 0, 0, 0, .null), (226, .lreturn, 1, 0, 0, 0, 0, .null)]
noncomputable def sm_o185 : List (Nat × sm_E) := [(0, .aload_n 0, 1, 0, 0, 0, 0, .null), (1, .iconst 0, 1, 0, 0, 0, 0, .int 0), (2, .iload_n 1, 1, 0, 0, 0, 0, .null), (3, .iconst (-1), 1, 0, 0, 0, 0, .int (-1)), (4, .lconst 1, 1, 0, 0, 0, 0, .long 1), (5, .invokevirtual 420, 3, 184, 4, 0, 1254, .ref 10), (8, .iconst 0, 1, 0, 0, 0, 0, .int 0), (9, .bipush 9, 2, 0, 0, 0, 0, .int 9), (11, .invokestatic 424, 3, 126, 3, 0, 1280, .ref 4), (14, .ireturn, 1, 0, 0, 0, 0, .null)]
noncomputable def sm_o186 : List (Nat × sm_E) := [(0, .aload_n 0, 1, 0, 0, 0, 0, .null), (1, .iconst 1, 1, 0, 0, 0, 0, .int 1), (2, .iload_n 1, 1, 0, 0, 0, 0, .null), (3, .iconst (-1), 1, 0, 0, 0, 0, .int (-1)), (4, .lconst 1, 1, 0, 0, 0, 0, .long 1), (5, .invokevirtual 420, 3, 184, 4, 0, 1254, .ref 10), (8, .iconst 0, 1, 0, 0, 0, 0, .int 0), (9, .bipush 9, 2, 0, 0, 0, 0, .int 9), (11, .invokestatic 424, 3, 126, 3, 0, 1280, .ref 4), (14, .ireturn, 1, 0, 0, 0, 0, .null)]
noncomputable def sm_o187 : List (Nat × sm_E) := [(0, .aload_n 0, 1, 0, 0, 0, 0, .null), (1, .iconst 3, 1, 0, 0, 0, 0, .int 3), (2, .iload_n 1, 1, 0, 0, 0, 0, .null), (3, .iconst (-1), 1, 0, 0, 0, 0, .int (-1)), (4, .lconst 0, 1, 0, 0, 0, 0, .long 0), (5, .invokevirtual 420, 3, 184, 4, 0, 1254, .ref 10), (8, .lconst 1, 1, 0, 0, 0, 0, .long 1), (9, .lcmp, 1, 0, 0, 0, 0, .null), (10, .ifCond .ne 7, 3, 17, 0, 0, 0, .null), (13, .iconst 1, 1, 0, 0, 0, 0, .int 1), (14, .goto 4, 3, 18, 0, 0, 0, .null), (17, .iconst 0, 1, 0, 0, 0, 0, .int 0), (18, .ireturn, 1, 0, 0, 1, 0, .null)]
noncomputable def sm_o188 : List (Nat × sm_E) := [(0, .iload_n 2, 1, 0, 0, 0, 0, .null), (1, .iconst (-1), 1, 0, 0, 0, 0, .int (-1)), (2, .if_icmp .ne 7, 3, 9, 0, 0, 0, .null), (5, .iconst 0, 1, 0, 0, 0, 0, .int 0), (6, .goto 23, 3, 29, 0, 0, 0, .null), (9, .aload_n 0, 1, 0, 0, 0, 0, .null), (10, .iconst 2, 1, 0, 0, 0, 0, .int 2), (11, .iload_n 1, 1, 0, 0, 0, 0, .null), (12, .iload_n 2, 1, 0, 0, 0, 0, .null), (13, .aload_n 0, 1, 0, 0, 0, 0, .null), (14, .iload_n 1, 1, 0, 0, 0, 0, .null), (15, .iload_n 2, 1, 0, 0, 0, 0, .null), (16, .invokevirtual 216, 3, 140, 2, 0, 1259, .ref 5), (19, .i2l, 1, 0, 0, 0, 0, .null), (20, .invokevirtual 420, 3, 184, 4, 0, 1254, .ref 10), (23, .iconst 0, 1, 0, 0, 0, 0, .int 0), (24, .bipush 99, 2, 0, 0, 0, 0, .int 99), (26, .invokestatic 424, 3, 126, 3, 0, 1280, .ref 4), (29, .ireturn, 1, 0, 0, 0, 0, .null)]
noncomputable def sm_o189 : List (Nat × sm_E) := [(0, .aload_n 0, 1, 0, 0, 0, 0, .null), (1, .getfield 13, 3, 11, 3, 2, 1026, .null), (4, .bipush 8, 2, 0, 0, 0, 0, .int 8), (6, .iaload, 1, 0, 0, 0, 0, .null), (7, .iload_n 1, 1, 0, 0, 0, 0, .null), (8, .if_icmp .eq 44, 3, 52, 0, 0, 0, .null), (11, .aload_n 0, 1, 0, 0, 0, 0, .null), (12, .iload_n 1, 1, 0, 0, 0, 0, .null), (13, .invokevirtual 185, 3, 138, 1, 0, 1295, .ref 2), (16, .ifCond .eq 36, 3, 52, 0, 0, 0, .null), (19, .aload_n 0, 1, 0, 0, 0, 0, .null), (20, .getfield 13, 3, 11, 3, 2, 1026, .null), (23, .bipush 10, 2, 0, 0, 0, 0, .int 10), (25, .iload_n 1, 1, 0, 0, 0, 0, .null), (26, .iadd, 1, 0, 0, 0, 0, .null), (27, .iaload, 1, 0, 0, 0, 0, .null), (28, .aload_n 0, 1, 0, 0, 0, 0, .null), (29, .getfield 13, 3, 11, 3, 2, 1026, .null), (32, .bipush 24, 2, 0, 0, 0, 0, .int 24), (34, .iload_n 1, 1, 0, 0, 0, 0, .null), (35, .iadd, 1, 0, 0, 0, 0, .null), (36, .iaload, 1, 0, 0, 0, 0, .null), (37, .if_icmp .ge 15, 3, 52, 0, 0, 0, .null), (40, .aload_n 0, 1, 0, 0, 0, 0, .null), (41, .iload_n 1, 1, 0, 0, 0, 0, .null), (42, .invokevirtual 210, 3, 187, 1, 0, 1287, .ref 2), (45, .ifCond .ne 7, 3, 52, 0, 0, 0, .null), (48, .iconst 1, 1, 0, 0, 0, 0, .int 1), (49, .goto 4, 3, 53, 0, 0, 0, .null), (52, .iconst 0, 1, 0, 0, 0, 0, .int 0), (53, .ireturn, 1, 0, 0, 1, 0, .null)]
noncomputable def sm_o190 : List (Nat × sm_E) := [(0, .aload_n 0, 1, 0, 0, 0, 0, .null), (1, .iload_n 1, 1, 0, 0, 0, 0, .null), (2, .aload_n 0, 1, 0, 0, 0, 0, .null), (3, .getfield 13, 3, 11, 3, 2, 1026, .null), (6, .bipush 8, 2, 0, 0, 0, 0, .int 8), (8, .iaload, 1, 0, 0, 0, 0, .null), (9, .invokevirtual 219, 3, 188, 2, 0, 1303, .ref 3), (12, .istore_n 2, 1, 0, 0, 0, 0, .null), (13, .aload_n 0, 1, 0, 0, 0, 0, .null), (14, .getfield 13, 3, 11, 3, 2, 1026, .null), (17, .bipush 8, 2, 0, 0, 0, 0, .int 8), (19, .iload_n 1, 1, 0, 0, 0, 0, .null), (20, .iastore, 1, 0, 0, 0, 0, .null), (21, .aload_n 0, 1, 0, 0, 0, 0, .null), (22, .getfield 13, 3, 11, 3, 2, 1026, .null), (25, .bipush 9, 2, 0, 0, 0, 0, .int 9), (27, .iconst 0, 1, 0, 0, 0, 0, .int 0), (28, .iastore, 1, 0, 0, 0, 0, .null), (29, .iload_n 2, 1, 0, 0, 0, 0, .null), (30, .ireturn, 1, 0, 0, 0, 0, .null)]
noncomputable def sm_o191 : List (Nat × sm_E) := [(0, .aload_n 0, 1, 0, 0, 0, 0, .null), (1, .iload_n 1, 1, 0, 0, 0, 0, .null), (2, .invokevirtual 201, 3, 137, 1, 0, 1246, .ref 2), (5, .ifCond .ne 6, 3, 11, 0, 0, 0, .null), (8, .bipush (-2), 2, 0, 0, 0, 0, .int (-2)), (10, .ireturn, 1, 0, 0, 0, 0, .null), (11, .aload_n 0, 1, 0, 0, 0, 0, .null), (12, .iload_n 1, 1, 0, 0, 0, 0, .null), (13, .invokevirtual 213, 3, 189, 1, 0, 1291, .ref 2), (16, .ifCond .ne 6, 3, 22, 0, 0, 0, .null), (19, .bipush (-3), 2, 0, 0, 0, 0, .int (-3)), (21, .ireturn, 1, 0, 0, 0, 0, .null), (22, .aload_n 0, 1, 0, 0, 0, 0, .null), (23, .iconst 0, 1, 0, 0, 0, 0, .int 0), (24, .invokevirtual 428, 3, 133, 1, 0, 1477, .ref 3), (27, .aload_n 0, 1, 0, 0, 0, 0, .null), (28, .iload_n 1, 1, 0, 0, 0, 0, .null), (29, .invokevirtual 431, 3, 190, 1, 0, 1485, .ref 3), (32, .ireturn, 1, 0, 0, 0, 0, .null)]
noncomputable def sm_o192 : List (Nat × sm_E) := [(0, .aload_n 0, 1, 0, 0, 0, 0, .null), (1, .iconst 0, 1, 0, 0, 0, 0, .int 0), (2, .putfield 158, 3, 11, 0, 0, 1023, .null), (5, .aload_n 0, 1, 0, 0, 0, 0, .null), (6, .aload_n 0, 1, 0, 0, 0, 0, .null), (7, .iload_n 1, 1, 0, 0, 0, 0, .null), (8, .invokevirtual 434, 3, 191, 1, 0, 1473, .ref 2), (11, .invokevirtual 167, 3, 128, 1, 0, 1209, .ref 2), (14, .ireturn, 1, 0, 0, 0, 0, .null)]
noncomputable def sm_o193 : List (Nat × sm_E) := [(0, .aload_n 0, 1, 0, 0, 0, 0, .null), (1, .getfield 13, 3, 11, 3, 2, 1026, .null), (4, .bipush 17, 2, 0, 0, 0, 0, .int 17), (6, .iload_n 1, 1, 0, 0, 0, 0, .null), (7, .iadd, 1, 0, 0, 0, 0, .null), (8, .iconst 1, 1, 0, 0, 0, 0, .int 1), (9, .iastore, 1, 0, 0, 0, 0, .null), (10, .aload_n 0, 1, 0, 0, 0, 0, .null), (11, .getfield 13, 3, 11, 3, 2, 1026, .null), (14, .bipush 8, 2, 0, 0, 0, 0, .int 8), (16, .iaload, 1, 0, 0, 0, 0, .null), (17, .iload_n 1, 1, 0, 0, 0, 0, .null), (18, .if_icmp .ne 19, 3, 37, 0, 0, 0, .null), (21, .aload_n 0, 1, 0, 0, 0, 0, .null), (22, .getfield 13, 3, 11, 3, 2, 1026, .null), (25, .bipush 8, 2, 0, 0, 0, 0, .int 8), (27, .iconst (-1), 1, 0, 0, 0, 0, .int (-1)), (28, .iastore, 1, 0, 0, 0, 0, .null), (29, .aload_n 0, 1, 0, 0, 0, 0, .null), (30, .getfield 13, 3, 11, 3, 2, 1026, .null), (33, .bipush 9, 2, 0, 0, 0, 0, .int 9), (35, .iconst 0, 1, 0, 0, 0, 0, .int 0), (36, .iastore, 1, 0, 0, 0, 0, .null), (37, .return_, 1, 0, 0, 0, 0, .null)]
noncomputable def sm_o194 : List (Nat × sm_E) := [(0, .aload_n 0, 1, 0, 0, 0, 0, .null), (1, .iload_n 1, 1, 0, 0, 0, 0, .null), (2, .invokevirtual 201, 3, 137, 1, 0, 1246, .ref 2), (5, .ifCond .ne 6, 3, 11, 0, 0, 0, .null), (8, .bipush (-2), 2, 0, 0, 0, 0, .int (-2)), (10, .ireturn, 1, 0, 0, 0, 0, .null), (11, .aload_n 0, 1, 0, 0, 0, 0, .null), (12, .iload_n 1, 1, 0, 0, 0, 0, .null), (13, .invokevirtual 185, 3, 138, 1, 0, 1295, .ref 2), (16, .ifCond .ne 6, 3, 22, 0, 0, 0, .null), (19, .bipush (-3), 2, 0, 0, 0, 0, .int (-3)), (21, .ireturn, 1, 0, 0, 0, 0, .null), (22, .aload_n 0, 1, 0, 0, 0, 0, .null), (23, .iconst 1, 1, 0, 0, 0, 0, .int 1), (24, .invokevirtual 428, 3, 133, 1, 0, 1477, .ref 3), (27, .aload_n 0, 1, 0, 0, 0, 0, .null), (28, .iload_n 1, 1, 0, 0, 0, 0, .null), (29, .invokevirtual 437, 3, 193, 1, 0, 1497, .ref 2), (32, .aload_n 0, 1, 0, 0, 0, 0, .null), (33, .invokevirtual 440, 3, 139, 0, 0, 1501, .ref 3), (36, .invokestatic 443, 3, 127, 1, 0, 1505, .ref 3), (39, .ireturn, 1, 0, 0, 0, 0, .null)]
noncomputable def sm_o195 : List (Nat × sm_E) := [(0, .aload_n 0, 1, 0, 0, 0, 0, .null), (1, .iconst 0, 1, 0, 0, 0, 0, .int 0), (2, .putfield 158, 3, 11, 0, 0, 1023, .null), (5, .aload_n 0, 1, 0, 0, 0, 0, .null), (6, .aload_n 0, 1, 0, 0, 0, 0, .null), (7, .iload_n 1, 1, 0, 0, 0, 0, .null), (8, .invokevirtual 446, 3, 194, 1, 0, 1493, .ref 2), (11, .invokevirtual 167, 3, 128, 1, 0, 1209, .ref 2), (14, .ireturn, 1, 0, 0, 0, 0, .null)]
noncomputable def sm_o196 : List (Nat × sm_E) := [(0, .aload_n 0, 1, 0, 0, 0, 0, .null), (1, .getfield 13, 3, 11, 3, 2, 1026, .null), (4, .bipush 17, 2, 0, 0, 0, 0, .int 17), (6, .iload_n 1, 1, 0, 0, 0, 0, .null), (7, .iadd, 1, 0, 0, 0, 0, .null), (8, .iconst 0, 1, 0, 0, 0, 0, .int 0), (9, .iastore, 1, 0, 0, 0, 0, .null), (10, .aload_n 0, 1, 0, 0, 0, 0, .null), (11, .getfield 13, 3, 11, 3, 2, 1026, .null), (14, .bipush 10, 2, 0, 0, 0, 0, .int 10), (16, .iload_n 1, 1, 0, 0, 0, 0, .null), (17, .iadd, 1, 0, 0, 0, 0, .null), (18, .iconst 0, 1, 0, 0, 0, 0, .int 0), (19, .iastore, 1, 0, 0, 0, 0, .null), (20, .return_, 1, 0, 0, 0, 0, .null)]
noncomputable def sm_o197 : List (Nat × sm_E) := [(0, .aload_n 0, 1, 0, 0, 0, 0, .null), (1, .iload_n 1, 1, 0, 0, 0, 0, .null), (2, .invokevirtual 201, 3, 137, 1, 0, 1246, .ref 2), (5, .ifCond .ne 6, 3, 11, 0, 0, 0, .null), (8, .bipush (-2), 2, 0, 0, 0, 0, .int (-2)), (10, .ireturn, 1, 0, 0, 0, 0, .null), (11, .aload_n 0, 1, 0, 0, 0, 0, .null), (12, .iload_n 1, 1, 0, 0, 0, 0, .null), (13, .invokevirtual 185, 3, 138, 1, 0, 1295, .ref 2), (16, .ifCond .eq 6, 3, 22, 0, 0, 0, .null), (19, .bipush (-3), 2, 0, 0, 0, 0, .int (-3)), (21, .ireturn, 1, 0, 0, 0, 0, .null), (22, .aload_n 0, 1, 0, 0, 0, 0, .null), (23, .iconst 2, 1, 0, 0, 0, 0, .int 2), (24, .invokevirtual 428, 3, 133, 1, 0, 1477, .ref 3), (27, .aload_n 0, 1, 0, 0, 0, 0, .null), (28, .iload_n 1, 1, 0, 0, 0, 0, .null), (29, .invokevirtual 449, 3, 196, 1, 0, 1516, .ref 2), (32, .aload_n 0, 1, 0, 0, 0, 0, .null), (33, .invokevirtual 440, 3, 139, 0, 0, 1501, .ref 3), (36, .invokestatic 443, 3, 127, 1, 0, 1505, .ref 3), (39, .ireturn, 1, 0, 0, 0, 0, .null)]
noncomputable def sm_o198 : List (Nat × sm_E) := [(0, .aload_n 0, 1, 0, 0, 0, 0, .null), (1, .iconst 0, 1, 0, 0, 0, 0, .int 0), (2, .putfield 158, 3, 11, 0, 0, 1023, .null), (5, .aload_n 0, 1, 0, 0, 0, 0, .null), (6, .aload_n 0, 1, 0, 0, 0, 0, .null), (7, .iload_n 1, 1, 0, 0, 0, 0, .null), (8, .invokevirtual 452, 3, 197, 1, 0, 1512, .ref 2), (11, .invokevirtual 167, 3, 128, 1, 0, 1209, .ref 2), (14, .ireturn, 1, 0, 0, 0, 0, .null)]
noncomputable def sm_o199 : List (Nat × sm_E) := [(0, .aload_n 0, 1, 0, 0, 0, 0, .null), (1, .getfield 13, 3, 11, 3, 2, 1026, .null), (4, .bipush 8, 2, 0, 0, 0, 0, .int 8), (6, .iaload, 1, 0, 0, 0, 0, .null), (7, .istore_n 1, 1, 0, 0, 0, 0, .null), (8, .iconst 0, 1, 0, 0, 0, 0, .int 0), (9, .istore_n 2, 1, 0, 0, 0, 0, .null), (10, .iload_n 2, 1, 0, 0, 0, 0, .null), (11, .aload_n 0, 1, 0, 0, 0, 0, .null), (12, .getfield 13, 3, 11, 3, 2, 1026, .null), (15, .iconst 0, 1, 0, 0, 0, 0, .int 0), (16, .iaload, 1, 0, 0, 0, 0, .null), (17, .if_icmp .ge 53, 3, 70, 0, 0, 0, .null), (20, .aload_n 0, 1, 0, 0, 0, 0, .null), (21, .getfield 108, 3, 11, 41, 2, 1064, .null), (24, .iload_n 2, 1, 0, 0, 0, 0, .null), (25, .iload_n 2, 1, 0, 0, 0, 0, .null), (26, .iload_n 1, 1, 0, 0, 0, 0, .null), (27, .if_icmp .ne 21, 3, 48, 0, 0, 0, .null), (30, .aload_n 0, 1, 0, 0, 0, 0, .null), (31, .getfield 13, 3, 11, 3, 2, 1026, .null), (34, .bipush 10, 2, 0, 0, 0, 0, .int 10), (36, .iload_n 2, 1, 0, 0, 0, 0, .null), (37, .iadd, 1, 0, 0, 0, 0, .null), (38, .iaload, 1, 0, 0, 0, 0, .null), (39, .aload_n 0, 1, 0, 0, 0, 0, .null), (40, .iload_n 2, 1, 0, 0, 0, 0, .null), (41, .invokevirtual 204, 3, 185, 1, 0, 1250, .ref 2), (44, .iadd, 1, 0, 0, 0, 0, .null), (45, .goto 18, 3, 63, 0, 0, 0, .null), (48, .aload_n 0, 1, 0, 0, 0, 0, .null), (49, .getfield 13, 3, 11, 3, 2, 1026, .null), (52, .bipush 10, 2, 0, 0, 0, 0, .int 10), (54, .iload_n 2, 1, 0, 0, 0, 0, .null), (55, .iadd, 1, 0, 0, 0, 0, .null), (56, .iaload, 1, 0, 0, 0, 0, .null), (57, .aload_n 0, 1, 0, 0, 0, 0, .null), (58, .iload_n 2, 1, 0, 0, 0, 0, .null), (59, .invokevirtual 207, 3, 186, 1, 0, 1283, .ref 2), (62, .isub, 1, 0, 0, 0, 0, .null), (63, .iastore, 1, 0, 0, 0, 0, .null), (64, .iinc 2 1, 3, 0, 0, 0, 0, .int 1), (67, .goto (-57), 3, 10, 0, 0, 0, .null), (70, .iconst 0, 1, 0, 0, 0, 0, .int 0), (71, .istore_n 2, 1, 0, 0, 0, 0, .null), (72, .iload_n 2, 1, 0, 0, 0, 0, .null), (73, .aload_n 0, 1, 0, 0, 0, 0, .null), (74, .getfield 13, 3, 11, 3, 2, 1026, .null), (77, .iconst 0, 1, 0, 0, 0, 0, .int 0), (78, .iaload, 1, 0, 0, 0, 0, .null), (79, .if_icmp .ge 31, 3, 110, 0, 0, 0, .null), (82, .aload_n 0, 1, 0, 0, 0, 0, .null), (83, .getfield 13, 3, 11, 3, 2, 1026, .null), (86, .bipush 10, 2, 0, 0, 0, 0, .int 10), (88, .iload_n 2, 1, 0, 0, 0, 0, .null), (89, .iadd, 1, 0, 0, 0, 0, .null), (90, .aload_n 0, 1, 0, 0, 0, 0, .null), (91, .getfield 108, 3, 11, 41, 2, 1064, .null), (94, .iload_n 2, 1, 0, 0, 0, 0, .null), (95, .iaload, 1, 0, 0, 0, 0, .null), (96, .i2l, 1, 0, 0, 0, 0, .null), (97, .iconst 0, 1, 0, 0, 0, 0, .int 0), (98, .bipush 99, 2, 0, 0, 0, 0, .int 99), (100, .invokestatic 424, 3, 126, 3, 0, 1280, .ref 4), (103, .iastore, 1, 0, 0, 0, 0, .null), (104, .iinc 2 1, 3, 0, 0, 0, 0, .int 1), (107, .goto (-35), 3, 72, 0, 0, 0, .null), (110, .aload_n 0, 1, 0, 0, 0, 0, .null), (111, .getfield 13, 3, 11, 3, 2, 1026, .null), (114, .iconst 4, 1, 0, 0, 0, 0, .int 4), (115, .dup2, 1, 0, 0, 0, 0, .null), (116, .iaload, 1, 0, 0, 0, 0, .null), (117, .iconst 1, 1, 0, 0, 0, 0, .int 1), (118, .iadd, 1, 0, 0, 0, 0, .null), (119, .iastore, 1, 0, 0, 0, 0, .null), (120, .iload_n 1, 1, 0, 0, 0, 0, .null), (121, .iconst (-1), 1, 0, 0, 0, 0, .int (-1)), (122, .if_icmp .ne 5, 3, 127, 0, 0, 0, .null), (125, .iconst 0, 1, 0, 0, 0, 0, .int 0), (126, .ireturn, 1, 0, 0, 0, 0, .null), (127, .aload_n 0, 1, 0, 0, 0, 0, .null), (128, .getfield 13, 3, 11, 3, 2, 1026, .null), (131, .bipush 9, 2, 0, 0, 0, 0, .int 9), (133, .aload_n 0, 1, 0, 0, 0, 0, .null), (134, .getfield 13, 3, 11, 3, 2, 1026, .null), (137, .bipush 9, 2, 0, 0, 0, 0, .int 9), (139, .iaload, 1, 0, 0, 0, 0, .null), (140, .i2l, 1, 0, 0, 0, 0, .null), (141, .lconst 1, 1, 0, 0, 0, 0, .long 1), (142, .ladd, 1, 0, 0, 0, 0, .null), (143, .iconst 0, 1, 0, 0, 0, 0, .int 0), (144, .bipush 99, 2, 0, 0, 0, 0, .int 99), (146, .invokestatic 424, 3, 126, 3, 0, 1280, .ref 4), (149, .iastore, 1, 0, 0, 0, 0, .null), (150, .aload_n 0, 1, 0, 0, 0, 0, .null), (151, .getfield 13, 3, 11, 3, 2, 1026, .null), (154, .bipush 10, 2, 0, 0, 0, 0, .int 10), (156, .iload_n 1, 1, 0, 0, 0, 0, .null), (157, .iadd, 1, 0, 0, 0, 0, .null), (158, .iaload, 1, 0, 0, 0, 0, .null), (159, .aload_n 0, 1, 0, 0, 0, 0, .null), (160, .getfield 13, 3, 11, 3, 2, 1026, .null), (163, .bipush 24, 2, 0, 0, 0, 0, .int 24), (165, .iload_n 1, 1, 0, 0, 0, 0, .null), (166, .iadd, 1, 0, 0, 0, 0, .null), (167, .iaload, 1, 0, 0, 0, 0, .null), (168, .if_icmp .gt 5, 3, 173, 0, 0, 0, .null), (171, .iconst 0, 1, 0, 0, 0, 0, .int 0), (172, .ireturn, 1, 0, 0, 0, 0, .null), (173, .aload_n 0, 1, 0, 0, 0, 0, .null), (174, .iload_n 1, 1, 0, 0, 0, 0, .null), (175, .invokevirtual 437, 3, 193, 1, 0, 1497, .ref 2), (178, .iconst 1, 1, 0, 0, 0, 0, .int 1), (179, .ireturn, 1, 0, 0, 0, 0, .null)]
noncomputable def sm_o200 : List (Nat × sm_E) := [(0, .aload_n 0, 1, 0, 0, 0, 0, .null), (1, .getfield 13, 3, 11, 3, 2, 1026, .null), (4, .iconst 4, 1, 0, 0, 0, 0, .int 4), (5, .iaload, 1, 0, 0, 0, 0, .null), (6, .sipush 999, 3, 0, 0, 0, 0, .int 999), (9, .if_icmp .ne 6, 3, 15, 0, 0, 0, .null), (12, .bipush (-3), 2, 0, 0, 0, 0, .int (-3)), (14, .ireturn, 1, 0, 0, 0, 0, .null), (15, .aload_n 0, 1, 0, 0, 0, 0, .null), (16, .iconst 3, 1, 0, 0, 0, 0, .int 3), (17, .invokevirtual 428, 3, 133, 1, 0, 1477, .ref 3), (20, .aload_n 0, 1, 0, 0, 0, 0, .null), (21, .invokevirtual 455, 3, 199, 0, 0, 1528, .ref 3), (24, .ireturn, 1, 0, 0, 0, 0, .null)]
noncomputable def sm_o201 : List (Nat × sm_E) := [(0, .aload_n 0, 1, 0, 0, 0, 0, .null), (1, .iconst 0, 1, 0, 0, 0, 0, .int 0), (2, .putfield 158, 3, 11, 0, 0, 1023, .null), (5, .aload_n 0, 1, 0, 0, 0, 0, .null), (6, .aload_n 0, 1, 0, 0, 0, 0, .null), (7, .invokevirtual 458, 3, 200, 0, 0, 1524, .ref 1), (10, .invokevirtual 167, 3, 128, 1, 0, 1209, .ref 2), (13, .ireturn, 1, 0, 0, 0, 0, .null)]
noncomputable def sm_o202 : List (Nat × sm_E) := [(0, .aload_n 0, 1, 0, 0, 0, 0, .null), (1, .iconst 0, 1, 0, 0, 0, 0, .int 0), (2, .putfield 158, 3, 11, 0, 0, 1023, .null), (5, .aload_n 0, 1, 0, 0, 0, 0, .null), (6, .iload_n 1, 1, 0, 0, 0, 0, .null), (7, .invokevirtual 201, 3, 137, 1, 0, 1246, .ref 2), (10, .ifCond .ne 5, 3, 15, 0, 0, 0, .null), (13, .iconst (-1), 1, 0, 0, 0, 0, .int (-1)), (14, .ireturn, 1, 0, 0, 0, 0, .null), (15, .aload_n 0, 1, 0, 0, 0, 0, .null), (16, .bipush 16, 2, 0, 0, 0, 0, .int 16), (18, .invokevirtual 171, 3, 131, 1, 0, 1481, .ref 3), (21, .aload_n 0, 1, 0, 0, 0, 0, .null), (22, .getfield 13, 3, 11, 3, 2, 1026, .null), (25, .bipush 9, 2, 0, 0, 0, 0, .int 9), (27, .aload_n 0, 1, 0, 0, 0, 0, .null), (28, .getfield 13, 3, 11, 3, 2, 1026, .null), (31, .bipush 8, 2, 0, 0, 0, 0, .int 8), (33, .iaload, 1, 0, 0, 0, 0, .null), (34, .iload_n 1, 1, 0, 0, 0, 0, .null), (35, .if_icmp .ne 13, 3, 48, 0, 0, 0, .null), (38, .aload_n 0, 1, 0, 0, 0, 0, .null), (39, .getfield 13, 3, 11, 3, 2, 1026, .null), (42, .bipush 9, 2, 0, 0, 0, 0, .int 9), (44, .iaload, 1, 0, 0, 0, 0, .null), (45, .goto 4, 3, 49, 0, 0, 0, .null), (48, .iconst 0, 1, 0, 0, 0, 0, .int 0), (49, .iastore, 1, 0, 0, 0, 0, .null), (50, .aload_n 0, 1, 0, 0, 0, 0, .null), (51, .getfield 13, 3, 11, 3, 2, 1026, .null), (54, .bipush 8, 2, 0, 0, 0, 0, .int 8), (56, .iload_n 1, 1, 0, 0, 0, 0, .null), (57, .iastore, 1, 0, 0, 0, 0, .null), (58, .iconst 0, 1, 0, 0, 0, 0, .int 0), (59, .istore_n 2, 1, 0, 0, 0, 0, .null), (60, .iconst 0, 1, 0, 0, 0, 0, .int 0), (61, .istore_n 3, 1, 0, 0, 0, 0, .null), (62, .iload_n 2, 1, 0, 0, 0, 0, .null), (63, .bipush 99, 2, 0, 0, 0, 0, .int 99), (65, .if_icmp .ge 36, 3, 101, 0, 0, 0, .null), (68, .iload_n 3, 1, 0, 0, 0, 0, .null), (69, .ifCond .ne 32, 3, 101, 0, 0, 0, .null), (72, .aload_n 0, 1, 0, 0, 0, 0, .null), (73, .invokevirtual 455, 3, 199, 0, 0, 1528, .ref 3), (76, .iconst 1, 1, 0, 0, 0, 0, .int 1), (77, .if_icmp .ne 7, 3, 84, 0, 0, 0, .null), (80, .iconst 1, 1, 0, 0, 0, 0, .int 1), (81, .goto 4, 3, 85, 0, 0, 0, .null), (84, .iconst 0, 1, 0, 0, 0, 0, .int 0), (85, .istore_n 3, 1, 0, 0, 0, 0, .null), (86, .iload_n 2, 1, 0, 0, 0, 0, .null), (87, .iload_n 3, 1, 0, 0, 0, 0, .null), (88, .ifCond .eq 7, 3, 95, 0, 0, 0, .null), (91, .iconst 0, 1, 0, 0, 0, 0, .int 0), (92, .goto 4, 3, 96, 0, 0, 0, .null), (95, .iconst 1, 1, 0, 0, 0, 0, .int 1), (96, .iadd, 1, 0, 0, 0, 0, .null), (97, .istore_n 2, 1, 0, 0, 0, 0, .null), (98, .goto (-36), 3, 62, 0, 0, 0, .null), (101, .aload_n 0, 1, 0, 0, 0, 0, .null), (102, .bipush 16, 2, 0, 0, 0, 0, .int 16), (104, .invokevirtual 175, 3, 132, 1, 0, 1213, .ref 3), (107, .iload_n 2, 1, 0, 0, 0, 0, .null), (108, .ireturn, 1, 0, 0, 0, 0, .null)]
noncomputable def sm_o203 : List (Nat × sm_E) := [(0, .aload_n 0, 1, 0, 0, 0, 0, .null), (1, .iconst 0, 1, 0, 0, 0, 0, .int 0), (2, .putfield 158, 3, 11, 0, 0, 1023, .null), (5, .iload_n 1, 1, 0, 0, 0, 0, .null), (6, .i2l, 1, 0, 0, 0, 0, .null), (7, .lconst 0, 1, 0, 0, 0, 0, .long 0), (8, .ldc2_w 461, 3, 0, 0, 0, 1540, .long 60), (11, .invokestatic 178, 3, 124, 3, 0, 1221, .ref 6), (14, .ifCond .eq 19, 3, 33, 0, 0, 0, .null), (17, .iload_n 2, 1, 0, 0, 0, 0, .null), (18, .i2l, 1, 0, 0, 0, 0, .null), (19, .lconst 0, 1, 0, 0, 0, 0, .long 0), (20, .aload_n 0, 1, 0, 0, 0, 0, .null), (21, .getfield 13, 3, 11, 3, 2, 1026, .null), (24, .iconst 0, 1, 0, 0, 0, 0, .int 0), (25, .iaload, 1, 0, 0, 0, 0, .null), (26, .i2l, 1, 0, 0, 0, 0, .null), (27, .invokestatic 178, 3, 124, 3, 0, 1221, .ref 6), (30, .ifCond .ne 5, 3, 35, 0, 0, 0, .null), (33, .iconst (-1), 1, 0, 0, 0, 0, .int (-1)), (34, .ireturn, 1, 0, 0, 0, 0, .null), (35, .aload_n 0, 1, 0, 0, 0, 0, .null), (36, .bipush 16, 2, 0, 0, 0, 0, .int 16), (38, .invokevirtual 171, 3, 131, 1, 0, 1481, .ref 3), (41, .iconst 0, 1, 0, 0, 0, 0, .int 0), (42, .istore_n 3, 1, 0, 0, 0, 0, .null), (43, .iload_n 3, 1, 0, 0, 0, 0, .null), (44, .iload_n 1, 1, 0, 0, 0, 0, .null), (45, .if_icmp .ge 14, 3, 59, 0, 0, 0, .null), (48, .aload_n 0, 1, 0, 0, 0, 0, .null), (49, .invokevirtual 455, 3, 199, 0, 0, 1528, .ref 3), (52, .pop, 1, 0, 0, 0, 0, .null), (53, .iinc 3 1, 3, 0, 0, 0, 0, .int 1), (56, .goto (-13), 3, 43, 0, 0, 0, .null), (59, .iload_n 2, 1, 0, 0, 0, 0, .null), (60, .ifCond .ne 13, 3, 73, 0, 0, 0, .null), (63, .aload_n 0, 1, 0, 0, 0, 0, .null), (64, .getfield 13, 3, 11, 3, 2, 1026, .null), (67, .bipush 8, 2, 0, 0, 0, 0, .int 8), (69, .iaload, 1, 0, 0, 0, 0, .null), (70, .goto 14, 3, 84, 0, 0, 0, .null), (73, .aload_n 0, 1, 0, 0, 0, 0, .null), (74, .getfield 13, 3, 11, 3, 2, 1026, .null), (77, .bipush 10, 2, 0, 0, 0, 0, .int 10), (79, .iload_n 2, 1, 0, 0, 0, 0, .null), (80, .iadd, 1, 0, 0, 0, 0, .null), (81, .iconst 1, 1, 0, 0, 0, 0, .int 1), (82, .isub, 1, 0, 0, 0, 0, .null), (83, .iaload, 1, 0, 0, 0, 0, .null), (84, .istore_n 3, 1, 0, 0, 0, 0, .null), (85, .aload_n 0, 1, 0, 0, 0, 0, .null), (86, .bipush 16, 2, 0, 0, 0, 0, .int 16), (88, .invokevirtual 175, 3, 132, 1, 0, 1213, .ref 3), (91, .iload_n 3, 1, 0, 0, 0, 0, .null), (92, .ireturn, 1, 0, 0, 0, 0, .null)]
noncomputable def sm_o204 : List (Nat × sm_E) := [(0, .aload_n 0, 1, 0, 0, 0, 0, .null), (1, .iconst 0, 1, 0, 0, 0, 0, .int 0), (2, .putfield 158, 3, 11, 0, 0, 1023, .null), (5, .aload_n 0, 1, 0, 0, 0, 0, .null), (6, .iload_n 1, 1, 0, 0, 0, 0, .null), (7, .invokevirtual 201, 3, 137, 1, 0, 1246, .ref 2), (10, .ifCond .eq 13, 3, 23, 0, 0, 0, .null), (13, .iload_n 2, 1, 0, 0, 0, 0, .null), (14, .i2l, 1, 0, 0, 0, 0, .null), (15, .lconst 0, 1, 0, 0, 0, 0, .long 0), (16, .lconst 1, 1, 0, 0, 0, 0, .long 1), (17, .invokestatic 178, 3, 124, 3, 0, 1221, .ref 6), (20, .ifCond .ne 5, 3, 25, 0, 0, 0, .null), (23, .iconst (-1), 1, 0, 0, 0, 0, .int (-1)), (24, .ireturn, 1, 0, 0, 0, 0, .null), (25, .aload_n 0, 1, 0, 0, 0, 0, .null), (26, .bipush 16, 2, 0, 0, 0, 0, .int 16), (28, .invokevirtual 171, 3, 131, 1, 0, 1481, .ref 3), (31, .ldc_w 463, 3, 0, 0, 0, 1545, .int 100000000), (34, .istore_n 3, 1, 0, 0, 0, 0, .null), (35, .iconst (-1), 1, 0, 0, 0, 0, .int (-1)), (36, .istore 4, 2, 0, 0, 0, 0, .null), (38, .iconst 0, 1, 0, 0, 0, 0, .int 0), (39, .istore 5, 2, 0, 0, 0, 0, .null), (41, .iload 5, 2, 0, 0, 0, 0, .null), (43, .bipush 13, 2, 0, 0, 0, 0, .int 13), (45, .if_icmp .ge 70, 3, 115, 0, 0, 0, .null), (48, .aload_n 0, 1, 0, 0, 0, 0, .null), (49, .iload_n 1, 1, 0, 0, 0, 0, .null), (50, .invokevirtual 213, 3, 189, 1, 0, 1291, .ref 2), (53, .ifCond .eq 18, 3, 71, 0, 0, 0, .null), (56, .aload_n 0, 1, 0, 0, 0, 0, .null), (57, .iload_n 1, 1, 0, 0, 0, 0, .null), (58, .aload_n 0, 1, 0, 0, 0, 0, .null), (59, .getfield 13, 3, 11, 3, 2, 1026, .null), (62, .bipush 8, 2, 0, 0, 0, 0, .int 8), (64, .iaload, 1, 0, 0, 0, 0, .null), (65, .invokevirtual 219, 3, 188, 2, 0, 1303, .ref 3), (68, .goto 6, 3, 74, 0, 0, 0, .null), (71, .ldc_w 463, 3, 0, 0, 0, 1545, .int 100000000), (74, .istore 6, 2, 0, 0, 0, 0, .null), (76, .iload 6, 2, 0, 0, 0, 0, .null), (78, .iload_n 3, 1, 0, 0, 0, 0, .null), (79, .if_icmp .ge 8, 3, 87, 0, 0, 0, .null), (82, .iload 5, 2, 0, 0, 0, 0, .null), (84, .goto 5, 3, 89, 0, 0, 0, .null), (87, .iload 4, 2, 0, 0, 0, 0, .null), (89, .istore 4, 2, 0, 0, 0, 0, .null), (91, .iload 6, 2, 0, 0, 0, 0, .null), (93, .iload_n 3, 1, 0, 0, 0, 0, .null), (94, .if_icmp .ge 8, 3, 102, 0, 0, 0, .null), (97, .iload 6, 2, 0, 0, 0, 0, .null), (99, .goto 4, 3, 103, 0, 0, 0, .null), (102, .iload_n 3, 1, 0, 0, 0, 0, .null), (103, .istore_n 3, 1, 0, 0, 0, 0, .null), (104, .aload_n 0, 1, 0, 0, 0, 0, .null), (105, .invokevirtual 455, 3, 199, 0, 0, 1528, .ref 3), (108, .pop, 1, 0, 0, 0, 0, .null), (109, .iinc 5 1, 3, 0, 0, 0, 0, .int 1), (112, .goto (-71), 3, 41, 0, 0, 0, .null), (115, .aload_n 0, 1, 0, 0, 0, 0, .null), (116, .bipush 16, 2, 0, 0, 0, 0, .int 16), (118, .invokevirtual 175, 3, 132, 1, 0, 1213, .ref 3), (121, .iload 4, 2, 0, 0, 0, 0, .null), (123, .iconst (-1), 1, 0, 0, 0, 0, .int (-1)), (124, .if_icmp .eq 7, 3, 131, 0, 0, 0, .null), (127, .iload_n 2, 1, 0, 0, 0, 0, .null), (128, .ifCond .ne 8, 3, 136, 0, 0, 0, .null), (131, .iload 4, 2, 0, 0, 0, 0, .null), (133, .goto 4, 3, 137, 0, 0, 0, .null), (136, .iload_n 3, 1, 0, 0, 0, 0, .null), (137, .ireturn, 1, 0, 0, 0, 0, .null)]
noncomputable def sm_o205 : List (Nat × sm_E) := [(0, .iconst 0, 1, 0, 0, 0, 0, .int 0), (1, .istore_n 3, 1, 0, 0, 0, 0, .null), (2, .iload_n 3, 1, 0, 0, 0, 0, .null), (3, .bipush 20, 2, 0, 0, 0, 0, .int 20), (5, .if_icmp .ge 28, 3, 33, 0, 0, 0, .null), (8, .aload_n 0, 1, 0, 0, 0, 0, .null), (9, .getfield 111, 3, 11, 42, 2, 1065, .null), (12, .bipush 20, 2, 0, 0, 0, 0, .int 20), (14, .iload_n 1, 1, 0, 0, 0, 0, .null), (15, .imul, 1, 0, 0, 0, 0, .null), (16, .iload_n 3, 1, 0, 0, 0, 0, .null), (17, .iadd, 1, 0, 0, 0, 0, .null), (18, .aload_n 0, 1, 0, 0, 0, 0, .null), (19, .getfield 13, 3, 11, 3, 2, 1026, .null), (22, .iconst 4, 1, 0, 0, 0, 0, .int 4), (23, .iload_n 3, 1, 0, 0, 0, 0, .null), (24, .iadd, 1, 0, 0, 0, 0, .null), (25, .iaload, 1, 0, 0, 0, 0, .null), (26, .iastore, 1, 0, 0, 0, 0, .null), (27, .iinc 3 1, 3, 0, 0, 0, 0, .int 1), (30, .goto (-28), 3, 2, 0, 0, 0, .null), (33, .aload_n 0, 1, 0, 0, 0, 0, .null), (34, .getfield 114, 3, 11, 43, 2, 1066, .null), (37, .iload_n 1, 1, 0, 0, 0, 0, .null), (38, .iconst (-1), 1, 0, 0, 0, 0, .int (-1)), (39, .iastore, 1, 0, 0, 0, 0, .null), (40, .aload_n 0, 1, 0, 0, 0, 0, .null), (41, .getfield 117, 3, 11, 44, 2, 1067, .null), (44, .iload_n 1, 1, 0, 0, 0, 0, .null), (45, .iload_n 2, 1, 0, 0, 0, 0, .null), (46, .iastore, 1, 0, 0, 0, 0, .null), (47, .return_, 1, 0, 0, 0, 0, .null)]
noncomputable def sm_o206 : List (Nat × sm_E) := [(0, .iconst 0, 1, 0, 0, 0, 0, .int 0), (1, .istore_n 2, 1, 0, 0, 0, 0, .null), (2, .iload_n 2, 1, 0, 0, 0, 0, .null), (3, .bipush 20, 2, 0, 0, 0, 0, .int 20), (5, .if_icmp .ge 28, 3, 33, 0, 0, 0, .null), (8, .aload_n 0, 1, 0, 0, 0, 0, .null), (9, .getfield 13, 3, 11, 3, 2, 1026, .null), (12, .iconst 4, 1, 0, 0, 0, 0, .int 4), (13, .iload_n 2, 1, 0, 0, 0, 0, .null), (14, .iadd, 1, 0, 0, 0, 0, .null), (15, .aload_n 0, 1, 0, 0, 0, 0, .null), (16, .getfield 111, 3, 11, 42, 2, 1065, .null), (19, .bipush 20, 2, 0, 0, 0, 0, .int 20), (21, .iload_n 1, 1, 0, 0, 0, 0, .null), (22, .imul, 1, 0, 0, 0, 0, .null), (23, .iload_n 2, 1, 0, 0, 0, 0, .null), (24, .iadd, 1, 0, 0, 0, 0, .null), (25, .iaload, 1, 0, 0, 0, 0, .null), (26, .iastore, 1, 0, 0, 0, 0, .null), (27, .iinc 2 1, 3, 0, 0, 0, 0, .int 1), (30, .goto (-28), 3, 2, 0, 0, 0, .null), (33, .return_, 1, 0, 0, 0, 0, .null)]
noncomputable def sm_o207 : List (Nat × sm_E) := [(0, .aload_n 0, 1, 0, 0, 0, 0, .null), (1, .getfield 114, 3, 11, 43, 2, 1066, .null), (4, .iload_n 1, 1, 0, 0, 0, 0, .null), (5, .iload_n 2, 1, 0, 0, 0, 0, .null), (6, .iastore, 1, 0, 0, 0, 0, .null), (7, .aload_n 0, 1, 0, 0, 0, 0, .null), (8, .getfield 117, 3, 11, 44, 2, 1067, .null), (11, .iload_n 1, 1, 0, 0, 0, 0, .null), (12, .iconst 1, 1, 0, 0, 0, 0, .int 1), (13, .iadd, 1, 0, 0, 0, 0, .null), (14, .aload_n 0, 1, 0, 0, 0, 0, .null), (15, .getfield 117, 3, 11, 44, 2, 1067, .null), (18, .iload_n 1, 1, 0, 0, 0, 0, .null), (19, .iaload, 1, 0, 0, 0, 0, .null), (20, .aload_n 0, 1, 0, 0, 0, 0, .null), (21, .getfield 13, 3, 11, 3, 2, 1026, .null), (24, .bipush 8, 2, 0, 0, 0, 0, .int 8), (26, .iaload, 1, 0, 0, 0, 0, .null), (27, .iload_n 2, 1, 0, 0, 0, 0, .null), (28, .if_icmp .ne 7, 3, 35, 0, 0, 0, .null), (31, .iconst 0, 1, 0, 0, 0, 0, .int 0), (32, .goto 8, 3, 40, 0, 0, 0, .null), (35, .aload_n 0, 1, 0, 0, 0, 0, .null), (36, .iload_n 2, 1, 0, 0, 0, 0, .null), (37, .invokevirtual 431, 3, 190, 1, 0, 1485, .ref 3), (40, .iadd, 1, 0, 0, 0, 0, .null), (41, .iastore, 1, 0, 0, 0, 0, .null), (42, .aload_n 0, 1, 0, 0, 0, 0, .null), (43, .invokevirtual 455, 3, 199, 0, 0, 1528, .ref 3), (46, .ifCond .ne 22, 3, 68, 0, 0, 0, .null), (49, .aload_n 0, 1, 0, 0, 0, 0, .null), (50, .getfield 117, 3, 11, 44, 2, 1067, .null), (53, .iload_n 1, 1, 0, 0, 0, 0, .null), (54, .iconst 1, 1, 0, 0, 0, 0, .int 1), (55, .iadd, 1, 0, 0, 0, 0, .null), (56, .iaload, 1, 0, 0, 0, 0, .null), (57, .aload_n 0, 1, 0, 0, 0, 0, .null), (58, .getfield 464, 3, 11, 46, 0, 1069, .null), (61, .if_icmp .ge 7, 3, 68, 0, 0, 0, .null), (64, .iconst 1, 1, 0, 0, 0, 0, .int 1), (65, .goto 4, 3, 69, 0, 0, 0, .null), (68, .iconst 0, 1, 0, 0, 0, 0, .int 0), (69, .ireturn, 1, 0, 0, 1, 0, .null)]
noncomputable def sm_o208 : List (Nat × sm_E) := [(0, .aload_n 0, 1, 0, 0, 0, 0, .null), (1, .ldc_w 463, 3, 0, 0, 0, 1545, .int 100000000), (4, .putfield 464, 3, 11, 46, 0, 1069, .null), (7, .iconst 0, 1, 0, 0, 0, 0, .int 0), (8, .istore_n 2, 1, 0, 0, 0, 0, .null), (9, .aload_n 0, 1, 0, 0, 0, 0, .null), (10, .iconst 0, 1, 0, 0, 0, 0, .int 0), (11, .iconst 0, 1, 0, 0, 0, 0, .int 0), (12, .invokevirtual 467, 3, 205, 2, 0, 1555, .ref 4), (15, .iload_n 2, 1, 0, 0, 0, 0, .null), (16, .ifCond .lt 143, 3, 159, 0, 0, 0, .null), (19, .aload_n 0, 1, 0, 0, 0, 0, .null), (20, .iload_n 2, 1, 0, 0, 0, 0, .null), (21, .invokevirtual 470, 3, 206, 1, 0, 1559, .ref 3), (24, .aload_n 0, 1, 0, 0, 0, 0, .null), (25, .getfield 114, 3, 11, 43, 2, 1066, .null), (28, .iload_n 2, 1, 0, 0, 0, 0, .null), (29, .iaload, 1, 0, 0, 0, 0, .null), (30, .iconst 1, 1, 0, 0, 0, 0, .int 1), (31, .iadd, 1, 0, 0, 0, 0, .null), (32, .istore_n 3, 1, 0, 0, 0, 0, .null), (33, .iload_n 3, 1, 0, 0, 0, 0, .null), (34, .aload_n 0, 1, 0, 0, 0, 0, .null), (35, .getfield 13, 3, 11, 3, 2, 1026, .null), (38, .iconst 0, 1, 0, 0, 0, 0, .int 0), (39, .iaload, 1, 0, 0, 0, 0, .null), (40, .if_icmp .ge 28, 3, 68, 0, 0, 0, .null), (43, .aload_n 0, 1, 0, 0, 0, 0, .null), (44, .getfield 13, 3, 11, 3, 2, 1026, .null), (47, .bipush 8, 2, 0, 0, 0, 0, .int 8), (49, .iaload, 1, 0, 0, 0, 0, .null), (50, .iload_n 3, 1, 0, 0, 0, 0, .null), (51, .if_icmp .eq 17, 3, 68, 0, 0, 0, .null), (54, .aload_n 0, 1, 0, 0, 0, 0, .null), (55, .iload_n 3, 1, 0, 0, 0, 0, .null), (56, .invokevirtual 213, 3, 189, 1, 0, 1291, .ref 2), (59, .ifCond .ne 9, 3, 68, 0, 0, 0, .null), (62, .iinc 3 1, 3, 0, 0, 0, 0, .int 1), (65, .goto (-32), 3, 33, 0, 0, 0, .null), (68, .iload_n 3, 1, 0, 0, 0, 0, .null), (69, .aload_n 0, 1, 0, 0, 0, 0, .null), (70, .getfield 13, 3, 11, 3, 2, 1026, .null), (73, .iconst 0, 1, 0, 0, 0, 0, .int 0), (74, .iaload, 1, 0, 0, 0, 0, .null), (75, .if_icmp .lt 9, 3, 84, 0, 0, 0, .null), (78, .iinc 2 (-1), 3, 0, 0, 0, 0, .int (-1)), (81, .goto 75, 3, 156, 0, 0, 0, .null), (84, .aload_n 0, 1, 0, 0, 0, 0, .null), (85, .iload_n 2, 1, 0, 0, 0, 0, .null), (86, .iload_n 3, 1, 0, 0, 0, 0, .null), (87, .invokevirtual 473, 3, 207, 2, 0, 1563, .ref 3), (90, .ifCond .eq 66, 3, 156, 0, 0, 0, .null), (93, .iload_n 2, 1, 0, 0, 0, 0, .null), (94, .iload_n 1, 1, 0, 0, 0, 0, .null), (95, .iconst 1, 1, 0, 0, 0, 0, .int 1), (96, .isub, 1, 0, 0, 0, 0, .null), (97, .if_icmp .ne 45, 3, 142, 0, 0, 0, .null), (100, .aload_n 0, 1, 0, 0, 0, 0, .null), (101, .aload_n 0, 1, 0, 0, 0, 0, .null), (102, .getfield 117, 3, 11, 44, 2, 1067, .null), (105, .iload_n 1, 1, 0, 0, 0, 0, .null), (106, .iaload, 1, 0, 0, 0, 0, .null), (107, .putfield 464, 3, 11, 46, 0, 1069, .null), (110, .iconst 0, 1, 0, 0, 0, 0, .int 0), (111, .istore 4, 2, 0, 0, 0, 0, .null), (113, .iload 4, 2, 0, 0, 0, 0, .null), (115, .iload_n 1, 1, 0, 0, 0, 0, .null), (116, .if_icmp .ge 23, 3, 139, 0, 0, 0, .null), (119, .aload_n 0, 1, 0, 0, 0, 0, .null), (120, .getfield 120, 3, 11, 45, 2, 1068, .null), (123, .iload 4, 2, 0, 0, 0, 0, .null), (125, .aload_n 0, 1, 0, 0, 0, 0, .null), (126, .getfield 114, 3, 11, 43, 2, 1066, .null), (129, .iload 4, 2, 0, 0, 0, 0, .null), (131, .iaload, 1, 0, 0, 0, 0, .null), (132, .iastore, 1, 0, 0, 0, 0, .null), (133, .iinc 4 1, 3, 0, 0, 0, 0, .int 1), (136, .goto (-23), 3, 113, 0, 0, 0, .null), (139, .goto 17, 3, 156, 0, 0, 0, .null), (142, .iinc 2 1, 3, 0, 0, 0, 0, .int 1), (145, .aload_n 0, 1, 0, 0, 0, 0, .null), (146, .iload_n 2, 1, 0, 0, 0, 0, .null), (147, .aload_n 0, 1, 0, 0, 0, 0, .null), (148, .getfield 117, 3, 11, 44, 2, 1067, .null), (151, .iload_n 2, 1, 0, 0, 0, 0, .null), (152, .iaload, 1, 0, 0, 0, 0, .null), (153, .invokevirtual 467, 3, 205, 2, 0, 1555, .ref 4), (156, .goto (-141), 3, 15, 0, 0, 0, .null), (159, .aload_n 0, 1, 0, 0, 0, 0, .null), (160, .iconst 0, 1, 0, 0, 0, 0, .int 0), (161, .invokevirtual 470, 3, 206, 1, 0, 1559, .ref 3), (164, .return_, 1, 0, 0, 0, 0, .null)]
noncomputable def sm_o209 : List (Nat × sm_E) := [(0, .aload_n 0, 1, 0, 0, 0, 0, .null), (1, .iconst 0, 1, 0, 0, 0, 0, .int 0), (2, .putfield 158, 3, 11, 0, 0, 1023, .null), (5, .iload_n 1, 1, 0, 0, 0, 0, .null), (6, .i2l, 1, 0, 0, 0, 0, .null), (7, .lconst 1, 1, 0, 0, 0, 0, .long 1), (8, .ldc2_w 476, 3, 0, 0, 0, 1550, .long 5), (11, .invokestatic 178, 3, 124, 3, 0, 1221, .ref 6), (14, .ifCond .eq 18, 3, 32, 0, 0, 0, .null), (17, .iload_n 2, 1, 0, 0, 0, 0, .null), (18, .i2l, 1, 0, 0, 0, 0, .null), (19, .ldc2_w 270, 3, 0, 0, 0, 1258, .long (-1)), (22, .iload_n 1, 1, 0, 0, 0, 0, .null), (23, .i2l, 1, 0, 0, 0, 0, .null), (24, .lconst 1, 1, 0, 0, 0, 0, .long 1), (25, .lsub, 1, 0, 0, 0, 0, .null), (26, .invokestatic 178, 3, 124, 3, 0, 1221, .ref 6), (29, .ifCond .ne 5, 3, 34, 0, 0, 0, .null), (32, .iconst (-1), 1, 0, 0, 0, 0, .int (-1)), (33, .ireturn, 1, 0, 0, 0, 0, .null), (34, .aload_n 0, 1, 0, 0, 0, 0, .null), (35, .iload_n 1, 1, 0, 0, 0, 0, .null), (36, .invokevirtual 478, 3, 208, 1, 0, 1551, .ref 5), (39, .aload_n 0, 1, 0, 0, 0, 0, .null), (40, .getfield 464, 3, 11, 46, 0, 1069, .null), (43, .ldc_w 463, 3, 0, 0, 0, 1545, .int 100000000), (46, .if_icmp .ne 7, 3, 53, 0, 0, 0, .null), (49, .iconst (-1), 1, 0, 0, 0, 0, .int (-1)), (50, .goto 21, 3, 71, 0, 0, 0, .null), (53, .iload_n 2, 1, 0, 0, 0, 0, .null), (54, .iconst (-1), 1, 0, 0, 0, 0, .int (-1)), (55, .if_icmp .ne 10, 3, 65, 0, 0, 0, .null), (58, .aload_n 0, 1, 0, 0, 0, 0, .null), (59, .getfield 464, 3, 11, 46, 0, 1069, .null), (62, .goto 9, 3, 71, 0, 0, 0, .null), (65, .aload_n 0, 1, 0, 0, 0, 0, .null), (66, .getfield 120, 3, 11, 45, 2, 1068, .null), (69, .iload_n 2, 1, 0, 0, 0, 0, .null), (70, .iaload, 1, 0, 0, 0, 0, .null), (71, .ireturn, 1, 0, 0, 0, 0, .null)]
noncomputable def sm_o210 : List (Nat × sm_E) := [(0, .iconst 0, 1, 0, 0, 0, 0, .int 0), (1, .istore_n 1, 1, 0, 0, 0, 0, .null), (2, .iload_n 1, 1, 0, 0, 0, 0, .null), (3, .aload_n 0, 1, 0, 0, 0, 0, .null), (4, .getfield 13, 3, 11, 3, 2, 1026, .null), (7, .iconst 0, 1, 0, 0, 0, 0, .int 0), (8, .iaload, 1, 0, 0, 0, 0, .null), (9, .if_icmp .ge 53, 3, 62, 0, 0, 0, .null), (12, .iconst 0, 1, 0, 0, 0, 0, .int 0), (13, .istore_n 2, 1, 0, 0, 0, 0, .null), (14, .iload_n 2, 1, 0, 0, 0, 0, .null), (15, .aload_n 0, 1, 0, 0, 0, 0, .null), (16, .getfield 13, 3, 11, 3, 2, 1026, .null), (19, .iconst 0, 1, 0, 0, 0, 0, .int 0), (20, .iaload, 1, 0, 0, 0, 0, .null), (21, .if_icmp .ge 35, 3, 56, 0, 0, 0, .null), (24, .aload_n 0, 1, 0, 0, 0, 0, .null), (25, .getfield 123, 3, 11, 47, 2, 1070, .null), (28, .bipush 7, 2, 0, 0, 0, 0, .int 7), (30, .iload_n 1, 1, 0, 0, 0, 0, .null), (31, .imul, 1, 0, 0, 0, 0, .null), (32, .iload_n 2, 1, 0, 0, 0, 0, .null), (33, .iadd, 1, 0, 0, 0, 0, .null), (34, .iload_n 1, 1, 0, 0, 0, 0, .null), (35, .iload_n 2, 1, 0, 0, 0, 0, .null), (36, .if_icmp .ne 7, 3, 43, 0, 0, 0, .null), (39, .iconst 0, 1, 0, 0, 0, 0, .int 0), (40, .goto 9, 3, 49, 0, 0, 0, .null), (43, .aload_n 0, 1, 0, 0, 0, 0, .null), (44, .iload_n 1, 1, 0, 0, 0, 0, .null), (45, .iload_n 2, 1, 0, 0, 0, 0, .null), (46, .invokevirtual 219, 3, 188, 2, 0, 1303, .ref 3), (49, .iastore, 1, 0, 0, 0, 0, .null), (50, .iinc 2 1, 3, 0, 0, 0, 0, .int 1), (53, .goto (-39), 3, 14, 0, 0, 0, .null), (56, .iinc 1 1, 3, 0, 0, 0, 0, .int 1), (59, .goto (-57), 3, 2, 0, 0, 0, .null), (62, .return_, 1, 0, 0, 0, 0, .null)]
noncomputable def sm_o211 : List (Nat × sm_E) := [(0, .aload_n 0, 1, 0, 0, 0, 0, .null), (1, .invokevirtual 481, 3, 210, 0, 0, 1575, .ref 3), (4, .iconst 0, 1, 0, 0, 0, 0, .int 0), (5, .istore_n 1, 1, 0, 0, 0, 0, .null), (6, .iload_n 1, 1, 0, 0, 0, 0, .null), (7, .sipush 128, 3, 0, 0, 0, 0, .int 128), (10, .if_icmp .ge 127, 3, 137, 0, 0, 0, .null), (13, .iconst 0, 1, 0, 0, 0, 0, .int 0), (14, .istore_n 2, 1, 0, 0, 0, 0, .null), (15, .iload_n 2, 1, 0, 0, 0, 0, .null), (16, .aload_n 0, 1, 0, 0, 0, 0, .null), (17, .getfield 13, 3, 11, 3, 2, 1026, .null), (20, .iconst 0, 1, 0, 0, 0, 0, .int 0), (21, .iaload, 1, 0, 0, 0, 0, .null), (22, .if_icmp .ge 109, 3, 131, 0, 0, 0, .null), (25, .iload_n 1, 1, 0, 0, 0, 0, .null), (26, .ifCond .ne 7, 3, 33, 0, 0, 0, .null), (29, .iconst 0, 1, 0, 0, 0, 0, .int 0), (30, .goto 6, 3, 36, 0, 0, 0, .null), (33, .ldc_w 463, 3, 0, 0, 0, 1545, .int 100000000), (36, .istore_n 3, 1, 0, 0, 0, 0, .null), (37, .iconst 0, 1, 0, 0, 0, 0, .int 0), (38, .istore 4, 2, 0, 0, 0, 0, .null), (40, .iload 4, 2, 0, 0, 0, 0, .null), (42, .aload_n 0, 1, 0, 0, 0, 0, .null), (43, .getfield 13, 3, 11, 3, 2, 1026, .null), (46, .iconst 0, 1, 0, 0, 0, 0, .int 0), (47, .iaload, 1, 0, 0, 0, 0, .null), (48, .if_icmp .ge 65, 3, 113, 0, 0, 0, .null), (51, .iload_n 1, 1, 0, 0, 0, 0, .null), (52, .iload 4, 2, 0, 0, 0, 0, .null), (54, .invokestatic 189, 3, 125, 2, 0, 1263, .ref 2), (57, .ifCond .eq 50, 3, 107, 0, 0, 0, .null), (60, .aload_n 0, 1, 0, 0, 0, 0, .null), (61, .getfield 123, 3, 11, 47, 2, 1070, .null), (64, .bipush 7, 2, 0, 0, 0, 0, .int 7), (66, .iload 4, 2, 0, 0, 0, 0, .null), (68, .imul, 1, 0, 0, 0, 0, .null), (69, .iload_n 2, 1, 0, 0, 0, 0, .null), (70, .iadd, 1, 0, 0, 0, 0, .null), (71, .iaload, 1, 0, 0, 0, 0, .null), (72, .aload_n 0, 1, 0, 0, 0, 0, .null), (73, .getfield 126, 3, 11, 48, 2, 1071, .null), (76, .bipush 7, 2, 0, 0, 0, 0, .int 7), (78, .iload_n 1, 1, 0, 0, 0, 0, .null), (79, .iconst 1, 1, 0, 0, 0, 0, .int 1), (80, .iload 4, 2, 0, 0, 0, 0, .null), (82, .ishl, 1, 0, 0, 0, 0, .null), (83, .iconst (-1), 1, 0, 0, 0, 0, .int (-1)), (84, .ixor, 1, 0, 0, 0, 0, .null), (85, .iand, 1, 0, 0, 0, 0, .null), (86, .imul, 1, 0, 0, 0, 0, .null), (87, .iload 4, 2, 0, 0, 0, 0, .null), (89, .iadd, 1, 0, 0, 0, 0, .null), (90, .iaload, 1, 0, 0, 0, 0, .null), (91, .iadd, 1, 0, 0, 0, 0, .null), (92, .istore 5, 2, 0, 0, 0, 0, .null), (94, .iload 5, 2, 0, 0, 0, 0, .null), (96, .iload_n 3, 1, 0, 0, 0, 0, .null), (97, .if_icmp .ge 8, 3, 105, 0, 0, 0, .null), (100, .iload 5, 2, 0, 0, 0, 0, .null), (102, .goto 4, 3, 106, 0, 0, 0, .null), (105, .iload_n 3, 1, 0, 0, 0, 0, .null), (106, .istore_n 3, 1, 0, 0, 0, 0, .null), (107, .iinc 4 1, 3, 0, 0, 0, 0, .int 1), (110, .goto (-70), 3, 40, 0, 0, 0, .null), (113, .aload_n 0, 1, 0, 0, 0, 0, .null), (114, .getfield 126, 3, 11, 48, 2, 1071, .null), (117, .bipush 7, 2, 0, 0, 0, 0, .int 7), (119, .iload_n 1, 1, 0, 0, 0, 0, .null), (120, .imul, 1, 0, 0, 0, 0, .null), (121, .iload_n 2, 1, 0, 0, 0, 0, .null), (122, .iadd, 1, 0, 0, 0, 0, .null), (123, .iload_n 3, 1, 0, 0, 0, 0, .null), (124, .iastore, 1, 0, 0, 0, 0, .null), (125, .iinc 2 1, 3, 0, 0, 0, 0, .int 1), (128, .goto (-113), 3, 15, 0, 0, 0, .null), (131, .iinc 1 1, 3, 0, 0, 0, 0, .int 1), (134, .goto (-128), 3, 6, 0, 0, 0, .null), (137, .return_, 1, 0, 0, 0, 0, .null)]
noncomputable def sm_o212 : List (Nat × sm_E) := [(0, .aload_n 0, 1, 0, 0, 0, 0, .null), (1, .iload_n 1, 1, 0, 0, 0, 0, .null), (2, .invokevirtual 185, 3, 138, 1, 0, 1295, .ref 2), (5, .ifCond .eq 29, 3, 34, 0, 0, 0, .null), (8, .aload_n 0, 1, 0, 0, 0, 0, .null), (9, .getfield 13, 3, 11, 3, 2, 1026, .null), (12, .bipush 8, 2, 0, 0, 0, 0, .int 8), (14, .iaload, 1, 0, 0, 0, 0, .null), (15, .iconst (-1), 1, 0, 0, 0, 0, .int (-1)), (16, .if_icmp .eq 14, 3, 30, 0, 0, 0, .null), (19, .aload_n 0, 1, 0, 0, 0, 0, .null), (20, .getfield 13, 3, 11, 3, 2, 1026, .null), (23, .bipush 8, 2, 0, 0, 0, 0, .int 8), (25, .iaload, 1, 0, 0, 0, 0, .null), (26, .iload_n 1, 1, 0, 0, 0, 0, .null), (27, .if_icmp .ne 7, 3, 34, 0, 0, 0, .null), (30, .iconst 1, 1, 0, 0, 0, 0, .int 1), (31, .goto 4, 3, 35, 0, 0, 0, .null), (34, .iconst 0, 1, 0, 0, 0, 0, .int 0), (35, .ireturn, 1, 0, 0, 1, 0, .null)]
noncomputable def sm_o213 : List (Nat × sm_E) := [(0, .aload_n 0, 1, 0, 0, 0, 0, .null), (1, .iconst 0, 1, 0, 0, 0, 0, .int 0), (2, .putfield 158, 3, 11, 0, 0, 1023, .null), (5, .aload_n 0, 1, 0, 0, 0, 0, .null), (6, .invokevirtual 440, 3, 139, 0, 0, 1501, .ref 3), (9, .istore_n 2, 1, 0, 0, 0, 0, .null), (10, .iload_n 1, 1, 0, 0, 0, 0, .null), (11, .iconst (-1), 1, 0, 0, 0, 0, .int (-1)), (12, .if_icmp .lt 11, 3, 23, 0, 0, 0, .null), (15, .iload_n 1, 1, 0, 0, 0, 0, .null), (16, .iload_n 2, 1, 0, 0, 0, 0, .null), (17, .invokestatic 443, 3, 127, 1, 0, 1505, .ref 3), (20, .if_icmp .lt 5, 3, 25, 0, 0, 0, .null), (23, .iconst (-1), 1, 0, 0, 0, 0, .int (-1)), (24, .ireturn, 1, 0, 0, 0, 0, .null), (25, .aload_n 0, 1, 0, 0, 0, 0, .null), (26, .invokevirtual 484, 3, 211, 0, 0, 1571, .ref 6), (29, .iload_n 2, 1, 0, 0, 0, 0, .null), (30, .ifCond .ne 7, 3, 37, 0, 0, 0, .null), (33, .iconst 0, 1, 0, 0, 0, 0, .int 0), (34, .goto 6, 3, 40, 0, 0, 0, .null), (37, .ldc_w 463, 3, 0, 0, 0, 1545, .int 100000000), (40, .istore_n 3, 1, 0, 0, 0, 0, .null), (41, .iconst (-1), 1, 0, 0, 0, 0, .int (-1)), (42, .istore 4, 2, 0, 0, 0, 0, .null), (44, .iconst 0, 1, 0, 0, 0, 0, .int 0), (45, .istore 5, 2, 0, 0, 0, 0, .null), (47, .iload 5, 2, 0, 0, 0, 0, .null), (49, .aload_n 0, 1, 0, 0, 0, 0, .null), (50, .getfield 13, 3, 11, 3, 2, 1026, .null), (53, .iconst 0, 1, 0, 0, 0, 0, .int 0), (54, .iaload, 1, 0, 0, 0, 0, .null), (55, .if_icmp .ge 73, 3, 128, 0, 0, 0, .null), (58, .aload_n 0, 1, 0, 0, 0, 0, .null), (59, .iload 5, 2, 0, 0, 0, 0, .null), (61, .invokevirtual 487, 3, 212, 1, 0, 1579, .ref 2), (64, .ifCond .eq 25, 3, 89, 0, 0, 0, .null), (67, .aload_n 0, 1, 0, 0, 0, 0, .null), (68, .getfield 126, 3, 11, 48, 2, 1071, .null), (71, .bipush 7, 2, 0, 0, 0, 0, .int 7), (73, .iload_n 2, 1, 0, 0, 0, 0, .null), (74, .iconst 1, 1, 0, 0, 0, 0, .int 1), (75, .iload 5, 2, 0, 0, 0, 0, .null), (77, .ishl, 1, 0, 0, 0, 0, .null), (78, .iconst (-1), 1, 0, 0, 0, 0, .int (-1)), (79, .ixor, 1, 0, 0, 0, 0, .null), (80, .iand, 1, 0, 0, 0, 0, .null), (81, .imul, 1, 0, 0, 0, 0, .null), (82, .iload 5, 2, 0, 0, 0, 0, .null), (84, .iadd, 1, 0, 0, 0, 0, .null), (85, .iaload, 1, 0, 0, 0, 0, .null), (86, .goto 6, 3, 92, 0, 0, 0, .null), (89, .ldc_w 463, 3, 0, 0, 0, 1545, .int 100000000), (92, .istore 6, 2, 0, 0, 0, 0, .null), (94, .iload 6, 2, 0, 0, 0, 0, .null), (96, .iload_n 3, 1, 0, 0, 0, 0, .null), (97, .if_icmp .ge 8, 3, 105, 0, 0, 0, .null), (100, .iload 5, 2, 0, 0, 0, 0, .null), (102, .goto 5, 3, 107, 0, 0, 0, .null), (105, .iload 4, 2, 0, 0, 0, 0, .null), (107, .istore 4, 2, 0, 0, 0, 0, .null), (109, .iload 6, 2, 0, 0, 0, 0, .null), (111, .iload_n 3, 1, 0, 0, 0, 0, .null), (112, .if_icmp .ge 8, 3, 120, 0, 0, 0, .null), (115, .iload 6, 2, 0, 0, 0, 0, .null), (117, .goto 4, 3, 121, 0, 0, 0, .null), (120, .iload_n 3, 1, 0, 0, 0, 0, .null), (121, .istore_n 3, 1, 0, 0, 0, 0, .null), (122, .iinc 5 1, 3, 0, 0, 0, 0, .int 1), (125, .goto (-78), 3, 47, 0, 0, 0, .null), (128, .iload_n 1, 1, 0, 0, 0, 0, .null), (129, .iconst (-1), 1, 0, 0, 0, 0, .int (-1)), (130, .if_icmp .ne 5, 3, 135, 0, 0, 0, .null), (133, .iload_n 3, 1, 0, 0, 0, 0, .null), (134, .ireturn, 1, 0, 0, 0, 0, .null), (135, .iload_n 2, 1, 0, 0, 0, 0, .null), (136, .iconst 1, 1, 0, 0, 0, 0, .int 1), (137, .iload 4, 2, 0, 0, 0, 0, .null), (139, .ishl, 1, 0, 0, 0, 0, .null), (140, .iconst (-1), 1, 0, 0, 0, 0, .int (-1)), (141, .ixor, 1, 0, 0, 0, 0, .null), (142, .iand, 1, 0, 0, 0, 0, .null), (143, .istore_n 2, 1, 0, 0, 0, 0, .null), (144, .iconst 0, 1, 0, 0, 0, 0, .int 0), (145, .istore 5, 2, 0, 0, 0, 0, .null), (147, .iload 5, 2, 0, 0, 0, 0, .null), (149, .iload_n 1, 1, 0, 0, 0, 0, .null), (150, .if_icmp .ge 88, 3, 238, 0, 0, 0, .null), (153, .iconst 0, 1, 0, 0, 0, 0, .int 0), (154, .istore 6, 2, 0, 0, 0, 0, .null), (156, .iload_n 2, 1, 0, 0, 0, 0, .null), (157, .iload 6, 2, 0, 0, 0, 0, .null), (159, .invokestatic 189, 3, 125, 2, 0, 1263, .ref 2), (162, .ifCond .eq 51, 3, 213, 0, 0, 0, .null), (165, .aload_n 0, 1, 0, 0, 0, 0, .null), (166, .getfield 123, 3, 11, 47, 2, 1070, .null), (169, .bipush 7, 2, 0, 0, 0, 0, .int 7), (171, .iload 6, 2, 0, 0, 0, 0, .null), (173, .imul, 1, 0, 0, 0, 0, .null), (174, .iload 4, 2, 0, 0, 0, 0, .null), (176, .iadd, 1, 0, 0, 0, 0, .null), (177, .iaload, 1, 0, 0, 0, 0, .null), (178, .aload_n 0, 1, 0, 0, 0, 0, .null), (179, .getfield 126, 3, 11, 48, 2, 1071, .null), (182, .bipush 7, 2, 0, 0, 0, 0, .int 7), (184, .iload_n 2, 1, 0, 0, 0, 0, .null), (185, .iconst 1, 1, 0, 0, 0, 0, .int 1), (186, .iload 6, 2, 0, 0, 0, 0, .null), (188, .ishl, 1, 0, 0, 0, 0, .null), (189, .iconst (-1), 1, 0, 0, 0, 0, .int (-1)), (190, .ixor, 1, 0, 0, 0, 0, .null), (191, .iand, 1, 0, 0, 0, 0, .null), (192, .imul, 1, 0, 0, 0, 0, .null), (193, .iload 6, 2, 0, 0, 0, 0, .null), (195, .iadd, 1, 0, 0, 0, 0, .null), (196, .iaload, 1, 0, 0, 0, 0, .null), (197, .iadd, 1, 0, 0, 0, 0, .null), (198, .aload_n 0, 1, 0, 0, 0, 0, .null), (199, .getfield 126, 3, 11, 48, 2, 1071, .null), (202, .bipush 7, 2, 0, 0, 0, 0, .int 7), (204, .iload_n 2, 1, 0, 0, 0, 0, .null), (205, .imul, 1, 0, 0, 0, 0, .null), (206, .iload 4, 2, 0, 0, 0, 0, .null), (208, .iadd, 1, 0, 0, 0, 0, .null), (209, .iaload, 1, 0, 0, 0, 0, .null), (210, .if_icmp .eq 9, 3, 219, 0, 0, 0, .null), (213, .iinc 6 1, 3, 0, 0, 0, 0, .int 1), (216, .goto (-60), 3, 156, 0, 0, 0, .null), (219, .iload_n 2, 1, 0, 0, 0, 0, .null), (220, .iconst 1, 1, 0, 0, 0, 0, .int 1), (221, .iload 6, 2, 0, 0, 0, 0, .null), (223, .ishl, 1, 0, 0, 0, 0, .null), (224, .iconst (-1), 1, 0, 0, 0, 0, .int (-1)), (225, .ixor, 1, 0, 0, 0, 0, .null), (226, .iand, 1, 0, 0, 0, 0, .null), (227, .istore_n 2, 1, 0, 0, 0, 0, .null), (228, .iload 6, 2, 0, 0, 0, 0, .null), (230, .istore 4, 2, 0, 0, 0, 0, .null), (232, .iinc 5 1, 3, 0, 0, 0, 0, .int 1), (235, .goto (-88), 3, 147, 0, 0, 0, .null), (238, .iload 4, 2, 0, 0, 0, 0, .null), (240, .ireturn, 1, 0, 0, 0, 0, .null)]
noncomputable def sm_o214 : List (Nat × sm_E) := [(0, .iload_n 1, 1, 0, 0, 0, 0, .null), (1, .iload_n 2, 1, 0, 0, 0, 0, .null), (2, .if_icmp .eq 28, 3, 30, 0, 0, 0, .null), (5, .aload_n 0, 1, 0, 0, 0, 0, .null), (6, .getfield 123, 3, 11, 47, 2, 1070, .null), (9, .bipush 7, 2, 0, 0, 0, 0, .int 7), (11, .iload_n 1, 1, 0, 0, 0, 0, .null), (12, .imul, 1, 0, 0, 0, 0, .null), (13, .iload_n 2, 1, 0, 0, 0, 0, .null), (14, .iadd, 1, 0, 0, 0, 0, .null), (15, .iaload, 1, 0, 0, 0, 0, .null), (16, .aload_n 0, 1, 0, 0, 0, 0, .null), (17, .getfield 13, 3, 11, 3, 2, 1026, .null), (20, .bipush 7, 2, 0, 0, 0, 0, .int 7), (22, .iaload, 1, 0, 0, 0, 0, .null), (23, .if_icmp .gt 7, 3, 30, 0, 0, 0, .null), (26, .iconst 1, 1, 0, 0, 0, 0, .int 1), (27, .goto 4, 3, 31, 0, 0, 0, .null), (30, .iconst 0, 1, 0, 0, 0, 0, .int 0), (31, .ireturn, 1, 0, 0, 1, 0, .null)]
noncomputable def sm_o215 : List (Nat × sm_E) := [(0, .aload_n 0, 1, 0, 0, 0, 0, .null), (1, .invokevirtual 481, 3, 210, 0, 0, 1575, .ref 3), (4, .iconst 0, 1, 0, 0, 0, 0, .int 0), (5, .istore_n 2, 1, 0, 0, 0, 0, .null), (6, .iload_n 2, 1, 0, 0, 0, 0, .null), (7, .aload_n 0, 1, 0, 0, 0, 0, .null), (8, .getfield 13, 3, 11, 3, 2, 1026, .null), (11, .iconst 0, 1, 0, 0, 0, 0, .int 0), (12, .iaload, 1, 0, 0, 0, 0, .null), (13, .if_icmp .ge 27, 3, 40, 0, 0, 0, .null), (16, .aload_n 0, 1, 0, 0, 0, 0, .null), (17, .getfield 129, 3, 11, 49, 2, 1072, .null), (20, .iload_n 2, 1, 0, 0, 0, 0, .null), (21, .iload_n 2, 1, 0, 0, 0, 0, .null), (22, .iload_n 1, 1, 0, 0, 0, 0, .null), (23, .if_icmp .ne 7, 3, 30, 0, 0, 0, .null), (26, .iconst 0, 1, 0, 0, 0, 0, .int 0), (27, .goto 6, 3, 33, 0, 0, 0, .null), (30, .ldc_w 463, 3, 0, 0, 0, 1545, .int 100000000), (33, .iastore, 1, 0, 0, 0, 0, .null), (34, .iinc 2 1, 3, 0, 0, 0, 0, .int 1), (37, .goto (-31), 3, 6, 0, 0, 0, .null), (40, .iconst 0, 1, 0, 0, 0, 0, .int 0), (41, .istore_n 2, 1, 0, 0, 0, 0, .null), (42, .iload_n 2, 1, 0, 0, 0, 0, .null), (43, .aload_n 0, 1, 0, 0, 0, 0, .null), (44, .getfield 13, 3, 11, 3, 2, 1026, .null), (47, .iconst 0, 1, 0, 0, 0, 0, .int 0), (48, .iaload, 1, 0, 0, 0, 0, .null), (49, .if_icmp .ge 90, 3, 139, 0, 0, 0, .null), (52, .iconst 0, 1, 0, 0, 0, 0, .int 0), (53, .istore_n 3, 1, 0, 0, 0, 0, .null), (54, .iload_n 3, 1, 0, 0, 0, 0, .null), (55, .aload_n 0, 1, 0, 0, 0, 0, .null), (56, .getfield 13, 3, 11, 3, 2, 1026, .null), (59, .iconst 0, 1, 0, 0, 0, 0, .int 0), (60, .iaload, 1, 0, 0, 0, 0, .null), (61, .if_icmp .ge 72, 3, 133, 0, 0, 0, .null), (64, .iconst 0, 1, 0, 0, 0, 0, .int 0), (65, .istore 4, 2, 0, 0, 0, 0, .null), (67, .iload 4, 2, 0, 0, 0, 0, .null), (69, .aload_n 0, 1, 0, 0, 0, 0, .null), (70, .getfield 13, 3, 11, 3, 2, 1026, .null), (73, .iconst 0, 1, 0, 0, 0, 0, .int 0), (74, .iaload, 1, 0, 0, 0, 0, .null), (75, .if_icmp .ge 52, 3, 127, 0, 0, 0, .null), (78, .aload_n 0, 1, 0, 0, 0, 0, .null), (79, .iload 4, 2, 0, 0, 0, 0, .null), (81, .iload_n 3, 1, 0, 0, 0, 0, .null), (82, .invokevirtual 490, 3, 214, 2, 0, 1591, .ref 3), (85, .ifCond .eq 36, 3, 121, 0, 0, 0, .null), (88, .aload_n 0, 1, 0, 0, 0, 0, .null), (89, .getfield 129, 3, 11, 49, 2, 1072, .null), (92, .iload 4, 2, 0, 0, 0, 0, .null), (94, .iaload, 1, 0, 0, 0, 0, .null), (95, .iconst 1, 1, 0, 0, 0, 0, .int 1), (96, .iadd, 1, 0, 0, 0, 0, .null), (97, .aload_n 0, 1, 0, 0, 0, 0, .null), (98, .getfield 129, 3, 11, 49, 2, 1072, .null), (101, .iload_n 3, 1, 0, 0, 0, 0, .null), (102, .iaload, 1, 0, 0, 0, 0, .null), (103, .if_icmp .ge 18, 3, 121, 0, 0, 0, .null), (106, .aload_n 0, 1, 0, 0, 0, 0, .null), (107, .getfield 129, 3, 11, 49, 2, 1072, .null), (110, .iload_n 3, 1, 0, 0, 0, 0, .null), (111, .aload_n 0, 1, 0, 0, 0, 0, .null), (112, .getfield 129, 3, 11, 49, 2, 1072, .null), (115, .iload 4, 2, 0, 0, 0, 0, .null), (117, .iaload, 1, 0, 0, 0, 0, .null), (118, .iconst 1, 1, 0, 0, 0, 0, .int 1), (119, .iadd, 1, 0, 0, 0, 0, .null), (120, .iastore, 1, 0, 0, 0, 0, .null), (121, .iinc 4 1, 3, 0, 0, 0, 0, .int 1), (124, .goto (-57), 3, 67, 0, 0, 0, .null), (127, .iinc 3 1, 3, 0, 0, 0, 0, .int 1), (130, .goto (-76), 3, 54, 0, 0, 0, .null), (133, .iinc 2 1, 3, 0, 0, 0, 0, .int 1), (136, .goto (-94), 3, 42, 0, 0, 0, .null), (139, .return_, 1, 0, 0, 0, 0, .null)]
noncomputable def sm_o216 : List (Nat × sm_E) := [(0, .aload_n 0, 1, 0, 0, 0, 0, .null), (1, .iconst 0, 1, 0, 0, 0, 0, .int 0), (2, .putfield 158, 3, 11, 0, 0, 1023, .null), (5, .aload_n 0, 1, 0, 0, 0, 0, .null), (6, .iload_n 1, 1, 0, 0, 0, 0, .null), (7, .invokevirtual 201, 3, 137, 1, 0, 1246, .ref 2), (10, .ifCond .eq 16, 3, 26, 0, 0, 0, .null), (13, .aload_n 0, 1, 0, 0, 0, 0, .null), (14, .iload_n 2, 1, 0, 0, 0, 0, .null), (15, .invokevirtual 201, 3, 137, 1, 0, 1246, .ref 2), (18, .ifCond .eq 8, 3, 26, 0, 0, 0, .null), (21, .iload_n 3, 1, 0, 0, 0, 0, .null), (22, .iconst (-1), 1, 0, 0, 0, 0, .int (-1)), (23, .if_icmp .ge 5, 3, 28, 0, 0, 0, .null), (26, .iconst (-1), 1, 0, 0, 0, 0, .int (-1)), (27, .ireturn, 1, 0, 0, 0, 0, .null), (28, .aload_n 0, 1, 0, 0, 0, 0, .null), (29, .iload_n 2, 1, 0, 0, 0, 0, .null), (30, .invokevirtual 493, 3, 215, 1, 0, 1587, .ref 5), (33, .aload_n 0, 1, 0, 0, 0, 0, .null), (34, .getfield 129, 3, 11, 49, 2, 1072, .null), (37, .iload_n 1, 1, 0, 0, 0, 0, .null), (38, .iaload, 1, 0, 0, 0, 0, .null), (39, .ldc_w 463, 3, 0, 0, 0, 1545, .int 100000000), (42, .if_icmp .ge 13, 3, 55, 0, 0, 0, .null), (45, .iload_n 3, 1, 0, 0, 0, 0, .null), (46, .aload_n 0, 1, 0, 0, 0, 0, .null), (47, .getfield 129, 3, 11, 49, 2, 1072, .null), (50, .iload_n 1, 1, 0, 0, 0, 0, .null), (51, .iaload, 1, 0, 0, 0, 0, .null), (52, .if_icmp .lt 5, 3, 57, 0, 0, 0, .null), (55, .iconst (-1), 1, 0, 0, 0, 0, .int (-1)), (56, .ireturn, 1, 0, 0, 0, 0, .null), (57, .iload_n 3, 1, 0, 0, 0, 0, .null), (58, .iconst (-1), 1, 0, 0, 0, 0, .int (-1)), (59, .if_icmp .ne 10, 3, 69, 0, 0, 0, .null), (62, .aload_n 0, 1, 0, 0, 0, 0, .null), (63, .getfield 129, 3, 11, 49, 2, 1072, .null), (66, .iload_n 1, 1, 0, 0, 0, 0, .null), (67, .iaload, 1, 0, 0, 0, 0, .null), (68, .ireturn, 1, 0, 0, 0, 0, .null), (69, .iload_n 1, 1, 0, 0, 0, 0, .null), (70, .istore 4, 2, 0, 0, 0, 0, .null), (72, .iconst 0, 1, 0, 0, 0, 0, .int 0), (73, .istore 5, 2, 0, 0, 0, 0, .null), (75, .iload 5, 2, 0, 0, 0, 0, .null), (77, .iload_n 3, 1, 0, 0, 0, 0, .null), (78, .if_icmp .gt 52, 3, 130, 0, 0, 0, .null), (81, .iconst 0, 1, 0, 0, 0, 0, .int 0), (82, .istore 6, 2, 0, 0, 0, 0, .null), (84, .aload_n 0, 1, 0, 0, 0, 0, .null), (85, .iload 6, 2, 0, 0, 0, 0, .null), (87, .iload 4, 2, 0, 0, 0, 0, .null), (89, .invokevirtual 490, 3, 214, 2, 0, 1591, .ref 3), (92, .ifCond .eq 22, 3, 114, 0, 0, 0, .null), (95, .aload_n 0, 1, 0, 0, 0, 0, .null), (96, .getfield 129, 3, 11, 49, 2, 1072, .null), (99, .iload 6, 2, 0, 0, 0, 0, .null), (101, .iaload, 1, 0, 0, 0, 0, .null), (102, .aload_n 0, 1, 0, 0, 0, 0, .null), (103, .getfield 129, 3, 11, 49, 2, 1072, .null), (106, .iload 4, 2, 0, 0, 0, 0, .null), (108, .iaload, 1, 0, 0, 0, 0, .null), (109, .iconst 1, 1, 0, 0, 0, 0, .int 1), (110, .isub, 1, 0, 0, 0, 0, .null), (111, .if_icmp .eq 9, 3, 120, 0, 0, 0, .null), (114, .iinc 6 1, 3, 0, 0, 0, 0, .int 1), (117, .goto (-33), 3, 84, 0, 0, 0, .null), (120, .iload 6, 2, 0, 0, 0, 0, .null), (122, .istore 4, 2, 0, 0, 0, 0, .null), (124, .iinc 5 1, 3, 0, 0, 0, 0, .int 1), (127, .goto (-52), 3, 75, 0, 0, 0, .null), (130, .iload 4, 2, 0, 0, 0, 0, .null), (132, .ireturn, 1, 0, 0, 0, 0, .null)]
noncomputable def sm_o217 : List (Nat × sm_E) := [(0, .iconst 1, 1, 0, 0, 0, 0, .int 1), (1, .iload_n 2, 1, 0, 0, 0, 0, .null), (2, .ishl, 1, 0, 0, 0, 0, .null), (3, .istore_n 3, 1, 0, 0, 0, 0, .null), (4, .iconst 0, 1, 0, 0, 0, 0, .int 0), (5, .istore 4, 2, 0, 0, 0, 0, .null), (7, .iload 4, 2, 0, 0, 0, 0, .null), (9, .aload_n 0, 1, 0, 0, 0, 0, .null), (10, .getfield 13, 3, 11, 3, 2, 1026, .null), (13, .iconst 0, 1, 0, 0, 0, 0, .int 0), (14, .iaload, 1, 0, 0, 0, 0, .null), (15, .if_icmp .ge 81, 3, 96, 0, 0, 0, .null), (18, .iconst 0, 1, 0, 0, 0, 0, .int 0), (19, .istore 5, 2, 0, 0, 0, 0, .null), (21, .iload 5, 2, 0, 0, 0, 0, .null), (23, .aload_n 0, 1, 0, 0, 0, 0, .null), (24, .getfield 13, 3, 11, 3, 2, 1026, .null), (27, .iconst 0, 1, 0, 0, 0, 0, .int 0), (28, .iaload, 1, 0, 0, 0, 0, .null), (29, .if_icmp .ge 61, 3, 90, 0, 0, 0, .null), (32, .iconst 0, 1, 0, 0, 0, 0, .int 0), (33, .istore 6, 2, 0, 0, 0, 0, .null), (35, .iload 6, 2, 0, 0, 0, 0, .null), (37, .aload_n 0, 1, 0, 0, 0, 0, .null), (38, .getfield 13, 3, 11, 3, 2, 1026, .null), (41, .iconst 0, 1, 0, 0, 0, 0, .int 0), (42, .iaload, 1, 0, 0, 0, 0, .null), (43, .if_icmp .ge 41, 3, 84, 0, 0, 0, .null), (46, .iload_n 3, 1, 0, 0, 0, 0, .null), (47, .iload_n 3, 1, 0, 0, 0, 0, .null), (48, .iload 5, 2, 0, 0, 0, 0, .null), (50, .invokestatic 189, 3, 125, 2, 0, 1263, .ref 2), (53, .ifCond .eq 22, 3, 75, 0, 0, 0, .null), (56, .aload_n 0, 1, 0, 0, 0, 0, .null), (57, .iload 5, 2, 0, 0, 0, 0, .null), (59, .iload 6, 2, 0, 0, 0, 0, .null), (61, .invokevirtual 216, 3, 140, 2, 0, 1259, .ref 5), (64, .iload_n 1, 1, 0, 0, 0, 0, .null), (65, .if_icmp .gt 10, 3, 75, 0, 0, 0, .null), (68, .iconst 1, 1, 0, 0, 0, 0, .int 1), (69, .iload 6, 2, 0, 0, 0, 0, .null), (71, .ishl, 1, 0, 0, 0, 0, .null), (72, .goto 4, 3, 76, 0, 0, 0, .null), (75, .iconst 0, 1, 0, 0, 0, 0, .int 0), (76, .ior, 1, 0, 0, 0, 0, .null), (77, .istore_n 3, 1, 0, 0, 0, 0, .null), (78, .iinc 6 1, 3, 0, 0, 0, 0, .int 1), (81, .goto (-46), 3, 35, 0, 0, 0, .null), (84, .iinc 5 1, 3, 0, 0, 0, 0, .int 1), (87, .goto (-66), 3, 21, 0, 0, 0, .null), (90, .iinc 4 1, 3, 0, 0, 0, 0, .int 1), (93, .goto (-86), 3, 7, 0, 0, 0, .null), (96, .iload_n 3, 1, 0, 0, 0, 0, .null), (97, .ireturn, 1, 0, 0, 0, 0, .null)]
noncomputable def sm_o218 : List (Nat × sm_E) := [(0, .aload_n 0, 1, 0, 0, 0, 0, .null), (1, .iconst 0, 1, 0, 0, 0, 0, .int 0), (2, .putfield 158, 3, 11, 0, 0, 1023, .null), (5, .iload_n 1, 1, 0, 0, 0, 0, .null), (6, .i2l, 1, 0, 0, 0, 0, .null), (7, .lconst 0, 1, 0, 0, 0, 0, .long 0), (8, .ldc2_w 336, 3, 0, 0, 0, 1422, .long 6), (11, .invokestatic 178, 3, 124, 3, 0, 1221, .ref 6), (14, .ifCond .eq 16, 3, 30, 0, 0, 0, .null), (17, .iload_n 2, 1, 0, 0, 0, 0, .null), (18, .iconst (-1), 1, 0, 0, 0, 0, .int (-1)), (19, .if_icmp .eq 13, 3, 32, 0, 0, 0, .null), (22, .aload_n 0, 1, 0, 0, 0, 0, .null), (23, .iload_n 2, 1, 0, 0, 0, 0, .null), (24, .invokevirtual 201, 3, 137, 1, 0, 1246, .ref 2), (27, .ifCond .ne 5, 3, 32, 0, 0, 0, .null), (30, .iconst (-1), 1, 0, 0, 0, 0, .int (-1)), (31, .ireturn, 1, 0, 0, 0, 0, .null), (32, .iload_n 2, 1, 0, 0, 0, 0, .null), (33, .iconst (-1), 1, 0, 0, 0, 0, .int (-1)), (34, .if_icmp .eq 10, 3, 44, 0, 0, 0, .null), (37, .aload_n 0, 1, 0, 0, 0, 0, .null), (38, .iload_n 1, 1, 0, 0, 0, 0, .null), (39, .iload_n 2, 1, 0, 0, 0, 0, .null), (40, .invokevirtual 496, 3, 217, 2, 0, 1599, .ref 7), (43, .ireturn, 1, 0, 0, 0, 0, .null), (44, .iconst 0, 1, 0, 0, 0, 0, .int 0), (45, .istore_n 3, 1, 0, 0, 0, 0, .null), (46, .iconst 0, 1, 0, 0, 0, 0, .int 0), (47, .istore 4, 2, 0, 0, 0, 0, .null), (49, .iconst 0, 1, 0, 0, 0, 0, .int 0), (50, .istore 5, 2, 0, 0, 0, 0, .null), (52, .iload 5, 2, 0, 0, 0, 0, .null), (54, .aload_n 0, 1, 0, 0, 0, 0, .null), (55, .getfield 13, 3, 11, 3, 2, 1026, .null), (58, .iconst 0, 1, 0, 0, 0, 0, .int 0), (59, .iaload, 1, 0, 0, 0, 0, .null), (60, .if_icmp .ge 39, 3, 99, 0, 0, 0, .null), (63, .iload_n 3, 1, 0, 0, 0, 0, .null), (64, .iload 4, 2, 0, 0, 0, 0, .null), (66, .iload 5, 2, 0, 0, 0, 0, .null), (68, .invokestatic 189, 3, 125, 2, 0, 1263, .ref 2), (71, .ifCond .eq 7, 3, 78, 0, 0, 0, .null), (74, .iconst 0, 1, 0, 0, 0, 0, .int 0), (75, .goto 4, 3, 79, 0, 0, 0, .null), (78, .iconst 1, 1, 0, 0, 0, 0, .int 1), (79, .iadd, 1, 0, 0, 0, 0, .null), (80, .istore_n 3, 1, 0, 0, 0, 0, .null), (81, .iload 4, 2, 0, 0, 0, 0, .null), (83, .aload_n 0, 1, 0, 0, 0, 0, .null), (84, .iload_n 1, 1, 0, 0, 0, 0, .null), (85, .iload 5, 2, 0, 0, 0, 0, .null), (87, .invokevirtual 496, 3, 217, 2, 0, 1599, .ref 7), (90, .ior, 1, 0, 0, 0, 0, .null), (91, .istore 4, 2, 0, 0, 0, 0, .null), (93, .iinc 5 1, 3, 0, 0, 0, 0, .int 1), (96, .goto (-44), 3, 52, 0, 0, 0, .null), (99, .iload_n 3, 1, 0, 0, 0, 0, .null), (100, .ireturn, 1, 0, 0, 0, 0, .null)]
noncomputable def sm_o219 : List (Nat × sm_E) := [(0, .aload_n 0, 1, 0, 0, 0, 0, .null), (1, .iconst 0, 1, 0, 0, 0, 0, .int 0), (2, .putfield 158, 3, 11, 0, 0, 1023, .null), (5, .aload_n 0, 1, 0, 0, 0, 0, .null), (6, .iload_n 1, 1, 0, 0, 0, 0, .null), (7, .invokevirtual 201, 3, 137, 1, 0, 1246, .ref 2), (10, .ifCond .ne 5, 3, 15, 0, 0, 0, .null), (13, .iconst (-1), 1, 0, 0, 0, 0, .int (-1)), (14, .ireturn, 1, 0, 0, 0, 0, .null), (15, .ldc_w 463, 3, 0, 0, 0, 1545, .int 100000000), (18, .istore_n 2, 1, 0, 0, 0, 0, .null), (19, .iconst (-1), 1, 0, 0, 0, 0, .int (-1)), (20, .istore_n 3, 1, 0, 0, 0, 0, .null), (21, .iconst 0, 1, 0, 0, 0, 0, .int 0), (22, .istore 4, 2, 0, 0, 0, 0, .null), (24, .iload 4, 2, 0, 0, 0, 0, .null), (26, .aload_n 0, 1, 0, 0, 0, 0, .null), (27, .getfield 13, 3, 11, 3, 2, 1026, .null), (30, .iconst 0, 1, 0, 0, 0, 0, .int 0), (31, .iaload, 1, 0, 0, 0, 0, .null), (32, .if_icmp .ge 56, 3, 88, 0, 0, 0, .null), (35, .iload 4, 2, 0, 0, 0, 0, .null), (37, .iload_n 1, 1, 0, 0, 0, 0, .null), (38, .if_icmp .ne 9, 3, 47, 0, 0, 0, .null), (41, .ldc_w 463, 3, 0, 0, 0, 1545, .int 100000000), (44, .goto 10, 3, 54, 0, 0, 0, .null), (47, .aload_n 0, 1, 0, 0, 0, 0, .null), (48, .iload 4, 2, 0, 0, 0, 0, .null), (50, .iload_n 1, 1, 0, 0, 0, 0, .null), (51, .invokevirtual 216, 3, 140, 2, 0, 1259, .ref 5), (54, .istore 5, 2, 0, 0, 0, 0, .null), (56, .iload 5, 2, 0, 0, 0, 0, .null), (58, .iload_n 2, 1, 0, 0, 0, 0, .null), (59, .if_icmp .ge 8, 3, 67, 0, 0, 0, .null), (62, .iload 4, 2, 0, 0, 0, 0, .null), (64, .goto 4, 3, 68, 0, 0, 0, .null), (67, .iload_n 3, 1, 0, 0, 0, 0, .null), (68, .istore_n 3, 1, 0, 0, 0, 0, .null), (69, .iload 5, 2, 0, 0, 0, 0, .null), (71, .iload_n 2, 1, 0, 0, 0, 0, .null), (72, .if_icmp .ge 8, 3, 80, 0, 0, 0, .null), (75, .iload 5, 2, 0, 0, 0, 0, .null), (77, .goto 4, 3, 81, 0, 0, 0, .null), (80, .iload_n 2, 1, 0, 0, 0, 0, .null), (81, .istore_n 2, 1, 0, 0, 0, 0, .null), (82, .iinc 4 1, 3, 0, 0, 0, 0, .int 1), (85, .goto (-61), 3, 24, 0, 0, 0, .null), (88, .iload_n 3, 1, 0, 0, 0, 0, .null), (89, .ireturn, 1, 0, 0, 0, 0, .null)]
noncomputable def sm_o220 : List (Nat × sm_E) := [(0, .aload_n 0, 1, 0, 0, 0, 0, .null), (1, .iconst 0, 1, 0, 0, 0, 0, .int 0), (2, .putfield 158, 3, 11, 0, 0, 1023, .null), (5, .aload_n 0, 1, 0, 0, 0, 0, .null), (6, .iload_n 1, 1, 0, 0, 0, 0, .null), (7, .invokevirtual 391, 3, 179, 1, 0, 1465, .ref 2), (10, .ifCond .eq 24, 3, 34, 0, 0, 0, .null), (13, .aload_n 0, 1, 0, 0, 0, 0, .null), (14, .iload_n 2, 1, 0, 0, 0, 0, .null), (15, .invokevirtual 201, 3, 137, 1, 0, 1246, .ref 2), (18, .ifCond .eq 16, 3, 34, 0, 0, 0, .null), (21, .aload_n 0, 1, 0, 0, 0, 0, .null), (22, .iload_n 3, 1, 0, 0, 0, 0, .null), (23, .invokevirtual 201, 3, 137, 1, 0, 1246, .ref 2), (26, .ifCond .eq 8, 3, 34, 0, 0, 0, .null), (29, .iload_n 2, 1, 0, 0, 0, 0, .null), (30, .iload_n 3, 1, 0, 0, 0, 0, .null), (31, .if_icmp .ne 5, 3, 36, 0, 0, 0, .null), (34, .iconst (-1), 1, 0, 0, 0, 0, .int (-1)), (35, .ireturn, 1, 0, 0, 0, 0, .null), (36, .aload_n 0, 1, 0, 0, 0, 0, .null), (37, .getfield 13, 3, 11, 3, 2, 1026, .null), (40, .iconst 3, 1, 0, 0, 0, 0, .int 3), (41, .iaload, 1, 0, 0, 0, 0, .null), (42, .istore 4, 2, 0, 0, 0, 0, .null), (44, .aload_n 0, 1, 0, 0, 0, 0, .null), (45, .getfield 13, 3, 11, 3, 2, 1026, .null), (48, .iconst 3, 1, 0, 0, 0, 0, .int 3), (49, .iload_n 1, 1, 0, 0, 0, 0, .null), (50, .iastore, 1, 0, 0, 0, 0, .null), (51, .aload_n 0, 1, 0, 0, 0, 0, .null), (52, .iload_n 2, 1, 0, 0, 0, 0, .null), (53, .iload_n 3, 1, 0, 0, 0, 0, .null), (54, .invokevirtual 219, 3, 188, 2, 0, 1303, .ref 3), (57, .istore 5, 2, 0, 0, 0, 0, .null), (59, .aload_n 0, 1, 0, 0, 0, 0, .null), (60, .getfield 13, 3, 11, 3, 2, 1026, .null), (63, .iconst 3, 1, 0, 0, 0, 0, .int 3), (64, .iload 4, 2, 0, 0, 0, 0, .null), (66, .iastore, 1, 0, 0, 0, 0, .null), (67, .iload 5, 2, 0, 0, 0, 0, .null), (69, .ireturn, 1, 0, 0, 0, 0, .null)]
noncomputable def sm_o221 : List (Nat × sm_E) := [(0, .aload_n 0, 1, 0, 0, 0, 0, .null), (1, .iconst 0, 1, 0, 0, 0, 0, .int 0), (2, .putfield 158, 3, 11, 0, 0, 1023, .null), (5, .iload_n 1, 1, 0, 0, 0, 0, .null), (6, .i2l, 1, 0, 0, 0, 0, .null), (7, .lconst 0, 1, 0, 0, 0, 0, .long 0), (8, .ldc2_w 476, 3, 0, 0, 0, 1550, .long 5), (11, .invokestatic 178, 3, 124, 3, 0, 1221, .ref 6), (14, .ifCond .eq 13, 3, 27, 0, 0, 0, .null), (17, .iload_n 2, 1, 0, 0, 0, 0, .null), (18, .i2l, 1, 0, 0, 0, 0, .null), (19, .lconst 0, 1, 0, 0, 0, 0, .long 0), (20, .lconst 1, 1, 0, 0, 0, 0, .long 1), (21, .invokestatic 178, 3, 124, 3, 0, 1221, .ref 6), (24, .ifCond .ne 9, 3, 33, 0, 0, 0, .null), (27, .aload_n 0, 1, 0, 0, 0, 0, .null), (28, .iconst (-1), 1, 0, 0, 0, 0, .int (-1)), (29, .invokevirtual 167, 3, 128, 1, 0, 1209, .ref 2), (32, .ireturn, 1, 0, 0, 0, 0, .null), (33, .aload_n 0, 1, 0, 0, 0, 0, .null), (34, .getfield 13, 3, 11, 3, 2, 1026, .null), (37, .iconst 1, 1, 0, 0, 0, 0, .int 1), (38, .iaload, 1, 0, 0, 0, 0, .null), (39, .istore_n 3, 1, 0, 0, 0, 0, .null), (40, .iload_n 3, 1, 0, 0, 0, 0, .null), (41, .bipush 6, 2, 0, 0, 0, 0, .int 6), (43, .if_icmp .ne 10, 3, 53, 0, 0, 0, .null), (46, .aload_n 0, 1, 0, 0, 0, 0, .null), (47, .bipush (-5), 2, 0, 0, 0, 0, .int (-5)), (49, .invokevirtual 167, 3, 128, 1, 0, 1209, .ref 2), (52, .ireturn, 1, 0, 0, 0, 0, .null), (53, .aload_n 0, 1, 0, 0, 0, 0, .null), (54, .getfield 13, 3, 11, 3, 2, 1026, .null), (57, .bipush 38, 2, 0, 0, 0, 0, .int 38), (59, .iconst 2, 1, 0, 0, 0, 0, .int 2), (60, .iload_n 3, 1, 0, 0, 0, 0, .null), (61, .imul, 1, 0, 0, 0, 0, .null), (62, .iadd, 1, 0, 0, 0, 0, .null), (63, .iload_n 1, 1, 0, 0, 0, 0, .null), (64, .iastore, 1, 0, 0, 0, 0, .null), (65, .aload_n 0, 1, 0, 0, 0, 0, .null), (66, .getfield 13, 3, 11, 3, 2, 1026, .null), (69, .bipush 38, 2, 0, 0, 0, 0, .int 38), (71, .iconst 2, 1, 0, 0, 0, 0, .int 2), (72, .iload_n 3, 1, 0, 0, 0, 0, .null), (73, .imul, 1, 0, 0, 0, 0, .null), (74, .iadd, 1, 0, 0, 0, 0, .null), (75, .iconst 1, 1, 0, 0, 0, 0, .int 1), (76, .iadd, 1, 0, 0, 0, 0, .null), (77, .iload_n 2, 1, 0, 0, 0, 0, .null), (78, .iastore, 1, 0, 0, 0, 0, .null), (79, .aload_n 0, 1, 0, 0, 0, 0, .null), (80, .getfield 13, 3, 11, 3, 2, 1026, .null), (83, .iconst 1, 1, 0, 0, 0, 0, .int 1), (84, .dup2, 1, 0, 0, 0, 0, .null), (85, .iaload, 1, 0, 0, 0, 0, .null), (86, .iconst 1, 1, 0, 0, 0, 0, .int 1), (87, .iadd, 1, 0, 0, 0, 0, .null), (88, .iastore, 1, 0, 0, 0, 0, .null), (89, .aload_n 0, 1, 0, 0, 0, 0, .null), (90, .iload_n 3, 1, 0, 0, 0, 0, .null), (91, .iconst 1, 1, 0, 0, 0, 0, .int 1), (92, .iadd, 1, 0, 0, 0, 0, .null), (93, .invokevirtual 167, 3, 128, 1, 0, 1209, .ref 2), (96, .ireturn, 1, 0, 0, 0, 0, .null)]
noncomputable def sm_o222 : List (Nat × sm_E) := [(0, .aload_n 0, 1, 0, 0, 0, 0, .null), (1, .iconst 0, 1, 0, 0, 0, 0, .int 0), (2, .putfield 158, 3, 11, 0, 0, 1023, .null), (5, .aload_n 0, 1, 0, 0, 0, 0, .null), (6, .getfield 13, 3, 11, 3, 2, 1026, .null), (9, .iconst 1, 1, 0, 0, 0, 0, .int 1), (10, .iaload, 1, 0, 0, 0, 0, .null), (11, .istore_n 1, 1, 0, 0, 0, 0, .null), (12, .aload_n 0, 1, 0, 0, 0, 0, .null), (13, .getfield 13, 3, 11, 3, 2, 1026, .null), (16, .iconst 1, 1, 0, 0, 0, 0, .int 1), (17, .iconst 0, 1, 0, 0, 0, 0, .int 0), (18, .iastore, 1, 0, 0, 0, 0, .null), (19, .iload_n 1, 1, 0, 0, 0, 0, .null), (20, .ireturn, 1, 0, 0, 0, 0, .null)]
noncomputable def sm_o223 : List (Nat × sm_E) := [(0, .iconst 0, 1, 0, 0, 0, 0, .int 0), (1, .istore_n 1, 1, 0, 0, 0, 0, .null), (2, .iconst 0, 1, 0, 0, 0, 0, .int 0), (3, .istore_n 2, 1, 0, 0, 0, 0, .null), (4, .iload_n 2, 1, 0, 0, 0, 0, .null), (5, .aload_n 0, 1, 0, 0, 0, 0, .null), (6, .getfield 13, 3, 11, 3, 2, 1026, .null), (9, .iconst 0, 1, 0, 0, 0, 0, .int 0), (10, .iaload, 1, 0, 0, 0, 0, .null), (11, .if_icmp .ge 105, 3, 116, 0, 0, 0, .null), (14, .iconst 1, 1, 0, 0, 0, 0, .int 1), (15, .istore_n 3, 1, 0, 0, 0, 0, .null), (16, .iconst 0, 1, 0, 0, 0, 0, .int 0), (17, .istore 4, 2, 0, 0, 0, 0, .null), (19, .iload 4, 2, 0, 0, 0, 0, .null), (21, .aload_n 0, 1, 0, 0, 0, 0, .null), (22, .getfield 13, 3, 11, 3, 2, 1026, .null), (25, .iconst 1, 1, 0, 0, 0, 0, .int 1), (26, .iaload, 1, 0, 0, 0, 0, .null), (27, .if_icmp .ge 69, 3, 96, 0, 0, 0, .null), (30, .iload_n 3, 1, 0, 0, 0, 0, .null), (31, .ifCond .eq 57, 3, 88, 0, 0, 0, .null), (34, .aload_n 0, 1, 0, 0, 0, 0, .null), (35, .getfield 13, 3, 11, 3, 2, 1026, .null), (38, .bipush 31, 2, 0, 0, 0, 0, .int 31), (40, .iload_n 2, 1, 0, 0, 0, 0, .null), (41, .iadd, 1, 0, 0, 0, 0, .null), (42, .iaload, 1, 0, 0, 0, 0, .null), (43, .aload_n 0, 1, 0, 0, 0, 0, .null), (44, .getfield 13, 3, 11, 3, 2, 1026, .null), (47, .bipush 38, 2, 0, 0, 0, 0, .int 38), (49, .iconst 2, 1, 0, 0, 0, 0, .int 2), (50, .iload 4, 2, 0, 0, 0, 0, .null), (52, .imul, 1, 0, 0, 0, 0, .null), (53, .iadd, 1, 0, 0, 0, 0, .null), (54, .iaload, 1, 0, 0, 0, 0, .null), (55, .invokestatic 189, 3, 125, 2, 0, 1263, .ref 2), (58, .aload_n 0, 1, 0, 0, 0, 0, .null), (59, .getfield 13, 3, 11, 3, 2, 1026, .null), (62, .bipush 38, 2, 0, 0, 0, 0, .int 38), (64, .iconst 2, 1, 0, 0, 0, 0, .int 2), (65, .iload 4, 2, 0, 0, 0, 0, .null), (67, .imul, 1, 0, 0, 0, 0, .null), (68, .iadd, 1, 0, 0, 0, 0, .null), (69, .iconst 1, 1, 0, 0, 0, 0, .int 1), (70, .iadd, 1, 0, 0, 0, 0, .null), (71, .iaload, 1, 0, 0, 0, 0, .null), (72, .iconst 1, 1, 0, 0, 0, 0, .int 1), (73, .if_icmp .ne 7, 3, 80, 0, 0, 0, .null), (76, .iconst 1, 1, 0, 0, 0, 0, .int 1), (77, .goto 4, 3, 81, 0, 0, 0, .null), (80, .iconst 0, 1, 0, 0, 0, 0, .int 0), (81, .if_icmp .ne 7, 3, 88, 0, 0, 0, .null), (84, .iconst 1, 1, 0, 0, 0, 0, .int 1), (85, .goto 4, 3, 89, 0, 0, 0, .null), (88, .iconst 0, 1, 0, 0, 0, 0, .int 0), (89, .istore_n 3, 1, 0, 0, 0, 0, .null), (90, .iinc 4 1, 3, 0, 0, 0, 0, .int 1), (93, .goto (-74), 3, 19, 0, 0, 0, .null), (96, .iload_n 1, 1, 0, 0, 0, 0, .null), (97, .iload_n 3, 1, 0, 0, 0, 0, .null), (98, .ifCond .eq 9, 3, 107, 0, 0, 0, .null), (101, .iconst 1, 1, 0, 0, 0, 0, .int 1), (102, .iload_n 2, 1, 0, 0, 0, 0, .null), (103, .ishl, 1, 0, 0, 0, 0, .null), (104, .goto 4, 3, 108, 0, 0, 0, .null), (107, .iconst 0, 1, 0, 0, 0, 0, .int 0), (108, .ior, 1, 0, 0, 0, 0, .null), (109, .istore_n 1, 1, 0, 0, 0, 0, .null), (110, .iinc 2 1, 3, 0, 0, 0, 0, .int 1), (113, .goto (-109), 3, 4, 0, 0, 0, .null), (116, .iload_n 1, 1, 0, 0, 0, 0, .null), (117, .ireturn, 1, 0, 0, 0, 0, .null)]
noncomputable def sm_o224 : List (Nat × sm_E) := [(0, .aload_n 0, 1, 0, 0, 0, 0, .null), (1, .iconst 0, 1, 0, 0, 0, 0, .int 0), (2, .putfield 158, 3, 11, 0, 0, 1023, .null), (5, .aload_n 0, 1, 0, 0, 0, 0, .null), (6, .invokevirtual 499, 3, 223, 0, 0, 1623, .ref 5), (9, .ireturn, 1, 0, 0, 0, 0, .null)]
noncomputable def sm_o225 : List (Nat × sm_E) := [(0, .aload_n 0, 1, 0, 0, 0, 0, .null), (1, .iconst 0, 1, 0, 0, 0, 0, .int 0), (2, .putfield 158, 3, 11, 0, 0, 1023, .null), (5, .aload_n 0, 1, 0, 0, 0, 0, .null), (6, .invokevirtual 499, 3, 223, 0, 0, 1623, .ref 5), (9, .istore_n 2, 1, 0, 0, 0, 0, .null), (10, .iload_n 1, 1, 0, 0, 0, 0, .null), (11, .i2l, 1, 0, 0, 0, 0, .null), (12, .lconst 0, 1, 0, 0, 0, 0, .long 0), (13, .lconst 1, 1, 0, 0, 0, 0, .long 1), (14, .invokestatic 178, 3, 124, 3, 0, 1221, .ref 6), (17, .ifCond .eq 7, 3, 24, 0, 0, 0, .null), (20, .iload_n 2, 1, 0, 0, 0, 0, .null), (21, .ifCond .ne 5, 3, 26, 0, 0, 0, .null), (24, .iconst (-1), 1, 0, 0, 0, 0, .int (-1)), (25, .ireturn, 1, 0, 0, 0, 0, .null), (26, .ldc_w 463, 3, 0, 0, 0, 1545, .int 100000000), (29, .istore_n 3, 1, 0, 0, 0, 0, .null), (30, .iconst (-1), 1, 0, 0, 0, 0, .int (-1)), (31, .istore 4, 2, 0, 0, 0, 0, .null), (33, .iconst 0, 1, 0, 0, 0, 0, .int 0), (34, .istore 5, 2, 0, 0, 0, 0, .null), (36, .iload 5, 2, 0, 0, 0, 0, .null), (38, .bipush 6, 2, 0, 0, 0, 0, .int 6), (40, .if_icmp .ge 122, 3, 162, 0, 0, 0, .null), (43, .iconst 0, 1, 0, 0, 0, 0, .int 0), (44, .istore 6, 2, 0, 0, 0, 0, .null), (46, .iconst 0, 1, 0, 0, 0, 0, .int 0), (47, .istore 7, 2, 0, 0, 0, 0, .null), (49, .iload 7, 2, 0, 0, 0, 0, .null), (51, .aload_n 0, 1, 0, 0, 0, 0, .null), (52, .getfield 13, 3, 11, 3, 2, 1026, .null), (55, .iconst 0, 1, 0, 0, 0, 0, .int 0), (56, .iaload, 1, 0, 0, 0, 0, .null), (57, .if_icmp .ge 46, 3, 103, 0, 0, 0, .null), (60, .iload 6, 2, 0, 0, 0, 0, .null), (62, .iload_n 2, 1, 0, 0, 0, 0, .null), (63, .iload 7, 2, 0, 0, 0, 0, .null), (65, .invokestatic 189, 3, 125, 2, 0, 1263, .ref 2), (68, .ifCond .eq 25, 3, 93, 0, 0, 0, .null), (71, .aload_n 0, 1, 0, 0, 0, 0, .null), (72, .getfield 13, 3, 11, 3, 2, 1026, .null), (75, .bipush 31, 2, 0, 0, 0, 0, .int 31), (77, .iload 7, 2, 0, 0, 0, 0, .null), (79, .iadd, 1, 0, 0, 0, 0, .null), (80, .iaload, 1, 0, 0, 0, 0, .null), (81, .iload 5, 2, 0, 0, 0, 0, .null), (83, .invokestatic 189, 3, 125, 2, 0, 1263, .ref 2), (86, .ifCond .eq 7, 3, 93, 0, 0, 0, .null), (89, .iconst 1, 1, 0, 0, 0, 0, .int 1), (90, .goto 4, 3, 94, 0, 0, 0, .null), (93, .iconst 0, 1, 0, 0, 0, 0, .int 0), (94, .iadd, 1, 0, 0, 0, 0, .null), (95, .istore 6, 2, 0, 0, 0, 0, .null), (97, .iinc 7 1, 3, 0, 0, 0, 0, .int 1), (100, .goto (-51), 3, 49, 0, 0, 0, .null), (103, .iload_n 2, 1, 0, 0, 0, 0, .null), (104, .invokestatic 443, 3, 127, 1, 0, 1505, .ref 3), (107, .iload 6, 2, 0, 0, 0, 0, .null), (109, .isub, 1, 0, 0, 0, 0, .null), (110, .istore 7, 2, 0, 0, 0, 0, .null), (112, .iload 6, 2, 0, 0, 0, 0, .null), (114, .iload 7, 2, 0, 0, 0, 0, .null), (116, .if_icmp .le 8, 3, 124, 0, 0, 0, .null), (119, .iload 6, 2, 0, 0, 0, 0, .null), (121, .goto 5, 3, 126, 0, 0, 0, .null), (124, .iload 7, 2, 0, 0, 0, 0, .null), (126, .istore 8, 2, 0, 0, 0, 0, .null), (128, .iload 8, 2, 0, 0, 0, 0, .null), (130, .iload_n 3, 1, 0, 0, 0, 0, .null), (131, .if_icmp .ge 8, 3, 139, 0, 0, 0, .null), (134, .iload 5, 2, 0, 0, 0, 0, .null), (136, .goto 5, 3, 141, 0, 0, 0, .null), (139, .iload 4, 2, 0, 0, 0, 0, .null), (141, .istore 4, 2, 0, 0, 0, 0, .null), (143, .iload 8, 2, 0, 0, 0, 0, .null), (145, .iload_n 3, 1, 0, 0, 0, 0, .null), (146, .if_icmp .ge 8, 3, 154, 0, 0, 0, .null), (149, .iload 8, 2, 0, 0, 0, 0, .null), (151, .goto 4, 3, 155, 0, 0, 0, .null), (154, .iload_n 3, 1, 0, 0, 0, 0, .null), (155, .istore_n 3, 1, 0, 0, 0, 0, .null), (156, .iinc 5 1, 3, 0, 0, 0, 0, .int 1), (159, .goto (-123), 3, 36, 0, 0, 0, .null), (162, .iload_n 1, 1, 0, 0, 0, 0, .null), (163, .ifCond .ne 8, 3, 171, 0, 0, 0, .null), (166, .iload 4, 2, 0, 0, 0, 0, .null), (168, .goto 4, 3, 172, 0, 0, 0, .null), (171, .iload_n 3, 1, 0, 0, 0, 0, .null), (172, .ireturn, 1, 0, 0, 0, 0, .null)]
noncomputable def sm_o226 : List (Nat × sm_E) := [(0, .aload_n 0, 1, 0, 0, 0, 0, .null), (1, .iconst 0, 1, 0, 0, 0, 0, .int 0), (2, .putfield 158, 3, 11, 0, 0, 1023, .null), (5, .iload_n 1, 1, 0, 0, 0, 0, .null), (6, .i2l, 1, 0, 0, 0, 0, .null), (7, .lconst 1, 1, 0, 0, 0, 0, .long 1), (8, .ldc2_w 293, 3, 0, 0, 0, 1446, .long 20), (11, .invokestatic 178, 3, 124, 3, 0, 1221, .ref 6), (14, .ifCond .eq 15, 3, 29, 0, 0, 0, .null), (17, .iload_n 2, 1, 0, 0, 0, 0, .null), (18, .i2l, 1, 0, 0, 0, 0, .null), (19, .lconst 0, 1, 0, 0, 0, 0, .long 0), (20, .ldc2_w 226, 3, 0, 0, 0, 1313, .long 99), (23, .invokestatic 178, 3, 124, 3, 0, 1221, .ref 6), (26, .ifCond .ne 7, 3, 33, 0, 0, 0, .null), (29, .ldc2_w 270, 3, 0, 0, 0, 1258, .long (-1)), (32, .lreturn, 1, 0, 0, 0, 0, .null), (33, .iconst 0, 1, 0, 0, 0, 0, .int 0), (34, .istore_n 3, 1, 0, 0, 0, 0, .null), (35, .iload_n 3, 1, 0, 0, 0, 0, .null), (36, .bipush 21, 2, 0, 0, 0, 0, .int 21), (38, .if_icmp .ge 26, 3, 64, 0, 0, 0, .null), (41, .aload_n 0, 1, 0, 0, 0, 0, .null), (42, .getfield 132, 3, 11, 50, 2, 1073, .null), (45, .iload_n 3, 1, 0, 0, 0, 0, .null), (46, .iload_n 3, 1, 0, 0, 0, 0, .null), (47, .ifCond .ne 9, 3, 56, 0, 0, 0, .null), (50, .ldc2_w 502, 3, 0, 0, 0, 1635, .long 1000000000000), (53, .goto 4, 3, 57, 0, 0, 0, .null), (56, .lconst 0, 1, 0, 0, 0, 0, .long 0), (57, .lastore, 1, 0, 0, 0, 0, .null), (58, .iinc 3 1, 3, 0, 0, 0, 0, .int 1), (61, .goto (-26), 3, 35, 0, 0, 0, .null), (64, .aload_n 0, 1, 0, 0, 0, 0, .null), (65, .getfield 13, 3, 11, 3, 2, 1026, .null), (68, .iconst 5, 1, 0, 0, 0, 0, .int 5), (69, .iaload, 1, 0, 0, 0, 0, .null), (70, .istore_n 3, 1, 0, 0, 0, 0, .null), (71, .iconst 0, 1, 0, 0, 0, 0, .int 0), (72, .istore 4, 2, 0, 0, 0, 0, .null), (74, .iload 4, 2, 0, 0, 0, 0, .null), (76, .iload_n 2, 1, 0, 0, 0, 0, .null), (77, .if_icmp .ge 74, 3, 151, 0, 0, 0, .null), (80, .iload_n 1, 1, 0, 0, 0, 0, .null), (81, .iconst 1, 1, 0, 0, 0, 0, .int 1), (82, .isub, 1, 0, 0, 0, 0, .null), (83, .istore 5, 2, 0, 0, 0, 0, .null), (85, .iload 5, 2, 0, 0, 0, 0, .null), (87, .ifCond .lt 58, 3, 145, 0, 0, 0, .null), (90, .aload_n 0, 1, 0, 0, 0, 0, .null), (91, .getfield 132, 3, 11, 50, 2, 1073, .null), (94, .iload 5, 2, 0, 0, 0, 0, .null), (96, .laload, 1, 0, 0, 0, 0, .null), (97, .lstore 6, 2, 0, 0, 0, 0, .null), (99, .aload_n 0, 1, 0, 0, 0, 0, .null), (100, .getfield 132, 3, 11, 50, 2, 1073, .null), (103, .iload 5, 2, 0, 0, 0, 0, .null), (105, .lload 6, 2, 0, 0, 0, 0, .null), (107, .bipush 10, 2, 0, 0, 0, 0, .int 10), (109, .iload_n 3, 1, 0, 0, 0, 0, .null), (110, .isub, 1, 0, 0, 0, 0, .null), (111, .i2l, 1, 0, 0, 0, 0, .null), (112, .lmul, 1, 0, 0, 0, 0, .null), (113, .ldc2_w 224, 3, 0, 0, 0, 1312, .long 10), (116, .ldiv, 1, 0, 0, 0, 0, .null), (117, .lastore, 1, 0, 0, 0, 0, .null), (118, .aload_n 0, 1, 0, 0, 0, 0, .null), (119, .getfield 132, 3, 11, 50, 2, 1073, .null), (122, .iload 5, 2, 0, 0, 0, 0, .null), (124, .iconst 1, 1, 0, 0, 0, 0, .int 1), (125, .iadd, 1, 0, 0, 0, 0, .null), (126, .dup2, 1, 0, 0, 0, 0, .null), (127, .laload, 1, 0, 0, 0, 0, .null), (128, .lload 6, 2, 0, 0, 0, 0, .null), (130, .iload_n 3, 1, 0, 0, 0, 0, .null), (131, .i2l, 1, 0, 0, 0, 0, .null), (132, .lmul, 1, 0, 0, 0, 0, .null), (133, .ldc2_w 224, 3, 0, 0, 0, 1312, .long 10), (136, .ldiv, 1, 0, 0, 0, 0, .null), (137, .ladd, 1, 0, 0, 0, 0, .null), (138, .lastore, 1, 0, 0, 0, 0, .null), (139, .iinc 5 (-1), 3, 0, 0, 0, 0, .int (-1)), (142, .goto (-57), 3, 85, 0, 0, 0, .null), (145, .iinc 4 1, 3, 0, 0, 0, 0, .int 1), (148, .goto (-74), 3, 74, 0, 0, 0, .null), (151, .lconst 0, 1, 0, 0, 0, 0, .long 0), (152, .lstore 4, 2, 0, 0, 0, 0, .null), (154, .iconst 0, 1, 0, 0, 0, 0, .int 0), (155, .istore 6, 2, 0, 0, 0, 0, .null), (157, .iload 6, 2, 0, 0, 0, 0, .null), (159, .iload_n 1, 1, 0, 0, 0, 0, .null), (160, .if_icmp .ge 21, 3, 181, 0, 0, 0, .null), (163, .lload 4, 2, 0, 0, 0, 0, .null), (165, .aload_n 0, 1, 0, 0, 0, 0, .null), (166, .getfield 132, 3, 11, 50, 2, 1073, .null), (169, .iload 6, 2, 0, 0, 0, 0, .null), (171, .laload, 1, 0, 0, 0, 0, .null), (172, .ladd, 1, 0, 0, 0, 0, .null), (173, .lstore 4, 2, 0, 0, 0, 0, .null), (175, .iinc 6 1, 3, 0, 0, 0, 0, .int 1), (178, .goto (-21), 3, 157, 0, 0, 0, .null), (181, .lload 4, 2, 0, 0, 0, 0, .null), (183, .lreturn, 1, 0, 0, 0, 0, .null)]
noncomputable def sm_o227 : List (Nat × sm_E) := [(0, .iconst (-1), 1, 0, 0, 0, 0, .int (-1)), (1, .istore_n 1, 1, 0, 0, 0, 0, .null), (2, .iconst 0, 1, 0, 0, 0, 0, .int 0), (3, .istore_n 2, 1, 0, 0, 0, 0, .null), (4, .iload_n 2, 1, 0, 0, 0, 0, .null), (5, .iconst 4, 1, 0, 0, 0, 0, .int 4), (6, .if_icmp .ge 28, 3, 34, 0, 0, 0, .null), (9, .aload_n 0, 1, 0, 0, 0, 0, .null), (10, .aload_n 0, 1, 0, 0, 0, 0, .null), (11, .getfield 143, 3, 11, 51, 2, 1074, .null), (14, .iload_n 2, 1, 0, 0, 0, 0, .null), (15, .laload, 1, 0, 0, 0, 0, .null), (16, .invokevirtual 301, 3, 155, 1, 0, 1372, .ref 3), (19, .ifCond .eq 7, 3, 26, 0, 0, 0, .null), (22, .iload_n 2, 1, 0, 0, 0, 0, .null), (23, .goto 4, 3, 27, 0, 0, 0, .null), (26, .iload_n 1, 1, 0, 0, 0, 0, .null), (27, .istore_n 1, 1, 0, 0, 0, 0, .null), (28, .iinc 2 1, 3, 0, 0, 0, 0, .int 1), (31, .goto (-27), 3, 4, 0, 0, 0, .null), (34, .aload_n 0, 1, 0, 0, 0, 0, .null), (35, .iload_n 1, 1, 0, 0, 0, 0, .null), (36, .iconst (-1), 1, 0, 0, 0, 0, .int (-1)), (37, .if_icmp .eq 16, 3, 53, 0, 0, 0, .null), (40, .aload_n 0, 1, 0, 0, 0, 0, .null), (41, .getfield 374, 3, 11, 21, 0, 1044, .null), (44, .bipush 12, 2, 0, 0, 0, 0, .int 12), (46, .if_icmp .ge 7, 3, 53, 0, 0, 0, .null), (49, .iconst 1, 1, 0, 0, 0, 0, .int 1), (50, .goto 4, 3, 54, 0, 0, 0, .null), (53, .iconst 0, 1, 0, 0, 0, 0, .int 0), (54, .invokevirtual 276, 3, 157, 1, 0, 1376, .ref 2), (57, .aload_n 0, 1, 0, 0, 0, 0, .null), (58, .getfield 243, 3, 11, 19, 3, 1042, .null), (61, .ifCond .eq 4, 3, 65, 0, 0, 0, .null), (64, .return_, 1, 0, 0, 0, 0, .null), (65, .bipush 8, 2, 0, 0, 0, 0, .int 8), (67, .aload_n 0, 1, 0, 0, 0, 0, .null), (68, .getfield 374, 3, 11, 21, 0, 1044, .null), (71, .imul, 1, 0, 0, 0, 0, .null), (72, .istore_n 2, 1, 0, 0, 0, 0, .null), (73, .aload_n 0, 1, 0, 0, 0, 0, .null), (74, .dup, 1, 0, 0, 0, 0, .null), (75, .getfield 374, 3, 11, 21, 0, 1044, .null), (78, .iconst 1, 1, 0, 0, 0, 0, .int 1), (79, .iadd, 1, 0, 0, 0, 0, .null), (80, .putfield 374, 3, 11, 21, 0, 1044, .null), (83, .iconst 0, 1, 0, 0, 0, 0, .int 0), (84, .istore_n 3, 1, 0, 0, 0, 0, .null), (85, .iload_n 3, 1, 0, 0, 0, 0, .null), (86, .bipush 8, 2, 0, 0, 0, 0, .int 8), (88, .if_icmp .ge 18, 3, 106, 0, 0, 0, .null), (91, .aload_n 0, 1, 0, 0, 0, 0, .null), (92, .getfield 146, 3, 11, 52, 2, 1075, .null), (95, .iload_n 2, 1, 0, 0, 0, 0, .null), (96, .iload_n 3, 1, 0, 0, 0, 0, .null), (97, .iadd, 1, 0, 0, 0, 0, .null), (98, .iconst 0, 1, 0, 0, 0, 0, .int 0), (99, .iastore, 1, 0, 0, 0, 0, .null), (100, .iinc 3 1, 3, 0, 0, 0, 0, .int 1), (103, .goto (-18), 3, 85, 0, 0, 0, .null), (106, .aload_n 0, 1, 0, 0, 0, 0, .null), (107, .getfield 146, 3, 11, 52, 2, 1075, .null), (110, .iload_n 2, 1, 0, 0, 0, 0, .null), (111, .iload_n 1, 1, 0, 0, 0, 0, .null), (112, .iastore, 1, 0, 0, 0, 0, .null), (113, .aload_n 0, 1, 0, 0, 0, 0, .null), (114, .getfield 146, 3, 11, 52, 2, 1075, .null), (117, .iload_n 2, 1, 0, 0, 0, 0, .null), (118, .iconst 1, 1, 0, 0, 0, 0, .int 1), (119, .iadd, 1, 0, 0, 0, 0, .null), (120, .aload_n 0, 1, 0, 0, 0, 0, .null), (121, .getfield 280, 3, 11, 23, 0, 1046, .null), (124, .iastore, 1, 0, 0, 0, 0, .null), (125, .iload_n 1, 1, 0, 0, 0, 0, .null), (126, .iconst 3, 1, 0, 0, 0, 0, .int 3), (127, .if_icmp .eq 8, 3, 135, 0, 0, 0, .null), (130, .aload_n 0, 1, 0, 0, 0, 0, .null), (131, .iconst 0, 1, 0, 0, 0, 0, .int 0), (132, .invokevirtual 377, 3, 174, 1, 0, 1380, .ref 3), (135, .aload_n 0, 1, 0, 0, 0, 0, .null), (136, .getfield 146, 3, 11, 52, 2, 1075, .null), (139, .iload_n 2, 1, 0, 0, 0, 0, .null), (140, .iconst 2, 1, 0, 0, 0, 0, .int 2), (141, .iadd, 1, 0, 0, 0, 0, .null), (142, .aload_n 0, 1, 0, 0, 0, 0, .null), (143, .getfield 280, 3, 11, 23, 0, 1046, .null), (146, .iastore, 1, 0, 0, 0, 0, .null), (147, .aload_n 0, 1, 0, 0, 0, 0, .null), (148, .getfield 146, 3, 11, 52, 2, 1075, .null), (151, .iload_n 2, 1, 0, 0, 0, 0, .null), (152, .bipush 7, 2, 0, 0, 0, 0, .int 7), (154, .iadd, 1, 0, 0, 0, 0, .null), (155, .iconst 1, 1, 0, 0, 0, 0, .int 1), (156, .iastore, 1, 0, 0, 0, 0, .null), (157, .aload_n 0, 1, 0, 0, 0, 0, .null), (158, .getfield 243, 3, 11, 19, 3, 1042, .null), (161, .ifCond .ne 34, 3, 195, 0, 0, 0, .null), (164, .aload_n 0, 1, 0, 0, 0, 0, .null), (165, .ldc2_w 504, 3, 0, 0, 0, 1644, .long 21279923), (168, .invokevirtual 301, 3, 155, 1, 0, 1372, .ref 3), (171, .ifCond .eq 24, 3, 195, 0, 0, 0, .null), (174, .aload_n 0, 1, 0, 0, 0, 0, .null), (175, .invokevirtual 247, 3, 154, 0, 0, 1354, .ref 1), (178, .aload_n 0, 1, 0, 0, 0, 0, .null), (179, .getfield 146, 3, 11, 52, 2, 1075, .null), (182, .iload_n 2, 1, 0, 0, 0, 0, .null), (183, .bipush 7, 2, 0, 0, 0, 0, .int 7), (185, .iadd, 1, 0, 0, 0, 0, .null), (186, .aload_n 0, 1, 0, 0, 0, 0, .null), (187, .lconst 1, 1, 0, 0, 0, 0, .long 1), (188, .ldc2_w 293, 3, 0, 0, 0, 1446, .long 20), (191, .invokevirtual 338, 3, 158, 2, 0, 1423, .ref 6), (194, .iastore, 1, 0, 0, 0, 0, .null), (195, .aload_n 0, 1, 0, 0, 0, 0, .null), (196, .getfield 146, 3, 11, 52, 2, 1075, .null), (199, .iload_n 2, 1, 0, 0, 0, 0, .null), (200, .iconst 5, 1, 0, 0, 0, 0, .int 5), (201, .iadd, 1, 0, 0, 0, 0, .null), (202, .aload_n 0, 1, 0, 0, 0, 0, .null), (203, .getfield 280, 3, 11, 23, 0, 1046, .null), (206, .iastore, 1, 0, 0, 0, 0, .null), (207, .aload_n 0, 1, 0, 0, 0, 0, .null), (208, .getfield 243, 3, 11, 19, 3, 1042, .null), (211, .ifCond .ne 22, 3, 233, 0, 0, 0, .null), (214, .aload_n 0, 1, 0, 0, 0, 0, .null), (215, .ldc2_w 380, 3, 0, 0, 0, 1456, .long 294), (218, .invokevirtual 301, 3, 155, 1, 0, 1372, .ref 3), (221, .ifCond .eq 12, 3, 233, 0, 0, 0, .null), (224, .aload_n 0, 1, 0, 0, 0, 0, .null), (225, .invokevirtual 247, 3, 154, 0, 0, 1354, .ref 1), (228, .aload_n 0, 1, 0, 0, 0, 0, .null), (229, .iconst 1, 1, 0, 0, 0, 0, .int 1), (230, .invokevirtual 377, 3, 174, 1, 0, 1380, .ref 3), (233, .aload_n 0, 1, 0, 0, 0, 0, .null), (234, .getfield 146, 3, 11, 52, 2, 1075, .null), (237, .iload_n 2, 1, 0, 0, 0, 0, .null), (238, .bipush 6, 2, 0, 0, 0, 0, .int 6), (240, .iadd, 1, 0, 0, 0, 0, .null), (241, .aload_n 0, 1, 0, 0, 0, 0, .null), (242, .getfield 280, 3, 11, 23, 0, 1046, .null), (245, .iastore, 1, 0, 0, 0, 0, .null), (246, .return_, 1, 0, 0, 0, 0, .null)]
noncomputable def sm_o228 : List (Nat × sm_E) := [(0, .aload_n 0, 1, 0, 0, 0, 0, .null), (1, .getfield 506, 3, 11, 56, 3, 1079, .null), (4, .ifCond .ne 20, 3, 24, 0, 0, 0, .null), (7, .aload_n 0, 1, 0, 0, 0, 0, .null), (8, .getfield 146, 3, 11, 52, 2, 1075, .null), (11, .iload_n 1, 1, 0, 0, 0, 0, .null), (12, .iaload, 1, 0, 0, 0, 0, .null), (13, .aload_n 0, 1, 0, 0, 0, 0, .null), (14, .getfield 146, 3, 11, 52, 2, 1075, .null), (17, .iload_n 1, 1, 0, 0, 0, 0, .null), (18, .iconst 1, 1, 0, 0, 0, 0, .int 1), (19, .iadd, 1, 0, 0, 0, 0, .null), (20, .iaload, 1, 0, 0, 0, 0, .null), (21, .if_icmp .ne 5, 3, 26, 0, 0, 0, .null), (24, .iconst (-1), 1, 0, 0, 0, 0, .int (-1)), (25, .ireturn, 1, 0, 0, 0, 0, .null), (26, .aload_n 0, 1, 0, 0, 0, 0, .null), (27, .iconst 1, 1, 0, 0, 0, 0, .int 1), (28, .putfield 320, 3, 11, 20, 3, 1043, .null), (31, .aload_n 0, 1, 0, 0, 0, 0, .null), (32, .aload_n 0, 1, 0, 0, 0, 0, .null), (33, .getfield 146, 3, 11, 52, 2, 1075, .null), (36, .iload_n 1, 1, 0, 0, 0, 0, .null), (37, .iaload, 1, 0, 0, 0, 0, .null), (38, .aload_n 0, 1, 0, 0, 0, 0, .null), (39, .getfield 146, 3, 11, 52, 2, 1075, .null), (42, .iload_n 1, 1, 0, 0, 0, 0, .null), (43, .iconst 1, 1, 0, 0, 0, 0, .int 1), (44, .iadd, 1, 0, 0, 0, 0, .null), (45, .iaload, 1, 0, 0, 0, 0, .null), (46, .invokevirtual 411, 3, 182, 2, 0, 1270, .ref 7), (49, .aload_n 0, 1, 0, 0, 0, 0, .null), (50, .iconst 0, 1, 0, 0, 0, 0, .int 0), (51, .putfield 320, 3, 11, 20, 3, 1043, .null), (54, .aload_n 0, 1, 0, 0, 0, 0, .null), (55, .aload_n 0, 1, 0, 0, 0, 0, .null), (56, .getfield 394, 3, 11, 38, 3, 1061, .null), (59, .putfield 506, 3, 11, 56, 3, 1079, .null), (62, .aload_n 0, 1, 0, 0, 0, 0, .null), (63, .getfield 408, 3, 11, 39, 1, 1062, .null), (66, .l2i, 1, 0, 0, 0, 0, .null), (67, .ireturn, 1, 0, 0, 0, 0, .null)]
noncomputable def sm_o229 : List (Nat × sm_E) := [(0, .iload_n 1, 1, 0, 0, 0, 0, .null), (1, .tableswitch 45 0 2 #[27, 33, 39], 27, 46, 0, 0, 0, .null), (28, .aload_n 0, 1, 0, 0, 0, 0, .null), (29, .iload_n 2, 1, 0, 0, 0, 0, .null), (30, .invokevirtual 434, 3, 191, 1, 0, 1473, .ref 2), (33, .ireturn, 1, 0, 0, 0, 0, .null), (34, .aload_n 0, 1, 0, 0, 0, 0, .null), (35, .iload_n 2, 1, 0, 0, 0, 0, .null), (36, .invokevirtual 446, 3, 194, 1, 0, 1493, .ref 2), (39, .ireturn, 1, 0, 0, 0, 0, .null), (40, .aload_n 0, 1, 0, 0, 0, 0, .null), (41, .iload_n 2, 1, 0, 0, 0, 0, .null), (42, .invokevirtual 452, 3, 197, 1, 0, 1512, .ref 2), (45, .ireturn, 1, 0, 0, 0, 0, .null), (46, .aload_n 0, 1, 0, 0, 0, 0, .null), (47, .invokevirtual 458, 3, 200, 0, 0, 1524, .ref 1), (50, .ireturn, 1, 0, 0, 0, 0, .null)]
noncomputable def sm_o230 : List (Nat × sm_E) := [(0, .aload_n 0, 1, 0, 0, 0, 0, .null), (1, .getfield 102, 3, 11, 36, 2, 1059, .null), (4, .iconst 1, 1, 0, 0, 0, 0, .int 1), (5, .aload_n 0, 1, 0, 0, 0, 0, .null), (6, .getfield 13, 3, 11, 3, 2, 1026, .null), (9, .iconst 4, 1, 0, 0, 0, 0, .int 4), (10, .iaload, 1, 0, 0, 0, 0, .null), (11, .i2l, 1, 0, 0, 0, 0, .null), (12, .lastore, 1, 0, 0, 0, 0, .null), (13, .aload_n 0, 1, 0, 0, 0, 0, .null), (14, .getfield 102, 3, 11, 36, 2, 1059, .null), (17, .iconst 2, 1, 0, 0, 0, 0, .int 2), (18, .aload_n 0, 1, 0, 0, 0, 0, .null), (19, .getfield 509, 3, 11, 53, 0, 1076, .null), (22, .i2l, 1, 0, 0, 0, 0, .null), (23, .lastore, 1, 0, 0, 0, 0, .null), (24, .aload_n 0, 1, 0, 0, 0, 0, .null), (25, .getfield 102, 3, 11, 36, 2, 1059, .null), (28, .iconst 3, 1, 0, 0, 0, 0, .int 3), (29, .aload_n 0, 1, 0, 0, 0, 0, .null), (30, .getfield 512, 3, 11, 54, 0, 1077, .null), (33, .i2l, 1, 0, 0, 0, 0, .null), (34, .lastore, 1, 0, 0, 0, 0, .null), (35, .aload_n 0, 1, 0, 0, 0, 0, .null), (36, .getfield 102, 3, 11, 36, 2, 1059, .null), (39, .iconst 4, 1, 0, 0, 0, 0, .int 4), (40, .aload_n 0, 1, 0, 0, 0, 0, .null), (41, .getfield 13, 3, 11, 3, 2, 1026, .null), (44, .bipush 8, 2, 0, 0, 0, 0, .int 8), (46, .iaload, 1, 0, 0, 0, 0, .null), (47, .i2l, 1, 0, 0, 0, 0, .null), (48, .lastore, 1, 0, 0, 0, 0, .null), (49, .aload_n 0, 1, 0, 0, 0, 0, .null), (50, .getfield 102, 3, 11, 36, 2, 1059, .null), (53, .iconst 5, 1, 0, 0, 0, 0, .int 5), (54, .aload_n 0, 1, 0, 0, 0, 0, .null), (55, .getfield 13, 3, 11, 3, 2, 1026, .null), (58, .bipush 9, 2, 0, 0, 0, 0, .int 9), (60, .iaload, 1, 0, 0, 0, 0, .null), (61, .i2l, 1, 0, 0, 0, 0, .null), (62, .lastore, 1, 0, 0, 0, 0, .null), (63, .aload_n 0, 1, 0, 0, 0, 0, .null), (64, .getfield 102, 3, 11, 36, 2, 1059, .null), (67, .bipush 6, 2, 0, 0, 0, 0, .int 6), (69, .aload_n 0, 1, 0, 0, 0, 0, .null), (70, .invokevirtual 440, 3, 139, 0, 0, 1501, .ref 3), (73, .invokestatic 443, 3, 127, 1, 0, 1505, .ref 3), (76, .i2l, 1, 0, 0, 0, 0, .null), (77, .lastore, 1, 0, 0, 0, 0, .null), (78, .aload_n 0, 1, 0, 0, 0, 0, .null), (79, .iconst 0, 1, 0, 0, 0, 0, .int 0), (80, .putfield 506, 3, 11, 56, 3, 1079, .null), (83, .aload_n 0, 1, 0, 0, 0, 0, .null), (84, .getfield 146, 3, 11, 52, 2, 1075, .null), (87, .iload_n 1, 1, 0, 0, 0, 0, .null), (88, .iconst 5, 1, 0, 0, 0, 0, .int 5), (89, .iadd, 1, 0, 0, 0, 0, .null), (90, .iaload, 1, 0, 0, 0, 0, .null), (91, .aload_n 0, 1, 0, 0, 0, 0, .null), (92, .getfield 146, 3, 11, 52, 2, 1075, .null), (95, .iload_n 1, 1, 0, 0, 0, 0, .null), (96, .bipush 6, 2, 0, 0, 0, 0, .int 6), (98, .iadd, 1, 0, 0, 0, 0, .null), (99, .iaload, 1, 0, 0, 0, 0, .null), (100, .if_icmp .ge 24, 3, 124, 0, 0, 0, .null), (103, .aload_n 0, 1, 0, 0, 0, 0, .null), (104, .iload_n 1, 1, 0, 0, 0, 0, .null), (105, .iconst 5, 1, 0, 0, 0, 0, .int 5), (106, .iadd, 1, 0, 0, 0, 0, .null), (107, .invokevirtual 515, 3, 228, 1, 0, 1649, .ref 2), (110, .istore_n 2, 1, 0, 0, 0, 0, .null), (111, .aload_n 0, 1, 0, 0, 0, 0, .null), (112, .getfield 506, 3, 11, 56, 3, 1079, .null), (115, .ifCond .ne 7, 3, 122, 0, 0, 0, .null), (118, .iload_n 2, 1, 0, 0, 0, 0, .null), (119, .ifCond .ne 5, 3, 124, 0, 0, 0, .null), (122, .iconst 0, 1, 0, 0, 0, 0, .int 0), (123, .ireturn, 1, 0, 0, 0, 0, .null), (124, .aload_n 0, 1, 0, 0, 0, 0, .null), (125, .iload_n 1, 1, 0, 0, 0, 0, .null), (126, .iconst 1, 1, 0, 0, 0, 0, .int 1), (127, .iadd, 1, 0, 0, 0, 0, .null), (128, .invokevirtual 515, 3, 228, 1, 0, 1649, .ref 2), (131, .istore_n 2, 1, 0, 0, 0, 0, .null), (132, .aload_n 0, 1, 0, 0, 0, 0, .null), (133, .getfield 506, 3, 11, 56, 3, 1079, .null), (136, .ifCond .eq 6, 3, 142, 0, 0, 0, .null), (139, .bipush (-3), 2, 0, 0, 0, 0, .int (-3)), (141, .ireturn, 1, 0, 0, 0, 0, .null), (142, .aload_n 0, 1, 0, 0, 0, 0, .null), (143, .aload_n 0, 1, 0, 0, 0, 0, .null), (144, .getfield 146, 3, 11, 52, 2, 1075, .null), (147, .iload_n 1, 1, 0, 0, 0, 0, .null), (148, .iaload, 1, 0, 0, 0, 0, .null), (149, .iload_n 2, 1, 0, 0, 0, 0, .null), (150, .invokevirtual 518, 3, 229, 2, 0, 1653, .ref 3), (153, .istore_n 3, 1, 0, 0, 0, 0, .null), (154, .iload_n 3, 1, 0, 0, 0, 0, .null), (155, .ifCond .ge 6, 3, 161, 0, 0, 0, .null), (158, .bipush (-3), 2, 0, 0, 0, 0, .int (-3)), (160, .ireturn, 1, 0, 0, 0, 0, .null), (161, .aload_n 0, 1, 0, 0, 0, 0, .null), (162, .aload_n 0, 1, 0, 0, 0, 0, .null), (163, .getfield 146, 3, 11, 52, 2, 1075, .null), (166, .iload_n 1, 1, 0, 0, 0, 0, .null), (167, .iaload, 1, 0, 0, 0, 0, .null), (168, .ifCond .ne 7, 3, 175, 0, 0, 0, .null), (171, .iload_n 3, 1, 0, 0, 0, 0, .null), (172, .goto 7, 3, 179, 0, 0, 0, .null), (175, .aload_n 0, 1, 0, 0, 0, 0, .null), (176, .getfield 512, 3, 11, 54, 0, 1077, .null), (179, .putfield 512, 3, 11, 54, 0, 1077, .null), (182, .aload_n 0, 1, 0, 0, 0, 0, .null), (183, .dup, 1, 0, 0, 0, 0, .null), (184, .getfield 509, 3, 11, 53, 0, 1076, .null), (187, .iconst 1, 1, 0, 0, 0, 0, .int 1), (188, .iadd, 1, 0, 0, 0, 0, .null), (189, .putfield 509, 3, 11, 53, 0, 1076, .null), (192, .iconst 0, 1, 0, 0, 0, 0, .int 0), (193, .ireturn, 1, 0, 0, 0, 0, .null)]
noncomputable def sm_o231 : List (Nat × sm_E) := [(0, .aload_n 0, 1, 0, 0, 0, 0, .null), (1, .iconst 0, 1, 0, 0, 0, 0, .int 0), (2, .putfield 158, 3, 11, 0, 0, 1023, .null), (5, .aload_n 0, 1, 0, 0, 0, 0, .null), (6, .iconst (-1), 1, 0, 0, 0, 0, .int (-1)), (7, .putfield 149, 3, 11, 55, 0, 1078, .null), (10, .aload_n 0, 1, 0, 0, 0, 0, .null), (11, .iconst 1, 1, 0, 0, 0, 0, .int 1), (12, .invokevirtual 382, 3, 175, 1, 0, 1346, .ref 2), (15, .aload_n 0, 1, 0, 0, 0, 0, .null), (16, .invokevirtual 521, 3, 227, 0, 0, 1640, .ref 4), (19, .aload_n 0, 1, 0, 0, 0, 0, .null), (20, .getfield 243, 3, 11, 19, 3, 1042, .null), (23, .ifCond .ne 23, 3, 46, 0, 0, 0, .null), (26, .aload_n 0, 1, 0, 0, 0, 0, .null), (27, .bipush 59, 2, 0, 0, 0, 0, .int 59), (29, .invokevirtual 314, 3, 156, 1, 0, 1393, .ref 2), (32, .ifCond .eq 14, 3, 46, 0, 0, 0, .null), (35, .aload_n 0, 1, 0, 0, 0, 0, .null), (36, .invokevirtual 247, 3, 154, 0, 0, 1354, .ref 1), (39, .aload_n 0, 1, 0, 0, 0, 0, .null), (40, .invokevirtual 521, 3, 227, 0, 0, 1640, .ref 4), (43, .goto (-24), 3, 19, 0, 0, 0, .null), (46, .aload_n 0, 1, 0, 0, 0, 0, .null), (47, .invokevirtual 388, 3, 176, 0, 0, 1457, .ref 1), (50, .aload_n 0, 1, 0, 0, 0, 0, .null), (51, .getfield 243, 3, 11, 19, 3, 1042, .null), (54, .ifCond .eq 10, 3, 64, 0, 0, 0, .null), (57, .aload_n 0, 1, 0, 0, 0, 0, .null), (58, .bipush (-6), 2, 0, 0, 0, 0, .int (-6)), (60, .invokevirtual 167, 3, 128, 1, 0, 1209, .ref 2), (63, .ireturn, 1, 0, 0, 0, 0, .null), (64, .aload_n 0, 1, 0, 0, 0, 0, .null), (65, .bipush 17, 2, 0, 0, 0, 0, .int 17), (67, .invokevirtual 171, 3, 131, 1, 0, 1481, .ref 3), (70, .aload_n 0, 1, 0, 0, 0, 0, .null), (71, .getfield 164, 3, 11, 8, 0, 1031, .null), (74, .istore_n 1, 1, 0, 0, 0, 0, .null), (75, .iconst 0, 1, 0, 0, 0, 0, .int 0), (76, .istore_n 2, 1, 0, 0, 0, 0, .null), (77, .iload_n 2, 1, 0, 0, 0, 0, .null), (78, .sipush 320, 3, 0, 0, 0, 0, .int 320), (81, .if_icmp .ge 21, 3, 102, 0, 0, 0, .null), (84, .aload_n 0, 1, 0, 0, 0, 0, .null), (85, .getfield 29, 3, 11, 9, 2, 1032, .null), (88, .iload_n 2, 1, 0, 0, 0, 0, .null), (89, .aload_n 0, 1, 0, 0, 0, 0, .null), (90, .getfield 23, 3, 11, 6, 2, 1029, .null), (93, .iload_n 2, 1, 0, 0, 0, 0, .null), (94, .iaload, 1, 0, 0, 0, 0, .null), (95, .iastore, 1, 0, 0, 0, 0, .null), (96, .iinc 2 1, 3, 0, 0, 0, 0, .int 1), (99, .goto (-22), 3, 77, 0, 0, 0, .null), (102, .iconst 0, 1, 0, 0, 0, 0, .int 0), (103, .istore_n 2, 1, 0, 0, 0, 0, .null), (104, .iload_n 2, 1, 0, 0, 0, 0, .null), (105, .bipush 16, 2, 0, 0, 0, 0, .int 16), (107, .if_icmp .ge 21, 3, 128, 0, 0, 0, .null), (110, .aload_n 0, 1, 0, 0, 0, 0, .null), (111, .getfield 32, 3, 11, 10, 2, 1033, .null), (114, .iload_n 2, 1, 0, 0, 0, 0, .null), (115, .aload_n 0, 1, 0, 0, 0, 0, .null), (116, .getfield 26, 3, 11, 7, 2, 1030, .null), (119, .iload_n 2, 1, 0, 0, 0, 0, .null), (120, .iaload, 1, 0, 0, 0, 0, .null), (121, .iastore, 1, 0, 0, 0, 0, .null), (122, .iinc 2 1, 3, 0, 0, 0, 0, .int 1), (125, .goto (-21), 3, 104, 0, 0, 0, .null), (128, .aload_n 0, 1, 0, 0, 0, 0, .null), (129, .iconst 0, 1, 0, 0, 0, 0, .int 0), (130, .putfield 509, 3, 11, 53, 0, 1076, .null), (133, .aload_n 0, 1, 0, 0, 0, 0, .null), (134, .iconst (-1), 1, 0, 0, 0, 0, .int (-1)), (135, .putfield 512, 3, 11, 54, 0, 1077, .null), (138, .iconst 0, 1, 0, 0, 0, 0, .int 0), (139, .istore_n 2, 1, 0, 0, 0, 0, .null), (140, .iload_n 2, 1, 0, 0, 0, 0, .null), (141, .aload_n 0, 1, 0, 0, 0, 0, .null), (142, .getfield 374, 3, 11, 21, 0, 1044, .null), (145, .if_icmp .ge 61, 3, 206, 0, 0, 0, .null), (148, .iconst 0, 1, 0, 0, 0, 0, .int 0), (149, .istore_n 3, 1, 0, 0, 0, 0, .null), (150, .iload_n 3, 1, 0, 0, 0, 0, .null), (151, .aload_n 0, 1, 0, 0, 0, 0, .null), (152, .getfield 146, 3, 11, 52, 2, 1075, .null), (155, .bipush 8, 2, 0, 0, 0, 0, .int 8), (157, .iload_n 2, 1, 0, 0, 0, 0, .null), (158, .imul, 1, 0, 0, 0, 0, .null), (159, .bipush 7, 2, 0, 0, 0, 0, .int 7), (161, .iadd, 1, 0, 0, 0, 0, .null), (162, .iaload, 1, 0, 0, 0, 0, .null), (163, .if_icmp .ge 37, 3, 200, 0, 0, 0, .null), (166, .aload_n 0, 1, 0, 0, 0, 0, .null), (167, .bipush 8, 2, 0, 0, 0, 0, .int 8), (169, .iload_n 2, 1, 0, 0, 0, 0, .null), (170, .imul, 1, 0, 0, 0, 0, .null), (171, .invokevirtual 524, 3, 230, 1, 0, 1645, .ref 4), (174, .ifCond .ge 20, 3, 194, 0, 0, 0, .null), (177, .aload_n 0, 1, 0, 0, 0, 0, .null), (178, .iload_n 1, 1, 0, 0, 0, 0, .null), (179, .invokevirtual 527, 3, 232, 1, 0, 1657, .ref 3), (182, .aload_n 0, 1, 0, 0, 0, 0, .null), (183, .iload_n 2, 1, 0, 0, 0, 0, .null), (184, .putfield 149, 3, 11, 55, 0, 1078, .null), (187, .aload_n 0, 1, 0, 0, 0, 0, .null), (188, .bipush (-3), 2, 0, 0, 0, 0, .int (-3)), (190, .invokevirtual 167, 3, 128, 1, 0, 1209, .ref 2), (193, .ireturn, 1, 0, 0, 0, 0, .null), (194, .iinc 3 1, 3, 0, 0, 0, 0, .int 1), (197, .goto (-47), 3, 150, 0, 0, 0, .null), (200, .iinc 2 1, 3, 0, 0, 0, 0, .int 1), (203, .goto (-63), 3, 140, 0, 0, 0, .null), (206, .aload_n 0, 1, 0, 0, 0, 0, .null), (207, .aload_n 0, 1, 0, 0, 0, 0, .null), (208, .getfield 509, 3, 11, 53, 0, 1076, .null), (211, .invokevirtual 167, 3, 128, 1, 0, 1209, .ref 2), (214, .ireturn, 1, 0, 0, 0, 0, .null)]
noncomputable def sm_o232 : List (Nat × sm_E) := [(0, .aload_n 0, 1, 0, 0, 0, 0, .null), (1, .bipush 17, 2, 0, 0, 0, 0, .int 17), (3, .invokevirtual 175, 3, 132, 1, 0, 1213, .ref 3), (6, .iconst 0, 1, 0, 0, 0, 0, .int 0), (7, .istore_n 2, 1, 0, 0, 0, 0, .null), (8, .iload_n 2, 1, 0, 0, 0, 0, .null), (9, .sipush 320, 3, 0, 0, 0, 0, .int 320), (12, .if_icmp .ge 21, 3, 33, 0, 0, 0, .null), (15, .aload_n 0, 1, 0, 0, 0, 0, .null), (16, .getfield 23, 3, 11, 6, 2, 1029, .null), (19, .iload_n 2, 1, 0, 0, 0, 0, .null), (20, .aload_n 0, 1, 0, 0, 0, 0, .null), (21, .getfield 29, 3, 11, 9, 2, 1032, .null), (24, .iload_n 2, 1, 0, 0, 0, 0, .null), (25, .iaload, 1, 0, 0, 0, 0, .null), (26, .iastore, 1, 0, 0, 0, 0, .null), (27, .iinc 2 1, 3, 0, 0, 0, 0, .int 1), (30, .goto (-22), 3, 8, 0, 0, 0, .null), (33, .iconst 0, 1, 0, 0, 0, 0, .int 0), (34, .istore_n 2, 1, 0, 0, 0, 0, .null), (35, .iload_n 2, 1, 0, 0, 0, 0, .null), (36, .bipush 16, 2, 0, 0, 0, 0, .int 16), (38, .if_icmp .ge 21, 3, 59, 0, 0, 0, .null), (41, .aload_n 0, 1, 0, 0, 0, 0, .null), (42, .getfield 26, 3, 11, 7, 2, 1030, .null), (45, .iload_n 2, 1, 0, 0, 0, 0, .null), (46, .aload_n 0, 1, 0, 0, 0, 0, .null), (47, .getfield 32, 3, 11, 10, 2, 1033, .null), (50, .iload_n 2, 1, 0, 0, 0, 0, .null), (51, .iaload, 1, 0, 0, 0, 0, .null), (52, .iastore, 1, 0, 0, 0, 0, .null), (53, .iinc 2 1, 3, 0, 0, 0, 0, .int 1), (56, .goto (-21), 3, 35, 0, 0, 0, .null), (59, .aload_n 0, 1, 0, 0, 0, 0, .null), (60, .iload_n 1, 1, 0, 0, 0, 0, .null), (61, .putfield 164, 3, 11, 8, 0, 1031, .null), (64, .return_, 1, 0, 0, 0, 0, .null)]
noncomputable def sm_o233 : List (Nat × sm_E) := [(0, .aload_n 0, 1, 0, 0, 0, 0, .null), (1, .iconst 0, 1, 0, 0, 0, 0, .int 0), (2, .putfield 158, 3, 11, 0, 0, 1023, .null), (5, .aload_n 0, 1, 0, 0, 0, 0, .null), (6, .getfield 149, 3, 11, 55, 0, 1078, .null), (9, .ireturn, 1, 0, 0, 0, 0, .null)]
noncomputable def sm_o234 : List (Nat × sm_E) := [(0, .aload_n 0, 1, 0, 0, 0, 0, .null), (1, .aload_n 0, 1, 0, 0, 0, 0, .null), (2, .getfield 530, 3, 11, 57, 1, 1080, .null), (5, .ldc2_w 533, 3, 0, 0, 0, 1673, .long 1103), (8, .lmul, 1, 0, 0, 0, 0, .null), (9, .ldc2_w 535, 3, 0, 0, 0, 1674, .long 12345), (12, .ladd, 1, 0, 0, 0, 0, .null), (13, .ldc2_w 537, 3, 0, 0, 0, 1675, .long 1000003), (16, .lrem, 1, 0, 0, 0, 0, .null), (17, .putfield 530, 3, 11, 57, 1, 1080, .null), (20, .aload_n 0, 1, 0, 0, 0, 0, .null), (21, .getfield 530, 3, 11, 57, 1, 1080, .null), (24, .iload_n 1, 1, 0, 0, 0, 0, .null), (25, .i2l, 1, 0, 0, 0, 0, .null), (26, .lrem, 1, 0, 0, 0, 0, .null), (27, .l2i, 1, 0, 0, 0, 0, .null), (28, .ireturn, 1, 0, 0, 0, 0, .null)]
noncomputable def sm_o235 : List (Nat × sm_E) := [(0, .iload_n 2, 1, 0, 0, 0, 0, .null), (1, .iconst 5, 1, 0, 0, 0, 0, .int 5), (2, .if_icmp .ge 17, 3, 19, 0, 0, 0, .null), (5, .aload_n 0, 1, 0, 0, 0, 0, .null), (6, .iload_n 1, 1, 0, 0, 0, 0, .null), (7, .invokevirtual 213, 3, 189, 1, 0, 1291, .ref 2), (10, .ifCond .eq 9, 3, 19, 0, 0, 0, .null), (13, .aload_n 0, 1, 0, 0, 0, 0, .null), (14, .iload_n 1, 1, 0, 0, 0, 0, .null), (15, .invokevirtual 431, 3, 190, 1, 0, 1485, .ref 3), (18, .pop, 1, 0, 0, 0, 0, .null), (19, .iload_n 2, 1, 0, 0, 0, 0, .null), (20, .iconst 5, 1, 0, 0, 0, 0, .int 5), (21, .if_icmp .ne 19, 3, 40, 0, 0, 0, .null), (24, .aload_n 0, 1, 0, 0, 0, 0, .null), (25, .iload_n 1, 1, 0, 0, 0, 0, .null), (26, .invokevirtual 185, 3, 138, 1, 0, 1295, .ref 2), (29, .ifCond .eq 11, 3, 40, 0, 0, 0, .null), (32, .aload_n 0, 1, 0, 0, 0, 0, .null), (33, .iload_n 1, 1, 0, 0, 0, 0, .null), (34, .invokevirtual 437, 3, 193, 1, 0, 1497, .ref 2), (37, .goto 22, 3, 59, 0, 0, 0, .null), (40, .iload_n 2, 1, 0, 0, 0, 0, .null), (41, .bipush 6, 2, 0, 0, 0, 0, .int 6), (43, .if_icmp .ne 16, 3, 59, 0, 0, 0, .null), (46, .aload_n 0, 1, 0, 0, 0, 0, .null), (47, .iload_n 1, 1, 0, 0, 0, 0, .null), (48, .invokevirtual 185, 3, 138, 1, 0, 1295, .ref 2), (51, .ifCond .ne 8, 3, 59, 0, 0, 0, .null), (54, .aload_n 0, 1, 0, 0, 0, 0, .null), (55, .iload_n 1, 1, 0, 0, 0, 0, .null), (56, .invokevirtual 449, 3, 196, 1, 0, 1516, .ref 2), (59, .return_, 1, 0, 0, 0, 0, .null)]
noncomputable def sm_o236 : List (Nat × sm_E) := [(0, .aload_n 0, 1, 0, 0, 0, 0, .null), (1, .iconst 0, 1, 0, 0, 0, 0, .int 0), (2, .putfield 158, 3, 11, 0, 0, 1023, .null), (5, .iload_n 1, 1, 0, 0, 0, 0, .null), (6, .i2l, 1, 0, 0, 0, 0, .null), (7, .lconst 0, 1, 0, 0, 0, 0, .long 0), (8, .ldc2_w 272, 3, 0, 0, 0, 1366, .long 1000000), (11, .invokestatic 178, 3, 124, 3, 0, 1221, .ref 6), (14, .ifCond .eq 15, 3, 29, 0, 0, 0, .null), (17, .iload_n 2, 1, 0, 0, 0, 0, .null), (18, .i2l, 1, 0, 0, 0, 0, .null), (19, .lconst 1, 1, 0, 0, 0, 0, .long 1), (20, .ldc2_w 461, 3, 0, 0, 0, 1540, .long 60), (23, .invokestatic 178, 3, 124, 3, 0, 1221, .ref 6), (26, .ifCond .ne 9, 3, 35, 0, 0, 0, .null), (29, .aload_n 0, 1, 0, 0, 0, 0, .null), (30, .iconst (-1), 1, 0, 0, 0, 0, .int (-1)), (31, .invokevirtual 167, 3, 128, 1, 0, 1209, .ref 2), (34, .ireturn, 1, 0, 0, 0, 0, .null), (35, .aload_n 0, 1, 0, 0, 0, 0, .null), (36, .getfield 13, 3, 11, 3, 2, 1026, .null), (39, .iconst 0, 1, 0, 0, 0, 0, .int 0), (40, .iaload, 1, 0, 0, 0, 0, .null), (41, .ifCond .ne 10, 3, 51, 0, 0, 0, .null), (44, .aload_n 0, 1, 0, 0, 0, 0, .null), (45, .bipush (-3), 2, 0, 0, 0, 0, .int (-3)), (47, .invokevirtual 167, 3, 128, 1, 0, 1209, .ref 2), (50, .ireturn, 1, 0, 0, 0, 0, .null), (51, .aload_n 0, 1, 0, 0, 0, 0, .null), (52, .bipush 16, 2, 0, 0, 0, 0, .int 16), (54, .invokevirtual 171, 3, 131, 1, 0, 1481, .ref 3), (57, .aload_n 0, 1, 0, 0, 0, 0, .null), (58, .iload_n 1, 1, 0, 0, 0, 0, .null), (59, .i2l, 1, 0, 0, 0, 0, .null), (60, .putfield 530, 3, 11, 57, 1, 1080, .null), (63, .iconst 0, 1, 0, 0, 0, 0, .int 0), (64, .istore_n 3, 1, 0, 0, 0, 0, .null), (65, .iconst 0, 1, 0, 0, 0, 0, .int 0), (66, .istore 4, 2, 0, 0, 0, 0, .null), (68, .iload 4, 2, 0, 0, 0, 0, .null), (70, .iload_n 2, 1, 0, 0, 0, 0, .null), (71, .if_icmp .ge 56, 3, 127, 0, 0, 0, .null), (74, .aload_n 0, 1, 0, 0, 0, 0, .null), (75, .getfield 13, 3, 11, 3, 2, 1026, .null), (78, .iconst 4, 1, 0, 0, 0, 0, .int 4), (79, .iaload, 1, 0, 0, 0, 0, .null), (80, .sipush 999, 3, 0, 0, 0, 0, .int 999), (83, .if_icmp .ge 44, 3, 127, 0, 0, 0, .null), (86, .aload_n 0, 1, 0, 0, 0, 0, .null), (87, .aload_n 0, 1, 0, 0, 0, 0, .null), (88, .getfield 13, 3, 11, 3, 2, 1026, .null), (91, .iconst 0, 1, 0, 0, 0, 0, .int 0), (92, .iaload, 1, 0, 0, 0, 0, .null), (93, .invokevirtual 539, 3, 234, 1, 0, 1669, .ref 2), (96, .istore 5, 2, 0, 0, 0, 0, .null), (98, .aload_n 0, 1, 0, 0, 0, 0, .null), (99, .bipush 8, 2, 0, 0, 0, 0, .int 8), (101, .invokevirtual 539, 3, 234, 1, 0, 1669, .ref 2), (104, .istore 6, 2, 0, 0, 0, 0, .null), (106, .aload_n 0, 1, 0, 0, 0, 0, .null), (107, .iload 5, 2, 0, 0, 0, 0, .null), (109, .iload 6, 2, 0, 0, 0, 0, .null), (111, .invokevirtual 542, 3, 235, 2, 0, 1676, .ref 3), (114, .iload_n 3, 1, 0, 0, 0, 0, .null), (115, .aload_n 0, 1, 0, 0, 0, 0, .null), (116, .invokevirtual 455, 3, 199, 0, 0, 1528, .ref 3), (119, .iadd, 1, 0, 0, 0, 0, .null), (120, .istore_n 3, 1, 0, 0, 0, 0, .null), (121, .iinc 4 1, 3, 0, 0, 0, 0, .int 1), (124, .goto (-56), 3, 68, 0, 0, 0, .null), (127, .iconst 0, 1, 0, 0, 0, 0, .int 0), (128, .istore 4, 2, 0, 0, 0, 0, .null), (130, .iload 4, 2, 0, 0, 0, 0, .null), (132, .bipush 20, 2, 0, 0, 0, 0, .int 20), (134, .if_icmp .ge 25, 3, 159, 0, 0, 0, .null), (137, .aload_n 0, 1, 0, 0, 0, 0, .null), (138, .getfield 152, 3, 11, 58, 2, 1081, .null), (141, .iload 4, 2, 0, 0, 0, 0, .null), (143, .aload_n 0, 1, 0, 0, 0, 0, .null), (144, .getfield 13, 3, 11, 3, 2, 1026, .null), (147, .iconst 4, 1, 0, 0, 0, 0, .int 4), (148, .iload 4, 2, 0, 0, 0, 0, .null), (150, .iadd, 1, 0, 0, 0, 0, .null), (151, .iaload, 1, 0, 0, 0, 0, .null), (152, .iastore, 1, 0, 0, 0, 0, .null), (153, .iinc 4 1, 3, 0, 0, 0, 0, .int 1), (156, .goto (-26), 3, 130, 0, 0, 0, .null), (159, .aload_n 0, 1, 0, 0, 0, 0, .null), (160, .aload_n 0, 1, 0, 0, 0, 0, .null), (161, .getfield 13, 3, 11, 3, 2, 1026, .null), (164, .iconst 0, 1, 0, 0, 0, 0, .int 0), (165, .iaload, 1, 0, 0, 0, 0, .null), (166, .putfield 155, 3, 11, 59, 0, 1082, .null), (169, .aload_n 0, 1, 0, 0, 0, 0, .null), (170, .bipush 16, 2, 0, 0, 0, 0, .int 16), (172, .invokevirtual 175, 3, 132, 1, 0, 1213, .ref 3), (175, .aload_n 0, 1, 0, 0, 0, 0, .null), (176, .iload_n 3, 1, 0, 0, 0, 0, .null), (177, .invokevirtual 167, 3, 128, 1, 0, 1209, .ref 2), (180, .ireturn, 1, 0, 0, 0, 0, .null)]
noncomputable def sm_o237 : List (Nat × sm_E) := [(0, .aload_n 0, 1, 0, 0, 0, 0, .null), (1, .iconst 0, 1, 0, 0, 0, 0, .int 0), (2, .putfield 158, 3, 11, 0, 0, 1023, .null), (5, .iload_n 1, 1, 0, 0, 0, 0, .null), (6, .i2l, 1, 0, 0, 0, 0, .null), (7, .lconst 0, 1, 0, 0, 0, 0, .long 0), (8, .aload_n 0, 1, 0, 0, 0, 0, .null), (9, .getfield 155, 3, 11, 59, 0, 1082, .null), (12, .i2l, 1, 0, 0, 0, 0, .null), (13, .lconst 1, 1, 0, 0, 0, 0, .long 1), (14, .lsub, 1, 0, 0, 0, 0, .null), (15, .invokestatic 178, 3, 124, 3, 0, 1221, .ref 6), (18, .ifCond .eq 24, 3, 42, 0, 0, 0, .null), (21, .iload_n 2, 1, 0, 0, 0, 0, .null), (22, .i2l, 1, 0, 0, 0, 0, .null), (23, .lconst 0, 1, 0, 0, 0, 0, .long 0), (24, .ldc2_w 545, 3, 0, 0, 0, 1684, .long 2), (27, .invokestatic 178, 3, 124, 3, 0, 1221, .ref 6), (30, .ifCond .eq 12, 3, 42, 0, 0, 0, .null), (33, .iload_n 2, 1, 0, 0, 0, 0, .null), (34, .iconst 2, 1, 0, 0, 0, 0, .int 2), (35, .if_icmp .ne 9, 3, 44, 0, 0, 0, .null), (38, .iload_n 1, 1, 0, 0, 0, 0, .null), (39, .ifCond .eq 5, 3, 44, 0, 0, 0, .null), (42, .iconst (-1), 1, 0, 0, 0, 0, .int (-1)), (43, .ireturn, 1, 0, 0, 0, 0, .null), (44, .aload_n 0, 1, 0, 0, 0, 0, .null), (45, .getfield 152, 3, 11, 58, 2, 1081, .null), (48, .iload_n 2, 1, 0, 0, 0, 0, .null), (49, .iconst 2, 1, 0, 0, 0, 0, .int 2), (50, .if_icmp .ne 7, 3, 57, 0, 0, 0, .null), (53, .iconst 4, 1, 0, 0, 0, 0, .int 4), (54, .goto 18, 3, 72, 0, 0, 0, .null), (57, .iload_n 2, 1, 0, 0, 0, 0, .null), (58, .ifCond .ne 8, 3, 66, 0, 0, 0, .null), (61, .bipush 10, 2, 0, 0, 0, 0, .int 10), (63, .goto 5, 3, 68, 0, 0, 0, .null), (66, .bipush 17, 2, 0, 0, 0, 0, .int 17), (68, .iconst 4, 1, 0, 0, 0, 0, .int 4), (69, .isub, 1, 0, 0, 0, 0, .null), (70, .iload_n 1, 1, 0, 0, 0, 0, .null), (71, .iadd, 1, 0, 0, 0, 0, .null), (72, .iaload, 1, 0, 0, 0, 0, .null), (73, .ireturn, 1, 0, 0, 0, 0, .null)]
noncomputable def sm_o238 : List (Nat × sm_E) := [(0, .aload_n 0, 1, 0, 0, 0, 0, .null), (1, .iconst 0, 1, 0, 0, 0, 0, .int 0), (2, .putfield 158, 3, 11, 0, 0, 1023, .null), (5, .iload_n 1, 1, 0, 0, 0, 0, .null), (6, .tableswitch 168 0 13 #[70, 77, 85, 93, 101, 108, 115, 120, 125, 132, 139, 146, 153, 161], 70, 174, 0, 0, 0, .null), (76, .aload_n 0, 1, 0, 0, 0, 0, .null), (77, .getfield 13, 3, 11, 3, 2, 1026, .null), (80, .iconst 0, 1, 0, 0, 0, 0, .int 0), (81, .iaload, 1, 0, 0, 0, 0, .null), (82, .ireturn, 1, 0, 0, 0, 0, .null), (83, .aload_n 0, 1, 0, 0, 0, 0, .null), (84, .invokevirtual 440, 3, 139, 0, 0, 1501, .ref 3), (87, .invokestatic 443, 3, 127, 1, 0, 1505, .ref 3), (90, .ireturn, 1, 0, 0, 0, 0, .null), (91, .aload_n 0, 1, 0, 0, 0, 0, .null), (92, .getfield 13, 3, 11, 3, 2, 1026, .null), (95, .bipush 8, 2, 0, 0, 0, 0, .int 8), (97, .iaload, 1, 0, 0, 0, 0, .null), (98, .ireturn, 1, 0, 0, 0, 0, .null), (99, .aload_n 0, 1, 0, 0, 0, 0, .null), (100, .getfield 13, 3, 11, 3, 2, 1026, .null), (103, .bipush 9, 2, 0, 0, 0, 0, .int 9), (105, .iaload, 1, 0, 0, 0, 0, .null), (106, .ireturn, 1, 0, 0, 0, 0, .null), (107, .aload_n 0, 1, 0, 0, 0, 0, .null), (108, .getfield 13, 3, 11, 3, 2, 1026, .null), (111, .iconst 1, 1, 0, 0, 0, 0, .int 1), (112, .iaload, 1, 0, 0, 0, 0, .null), (113, .ireturn, 1, 0, 0, 0, 0, .null), (114, .aload_n 0, 1, 0, 0, 0, 0, .null), (115, .getfield 13, 3, 11, 3, 2, 1026, .null), (118, .iconst 2, 1, 0, 0, 0, 0, .int 2), (119, .iaload, 1, 0, 0, 0, 0, .null), (120, .ireturn, 1, 0, 0, 0, 0, .null), (121, .aload_n 0, 1, 0, 0, 0, 0, .null), (122, .getfield 164, 3, 11, 8, 0, 1031, .null), (125, .ireturn, 1, 0, 0, 0, 0, .null), (126, .aload_n 0, 1, 0, 0, 0, 0, .null), (127, .getfield 231, 3, 11, 13, 0, 1036, .null), (130, .ireturn, 1, 0, 0, 0, 0, .null), (131, .aload_n 0, 1, 0, 0, 0, 0, .null), (132, .getfield 7, 3, 11, 2, 2, 1025, .null), (135, .iconst 1, 1, 0, 0, 0, 0, .int 1), (136, .iaload, 1, 0, 0, 0, 0, .null), (137, .ireturn, 1, 0, 0, 0, 0, .null), (138, .aload_n 0, 1, 0, 0, 0, 0, .null), (139, .getfield 7, 3, 11, 2, 2, 1025, .null), (142, .iconst 2, 1, 0, 0, 0, 0, .int 2), (143, .iaload, 1, 0, 0, 0, 0, .null), (144, .ireturn, 1, 0, 0, 0, 0, .null), (145, .aload_n 0, 1, 0, 0, 0, 0, .null), (146, .getfield 7, 3, 11, 2, 2, 1025, .null), (149, .iconst 3, 1, 0, 0, 0, 0, .int 3), (150, .iaload, 1, 0, 0, 0, 0, .null), (151, .ireturn, 1, 0, 0, 0, 0, .null), (152, .aload_n 0, 1, 0, 0, 0, 0, .null), (153, .getfield 7, 3, 11, 2, 2, 1025, .null), (156, .iconst 5, 1, 0, 0, 0, 0, .int 5), (157, .iaload, 1, 0, 0, 0, 0, .null), (158, .ireturn, 1, 0, 0, 0, 0, .null), (159, .aload_n 0, 1, 0, 0, 0, 0, .null), (160, .getfield 7, 3, 11, 2, 2, 1025, .null), (163, .bipush 6, 2, 0, 0, 0, 0, .int 6), (165, .iaload, 1, 0, 0, 0, 0, .null), (166, .ireturn, 1, 0, 0, 0, 0, .null), (167, .aload_n 0, 1, 0, 0, 0, 0, .null), (168, .getfield 13, 3, 11, 3, 2, 1026, .null), (171, .iconst 3, 1, 0, 0, 0, 0, .int 3), (172, .iaload, 1, 0, 0, 0, 0, .null), (173, .ireturn, 1, 0, 0, 0, 0, .null), (174, .iload_n 1, 1, 0, 0, 0, 0, .null), (175, .i2l, 1, 0, 0, 0, 0, .null), (176, .ldc2_w 547, 3, 0, 0, 0, 1689, .long 14), (179, .ldc2_w 549, 3, 0, 0, 0, 1690, .long 17), (182, .invokestatic 178, 3, 124, 3, 0, 1221, .ref 6), (185, .ifCond .eq 17, 3, 202, 0, 0, 0, .null), (188, .aload_n 0, 1, 0, 0, 0, 0, .null), (189, .getfield 13, 3, 11, 3, 2, 1026, .null), (192, .iconst 4, 1, 0, 0, 0, 0, .int 4), (193, .iload_n 1, 1, 0, 0, 0, 0, .null), (194, .iadd, 1, 0, 0, 0, 0, .null), (195, .bipush 14, 2, 0, 0, 0, 0, .int 14), (197, .isub, 1, 0, 0, 0, 0, .null), (198, .iaload, 1, 0, 0, 0, 0, .null), (199, .goto 4, 3, 203, 0, 0, 0, .null), (202, .iconst (-1), 1, 0, 0, 0, 0, .int (-1)), (203, .ireturn, 1, 0, 0, 0, 0, .null)]
noncomputable def sm_o239 : List (Nat × sm_E) := [(0, .aload_n 0, 1, 0, 0, 0, 0, .null), (1, .iconst 0, 1, 0, 0, 0, 0, .int 0), (2, .putfield 158, 3, 11, 0, 0, 1023, .null), (5, .aload_n 0, 1, 0, 0, 0, 0, .null), (6, .getfield 161, 3, 11, 1, 0, 1024, .null), (9, .ireturn, 1, 0, 0, 0, 0, .null)]
noncomputable def sm_o240 : List (Nat × sm_E) := [(0, .iload_n 0, 1, 0, 0, 0, 0, .null), (1, .iload_n 0, 1, 0, 0, 0, 0, .null), (2, .iconst 1, 1, 0, 0, 0, 0, .int 1), (3, .iushr, 1, 0, 0, 0, 0, .null), (4, .ldc_w 265, 3, 0, 0, 0, 489, .int 1431655765), (7, .iand, 1, 0, 0, 0, 0, .null), (8, .isub, 1, 0, 0, 0, 0, .null), (9, .istore_n 0, 1, 0, 0, 0, 0, .null), (10, .iload_n 0, 1, 0, 0, 0, 0, .null), (11, .ldc_w 266, 3, 0, 0, 0, 490, .int 858993459), (14, .iand, 1, 0, 0, 0, 0, .null), (15, .iload_n 0, 1, 0, 0, 0, 0, .null), (16, .iconst 2, 1, 0, 0, 0, 0, .int 2), (17, .iushr, 1, 0, 0, 0, 0, .null), (18, .ldc_w 266, 3, 0, 0, 0, 490, .int 858993459), (21, .iand, 1, 0, 0, 0, 0, .null), (22, .iadd, 1, 0, 0, 0, 0, .null), (23, .istore_n 0, 1, 0, 0, 0, 0, .null), (24, .iload_n 0, 1, 0, 0, 0, 0, .null), (25, .iload_n 0, 1, 0, 0, 0, 0, .null), (26, .iconst 4, 1, 0, 0, 0, 0, .int 4), (27, .iushr, 1, 0, 0, 0, 0, .null), (28, .iadd, 1, 0, 0, 0, 0, .null), (29, .ldc_w 267, 3, 0, 0, 0, 491, .int 252645135), (32, .iand, 1, 0, 0, 0, 0, .null), (33, .istore_n 0, 1, 0, 0, 0, 0, .null), (34, .iload_n 0, 1, 0, 0, 0, 0, .null), (35, .iload_n 0, 1, 0, 0, 0, 0, .null), (36, .bipush 8, 2, 0, 0, 0, 0, .int 8), (38, .iushr, 1, 0, 0, 0, 0, .null), (39, .iadd, 1, 0, 0, 0, 0, .null), (40, .istore_n 0, 1, 0, 0, 0, 0, .null), (41, .iload_n 0, 1, 0, 0, 0, 0, .null), (42, .iload_n 0, 1, 0, 0, 0, 0, .null), (43, .bipush 16, 2, 0, 0, 0, 0, .int 16), (45, .iushr, 1, 0, 0, 0, 0, .null), (46, .iadd, 1, 0, 0, 0, 0, .null), (47, .istore_n 0, 1, 0, 0, 0, 0, .null), (48, .iload_n 0, 1, 0, 0, 0, 0, .null), (49, .bipush 63, 2, 0, 0, 0, 0, .int 63), (51, .iand, 1, 0, 0, 0, 0, .null), (52, .ireturn, 1, 0, 0, 0, 0, .null)]
noncomputable def sm_o241 : List (Nat × sm_E) := [(0, .new 7, 3, 10, 19, 0, 20, .null), (3, .dup, 1, 0, 0, 0, 0, .null), (4, .invokespecial 9, 3, 74, 0, 0, 22, .ref 1), (7, .astore_n 1, 1, 0, 0, 0, 0, .null), (8, .new 10, 3, 11, 60, 0, 997, .null), (11, .dup, 1, 0, 0, 0, 0, .null), (12, .invokespecial 12, 3, 123, 0, 0, 999, .ref 1), (15, .astore_n 2, 1, 0, 0, 0, 0, .null), (16, .iconst 0, 1, 0, 0, 0, 0, .int 0), (17, .istore_n 3, 1, 0, 0, 0, 0, .null), (18, .iload_n 3, 1, 0, 0, 0, 0, .null), (19, .aload_n 0, 1, 0, 0, 0, 0, .null), (20, .arraylength, 1, 0, 0, 0, 0, .null), (21, .bipush 6, 2, 0, 0, 0, 0, .int 6), (23, .isub, 1, 0, 0, 0, 0, .null), (24, .if_icmp .gt 1157, 3, 1181, 0, 0, 0, .null), (27, .aload_n 0, 1, 0, 0, 0, 0, .null), (28, .iload_n 3, 1, 0, 0, 0, 0, .null), (29, .iaload, 1, 0, 0, 0, 0, .null), (30, .bipush 63, 2, 0, 0, 0, 0, .int 63), (32, .iand, 1, 0, 0, 0, 0, .null), (33, .tableswitch 1142 0 37 #[167, 200, 233, 276, 309, 372, 395, 408, 421, 434, 447, 460, 473, 496, 519, 542, 565, 578, 591, 614, 647, 680, 713, 736, 779, 812, 835, 868, 881, 894, 917, 951, 994, 1027, 1060, 1083, 1106, 1129], 167, 1175, 0, 0, 0, .null), (200, .aload_n 1, 1, 0, 0, 0, 0, .null), (201, .aload_n 0, 1, 0, 0, 0, 0, .null), (202, .iload_n 3, 1, 0, 0, 0, 0, .null), (203, .iconst 1, 1, 0, 0, 0, 0, .int 1), (204, .iadd, 1, 0, 0, 0, 0, .null), (205, .iaload, 1, 0, 0, 0, 0, .null), (206, .aload_n 0, 1, 0, 0, 0, 0, .null), (207, .iload_n 3, 1, 0, 0, 0, 0, .null), (208, .iconst 2, 1, 0, 0, 0, 0, .int 2), (209, .iadd, 1, 0, 0, 0, 0, .null), (210, .iaload, 1, 0, 0, 0, 0, .null), (211, .invokevirtual 13, 3, 75, 2, 0, 432, .ref 3), (214, .aload_n 2, 1, 0, 0, 0, 0, .null), (215, .aload_n 0, 1, 0, 0, 0, 0, .null), (216, .iload_n 3, 1, 0, 0, 0, 0, .null), (217, .iconst 1, 1, 0, 0, 0, 0, .int 1), (218, .iadd, 1, 0, 0, 0, 0, .null), (219, .iaload, 1, 0, 0, 0, 0, .null), (220, .aload_n 0, 1, 0, 0, 0, 0, .null), (221, .iload_n 3, 1, 0, 0, 0, 0, .null), (222, .iconst 2, 1, 0, 0, 0, 0, .int 2), (223, .iadd, 1, 0, 0, 0, 0, .null), (224, .iaload, 1, 0, 0, 0, 0, .null), (225, .invokevirtual 17, 3, 142, 2, 0, 1232, .ref 3), (228, .if_icmp .eq 947, 3, 1175, 0, 0, 0, .null), (231, .iconst 0, 1, 0, 0, 0, 0, .int 0), (232, .ireturn, 1, 0, 0, 2, 0, .null), (233, .aload_n 1, 1, 0, 0, 0, 0, .null), (234, .aload_n 0, 1, 0, 0, 0, 0, .null), (235, .iload_n 3, 1, 0, 0, 0, 0, .null), (236, .iconst 1, 1, 0, 0, 0, 0, .int 1), (237, .iadd, 1, 0, 0, 0, 0, .null), (238, .iaload, 1, 0, 0, 0, 0, .null), (239, .aload_n 0, 1, 0, 0, 0, 0, .null), (240, .iload_n 3, 1, 0, 0, 0, 0, .null), (241, .iconst 2, 1, 0, 0, 0, 0, .int 2), (242, .iadd, 1, 0, 0, 0, 0, .null), (243, .iaload, 1, 0, 0, 0, 0, .null), (244, .invokevirtual 18, 3, 76, 2, 0, 455, .ref 3), (247, .aload_n 2, 1, 0, 0, 0, 0, .null), (248, .aload_n 0, 1, 0, 0, 0, 0, .null), (249, .iload_n 3, 1, 0, 0, 0, 0, .null), (250, .iconst 1, 1, 0, 0, 0, 0, .int 1), (251, .iadd, 1, 0, 0, 0, 0, .null), (252, .iaload, 1, 0, 0, 0, 0, .null), (253, .aload_n 0, 1, 0, 0, 0, 0, .null), (254, .iload_n 3, 1, 0, 0, 0, 0, .null), (255, .iconst 2, 1, 0, 0, 0, 0, .int 2), (256, .iadd, 1, 0, 0, 0, 0, .null), (257, .iaload, 1, 0, 0, 0, 0, .null), (258, .invokevirtual 21, 3, 143, 2, 0, 1242, .ref 3), (261, .if_icmp .eq 914, 3, 1175, 0, 0, 0, .null), (264, .iconst 0, 1, 0, 0, 0, 0, .int 0), (265, .ireturn, 1, 0, 0, 2, 0, .null), (266, .aload_n 1, 1, 0, 0, 0, 0, .null), (267, .aload_n 0, 1, 0, 0, 0, 0, .null), (268, .iload_n 3, 1, 0, 0, 0, 0, .null), (269, .iconst 1, 1, 0, 0, 0, 0, .int 1), (270, .iadd, 1, 0, 0, 0, 0, .null), (271, .iaload, 1, 0, 0, 0, 0, .null), (272, .aload_n 0, 1, 0, 0, 0, 0, .null), (273, .iload_n 3, 1, 0, 0, 0, 0, .null), (274, .iconst 2, 1, 0, 0, 0, 0, .int 2), (275, .iadd, 1, 0, 0, 0, 0, .null), (276, .iaload, 1, 0, 0, 0, 0, .null), (277, .aload_n 0, 1, 0, 0, 0, 0, .null), (278, .iload_n 3, 1, 0, 0, 0, 0, .null), (279, .iconst 3, 1, 0, 0, 0, 0, .int 3), (280, .iadd, 1, 0, 0, 0, 0, .null), (281, .iaload, 1, 0, 0, 0, 0, .null), (282, .invokevirtual 22, 3, 77, 3, 0, 521, .ref 4), (285, .aload_n 2, 1, 0, 0, 0, 0, .null), (286, .aload_n 0, 1, 0, 0, 0, 0, .null), (287, .iload_n 3, 1, 0, 0, 0, 0, .null), (288, .iconst 1, 1, 0, 0, 0, 0, .int 1), (289, .iadd, 1, 0, 0, 0, 0, .null), (290, .iaload, 1, 0, 0, 0, 0, .null), (291, .aload_n 0, 1, 0, 0, 0, 0, .null), (292, .iload_n 3, 1, 0, 0, 0, 0, .null), (293, .iconst 2, 1, 0, 0, 0, 0, .int 2), (294, .iadd, 1, 0, 0, 0, 0, .null), (295, .iaload, 1, 0, 0, 0, 0, .null), (296, .aload_n 0, 1, 0, 0, 0, 0, .null), (297, .iload_n 3, 1, 0, 0, 0, 0, .null), (298, .iconst 3, 1, 0, 0, 0, 0, .int 3), (299, .iadd, 1, 0, 0, 0, 0, .null), (300, .iaload, 1, 0, 0, 0, 0, .null), (301, .invokevirtual 26, 3, 144, 3, 0, 1299, .ref 4), (304, .if_icmp .eq 871, 3, 1175, 0, 0, 0, .null), (307, .iconst 0, 1, 0, 0, 0, 0, .int 0), (308, .ireturn, 1, 0, 0, 2, 0, .null), (309, .aload_n 1, 1, 0, 0, 0, 0, .null), (310, .aload_n 0, 1, 0, 0, 0, 0, .null), (311, .iload_n 3, 1, 0, 0, 0, 0, .null), (312, .iconst 1, 1, 0, 0, 0, 0, .int 1), (313, .iadd, 1, 0, 0, 0, 0, .null), (314, .iaload, 1, 0, 0, 0, 0, .null), (315, .aload_n 0, 1, 0, 0, 0, 0, .null), (316, .iload_n 3, 1, 0, 0, 0, 0, .null), (317, .iconst 2, 1, 0, 0, 0, 0, .int 2), (318, .iadd, 1, 0, 0, 0, 0, .null), (319, .iaload, 1, 0, 0, 0, 0, .null), (320, .invokevirtual 27, 3, 78, 2, 0, 530, .ref 4), (323, .aload_n 2, 1, 0, 0, 0, 0, .null), (324, .aload_n 0, 1, 0, 0, 0, 0, .null), (325, .iload_n 3, 1, 0, 0, 0, 0, .null), (326, .iconst 1, 1, 0, 0, 0, 0, .int 1), (327, .iadd, 1, 0, 0, 0, 0, .null), (328, .iaload, 1, 0, 0, 0, 0, .null), (329, .aload_n 0, 1, 0, 0, 0, 0, .null), (330, .iload_n 3, 1, 0, 0, 0, 0, .null), (331, .iconst 2, 1, 0, 0, 0, 0, .int 2), (332, .iadd, 1, 0, 0, 0, 0, .null), (333, .iaload, 1, 0, 0, 0, 0, .null), (334, .invokevirtual 30, 3, 145, 2, 0, 1307, .ref 4), (337, .if_icmp .eq 838, 3, 1175, 0, 0, 0, .null), (340, .iconst 0, 1, 0, 0, 0, 0, .int 0), (341, .ireturn, 1, 0, 0, 2, 0, .null), (342, .aload_n 1, 1, 0, 0, 0, 0, .null), (343, .aload_n 0, 1, 0, 0, 0, 0, .null), (344, .iload_n 3, 1, 0, 0, 0, 0, .null), (345, .iconst 1, 1, 0, 0, 0, 0, .int 1), (346, .iadd, 1, 0, 0, 0, 0, .null), (347, .iaload, 1, 0, 0, 0, 0, .null), (348, .aload_n 0, 1, 0, 0, 0, 0, .null), (349, .iload_n 3, 1, 0, 0, 0, 0, .null), (350, .iconst 2, 1, 0, 0, 0, 0, .int 2), (351, .iadd, 1, 0, 0, 0, 0, .null), (352, .iaload, 1, 0, 0, 0, 0, .null), (353, .aload_n 0, 1, 0, 0, 0, 0, .null), (354, .iload_n 3, 1, 0, 0, 0, 0, .null), (355, .iconst 3, 1, 0, 0, 0, 0, .int 3), (356, .iadd, 1, 0, 0, 0, 0, .null), (357, .iaload, 1, 0, 0, 0, 0, .null), (358, .aload_n 0, 1, 0, 0, 0, 0, .null), (359, .iload_n 3, 1, 0, 0, 0, 0, .null), (360, .iconst 4, 1, 0, 0, 0, 0, .int 4), (361, .iadd, 1, 0, 0, 0, 0, .null), (362, .iaload, 1, 0, 0, 0, 0, .null), (363, .aload_n 0, 1, 0, 0, 0, 0, .null), (364, .iload_n 3, 1, 0, 0, 0, 0, .null), (365, .iconst 5, 1, 0, 0, 0, 0, .int 5), (366, .iadd, 1, 0, 0, 0, 0, .null), (367, .iaload, 1, 0, 0, 0, 0, .null), (368, .invokevirtual 31, 3, 79, 5, 0, 535, .ref 6), (371, .aload_n 2, 1, 0, 0, 0, 0, .null), (372, .aload_n 0, 1, 0, 0, 0, 0, .null), (373, .iload_n 3, 1, 0, 0, 0, 0, .null), (374, .iconst 1, 1, 0, 0, 0, 0, .int 1), (375, .iadd, 1, 0, 0, 0, 0, .null), (376, .iaload, 1, 0, 0, 0, 0, .null), (377, .aload_n 0, 1, 0, 0, 0, 0, .null), (378, .iload_n 3, 1, 0, 0, 0, 0, .null), (379, .iconst 2, 1, 0, 0, 0, 0, .int 2), (380, .iadd, 1, 0, 0, 0, 0, .null), (381, .iaload, 1, 0, 0, 0, 0, .null), (382, .aload_n 0, 1, 0, 0, 0, 0, .null), (383, .iload_n 3, 1, 0, 0, 0, 0, .null), (384, .iconst 3, 1, 0, 0, 0, 0, .int 3), (385, .iadd, 1, 0, 0, 0, 0, .null), (386, .iaload, 1, 0, 0, 0, 0, .null), (387, .aload_n 0, 1, 0, 0, 0, 0, .null), (388, .iload_n 3, 1, 0, 0, 0, 0, .null), (389, .iconst 4, 1, 0, 0, 0, 0, .int 4), (390, .iadd, 1, 0, 0, 0, 0, .null), (391, .iaload, 1, 0, 0, 0, 0, .null), (392, .aload_n 0, 1, 0, 0, 0, 0, .null), (393, .iload_n 3, 1, 0, 0, 0, 0, .null), (394, .iconst 5, 1, 0, 0, 0, 0, .int 5), (395, .iadd, 1, 0, 0, 0, 0, .null), (396, .iaload, 1, 0, 0, 0, 0, .null), (397, .invokevirtual 35, 3, 149, 5, 0, 1326, .ref 6), (400, .if_icmp .eq 775, 3, 1175, 0, 0, 0, .null), (403, .iconst 0, 1, 0, 0, 0, 0, .int 0), (404, .ireturn, 1, 0, 0, 2, 0, .null), (405, .aload_n 1, 1, 0, 0, 0, 0, .null), (406, .aload_n 0, 1, 0, 0, 0, 0, .null), (407, .iload_n 3, 1, 0, 0, 0, 0, .null), (408, .iconst 1, 1, 0, 0, 0, 0, .int 1), (409, .iadd, 1, 0, 0, 0, 0, .null), (410, .iaload, 1, 0, 0, 0, 0, .null), (411, .invokevirtual 36, 3, 80, 1, 0, 543, .ref 2), (414, .aload_n 2, 1, 0, 0, 0, 0, .null), (415, .aload_n 0, 1, 0, 0, 0, 0, .null), (416, .iload_n 3, 1, 0, 0, 0, 0, .null), (417, .iconst 1, 1, 0, 0, 0, 0, .int 1), (418, .iadd, 1, 0, 0, 0, 0, .null), (419, .iaload, 1, 0, 0, 0, 0, .null), (420, .invokevirtual 40, 3, 150, 1, 0, 1334, .ref 2), (423, .if_icmp .eq 752, 3, 1175, 0, 0, 0, .null), (426, .iconst 0, 1, 0, 0, 0, 0, .int 0), (427, .ireturn, 1, 0, 0, 2, 0, .null), (428, .aload_n 1, 1, 0, 0, 0, 0, .null), (429, .invokevirtual 41, 3, 81, 0, 0, 547, .ref 5), (432, .aload_n 2, 1, 0, 0, 0, 0, .null), (433, .invokevirtual 45, 3, 146, 0, 0, 1318, .ref 4), (436, .if_icmp .eq 739, 3, 1175, 0, 0, 0, .null), (439, .iconst 0, 1, 0, 0, 0, 0, .int 0), (440, .ireturn, 1, 0, 0, 2, 0, .null), (441, .aload_n 1, 1, 0, 0, 0, 0, .null), (442, .invokevirtual 46, 3, 82, 0, 0, 551, .ref 1), (445, .aload_n 2, 1, 0, 0, 0, 0, .null), (446, .invokevirtual 49, 3, 147, 0, 0, 1322, .ref 1), (449, .if_icmp .eq 726, 3, 1175, 0, 0, 0, .null), (452, .iconst 0, 1, 0, 0, 0, 0, .int 0), (453, .ireturn, 1, 0, 0, 2, 0, .null), (454, .aload_n 1, 1, 0, 0, 0, 0, .null), (455, .invokevirtual 50, 3, 83, 0, 0, 555, .ref 2), (458, .aload_n 2, 1, 0, 0, 0, 0, .null), (459, .invokevirtual 53, 3, 178, 0, 0, 1342, .ref 3), (462, .if_icmp .eq 713, 3, 1175, 0, 0, 0, .null), (465, .iconst 0, 1, 0, 0, 0, 0, .int 0), (466, .ireturn, 1, 0, 0, 2, 0, .null), (467, .aload_n 1, 1, 0, 0, 0, 0, .null), (468, .invokevirtual 54, 3, 84, 0, 0, 691, .ref 2), (471, .aload_n 2, 1, 0, 0, 0, 0, .null), (472, .invokevirtual 57, 3, 231, 0, 0, 1636, .ref 4), (475, .if_icmp .eq 700, 3, 1175, 0, 0, 0, .null), (478, .iconst 0, 1, 0, 0, 0, 0, .int 0), (479, .ireturn, 1, 0, 0, 2, 0, .null), (480, .aload_n 1, 1, 0, 0, 0, 0, .null), (481, .invokevirtual 58, 3, 85, 0, 0, 760, .ref 1), (484, .aload_n 2, 1, 0, 0, 0, 0, .null), (485, .invokevirtual 61, 3, 159, 0, 0, 1338, .ref 1), (488, .if_icmp .eq 687, 3, 1175, 0, 0, 0, .null), (491, .iconst 0, 1, 0, 0, 0, 0, .int 0), (492, .ireturn, 1, 0, 0, 2, 0, .null), (493, .aload_n 1, 1, 0, 0, 0, 0, .null), (494, .invokevirtual 62, 3, 86, 0, 0, 764, .ref 1), (497, .aload_n 2, 1, 0, 0, 0, 0, .null), (498, .invokevirtual 65, 3, 233, 0, 0, 1661, .ref 1), (501, .if_icmp .eq 674, 3, 1175, 0, 0, 0, .null), (504, .iconst 0, 1, 0, 0, 0, 0, .int 0), (505, .ireturn, 1, 0, 0, 2, 0, .null), (506, .aload_n 1, 1, 0, 0, 0, 0, .null), (507, .aload_n 0, 1, 0, 0, 0, 0, .null), (508, .iload_n 3, 1, 0, 0, 0, 0, .null), (509, .iconst 1, 1, 0, 0, 0, 0, .int 1), (510, .iadd, 1, 0, 0, 0, 0, .null), (511, .iaload, 1, 0, 0, 0, 0, .null), (512, .invokevirtual 66, 3, 87, 1, 0, 768, .ref 3), (515, .aload_n 2, 1, 0, 0, 0, 0, .null), (516, .aload_n 0, 1, 0, 0, 0, 0, .null), (517, .iload_n 3, 1, 0, 0, 0, 0, .null), (518, .iconst 1, 1, 0, 0, 0, 0, .int 1), (519, .iadd, 1, 0, 0, 0, 0, .null), (520, .iaload, 1, 0, 0, 0, 0, .null), (521, .invokevirtual 69, 3, 180, 1, 0, 1461, .ref 2), (524, .if_icmp .eq 651, 3, 1175, 0, 0, 0, .null), (527, .iconst 0, 1, 0, 0, 0, 0, .int 0), (528, .ireturn, 1, 0, 0, 2, 0, .null), (529, .aload_n 1, 1, 0, 0, 0, 0, .null), (530, .aload_n 0, 1, 0, 0, 0, 0, .null), (531, .iload_n 3, 1, 0, 0, 0, 0, .null), (532, .iconst 1, 1, 0, 0, 0, 0, .int 1), (533, .iadd, 1, 0, 0, 0, 0, .null), (534, .iaload, 1, 0, 0, 0, 0, .null), (535, .invokevirtual 70, 3, 88, 1, 0, 776, .ref 2), (538, .aload_n 2, 1, 0, 0, 0, 0, .null), (539, .aload_n 0, 1, 0, 0, 0, 0, .null), (540, .iload_n 3, 1, 0, 0, 0, 0, .null), (541, .iconst 1, 1, 0, 0, 0, 0, .int 1), (542, .iadd, 1, 0, 0, 0, 0, .null), (543, .iaload, 1, 0, 0, 0, 0, .null), (544, .invokevirtual 73, 3, 192, 1, 0, 1469, .ref 2), (547, .if_icmp .eq 628, 3, 1175, 0, 0, 0, .null), (550, .iconst 0, 1, 0, 0, 0, 0, .int 0), (551, .ireturn, 1, 0, 0, 2, 0, .null), (552, .aload_n 1, 1, 0, 0, 0, 0, .null), (553, .aload_n 0, 1, 0, 0, 0, 0, .null), (554, .iload_n 3, 1, 0, 0, 0, 0, .null), (555, .iconst 1, 1, 0, 0, 0, 0, .int 1), (556, .iadd, 1, 0, 0, 0, 0, .null), (557, .iaload, 1, 0, 0, 0, 0, .null), (558, .invokevirtual 74, 3, 89, 1, 0, 781, .ref 2), (561, .aload_n 2, 1, 0, 0, 0, 0, .null), (562, .aload_n 0, 1, 0, 0, 0, 0, .null), (563, .iload_n 3, 1, 0, 0, 0, 0, .null), (564, .iconst 1, 1, 0, 0, 0, 0, .int 1), (565, .iadd, 1, 0, 0, 0, 0, .null), (566, .iaload, 1, 0, 0, 0, 0, .null), (567, .invokevirtual 77, 3, 195, 1, 0, 1489, .ref 2), (570, .if_icmp .eq 605, 3, 1175, 0, 0, 0, .null), (573, .iconst 0, 1, 0, 0, 0, 0, .int 0), (574, .ireturn, 1, 0, 0, 2, 0, .null), (575, .aload_n 1, 1, 0, 0, 0, 0, .null), (576, .aload_n 0, 1, 0, 0, 0, 0, .null), (577, .iload_n 3, 1, 0, 0, 0, 0, .null), (578, .iconst 1, 1, 0, 0, 0, 0, .int 1), (579, .iadd, 1, 0, 0, 0, 0, .null), (580, .iaload, 1, 0, 0, 0, 0, .null), (581, .invokevirtual 78, 3, 90, 1, 0, 785, .ref 2), (584, .aload_n 2, 1, 0, 0, 0, 0, .null), (585, .aload_n 0, 1, 0, 0, 0, 0, .null), (586, .iload_n 3, 1, 0, 0, 0, 0, .null), (587, .iconst 1, 1, 0, 0, 0, 0, .int 1), (588, .iadd, 1, 0, 0, 0, 0, .null), (589, .iaload, 1, 0, 0, 0, 0, .null), (590, .invokevirtual 81, 3, 198, 1, 0, 1508, .ref 2), (593, .if_icmp .eq 582, 3, 1175, 0, 0, 0, .null), (596, .iconst 0, 1, 0, 0, 0, 0, .int 0), (597, .ireturn, 1, 0, 0, 2, 0, .null), (598, .aload_n 1, 1, 0, 0, 0, 0, .null), (599, .invokevirtual 82, 3, 91, 0, 0, 789, .ref 1), (602, .aload_n 2, 1, 0, 0, 0, 0, .null), (603, .invokevirtual 85, 3, 201, 0, 0, 1520, .ref 1), (606, .if_icmp .eq 569, 3, 1175, 0, 0, 0, .null), (609, .iconst 0, 1, 0, 0, 0, 0, .int 0), (610, .ireturn, 1, 0, 0, 2, 0, .null), (611, .aload_n 1, 1, 0, 0, 0, 0, .null), (612, .invokevirtual 86, 3, 92, 0, 0, 793, .ref 1), (615, .aload_n 2, 1, 0, 0, 0, 0, .null), (616, .invokevirtual 89, 3, 134, 0, 0, 1205, .ref 1), (619, .if_icmp .eq 556, 3, 1175, 0, 0, 0, .null), (622, .iconst 0, 1, 0, 0, 0, 0, .int 0), (623, .ireturn, 1, 0, 0, 2, 0, .null), (624, .aload_n 1, 1, 0, 0, 0, 0, .null), (625, .aload_n 0, 1, 0, 0, 0, 0, .null), (626, .iload_n 3, 1, 0, 0, 0, 0, .null), (627, .iconst 1, 1, 0, 0, 0, 0, .int 1), (628, .iadd, 1, 0, 0, 0, 0, .null), (629, .iaload, 1, 0, 0, 0, 0, .null), (630, .invokevirtual 90, 3, 93, 1, 0, 801, .ref 3), (633, .aload_n 2, 1, 0, 0, 0, 0, .null), (634, .aload_n 0, 1, 0, 0, 0, 0, .null), (635, .iload_n 3, 1, 0, 0, 0, 0, .null), (636, .iconst 1, 1, 0, 0, 0, 0, .int 1), (637, .iadd, 1, 0, 0, 0, 0, .null), (638, .iaload, 1, 0, 0, 0, 0, .null), (639, .invokevirtual 93, 3, 202, 1, 0, 1532, .ref 4), (642, .if_icmp .eq 533, 3, 1175, 0, 0, 0, .null), (645, .iconst 0, 1, 0, 0, 0, 0, .int 0), (646, .ireturn, 1, 0, 0, 2, 0, .null), (647, .aload_n 1, 1, 0, 0, 0, 0, .null), (648, .aload_n 0, 1, 0, 0, 0, 0, .null), (649, .iload_n 3, 1, 0, 0, 0, 0, .null), (650, .iconst 1, 1, 0, 0, 0, 0, .int 1), (651, .iadd, 1, 0, 0, 0, 0, .null), (652, .iaload, 1, 0, 0, 0, 0, .null), (653, .aload_n 0, 1, 0, 0, 0, 0, .null), (654, .iload_n 3, 1, 0, 0, 0, 0, .null), (655, .iconst 2, 1, 0, 0, 0, 0, .int 2), (656, .iadd, 1, 0, 0, 0, 0, .null), (657, .iaload, 1, 0, 0, 0, 0, .null), (658, .invokevirtual 94, 3, 94, 2, 0, 811, .ref 4), (661, .aload_n 2, 1, 0, 0, 0, 0, .null), (662, .aload_n 0, 1, 0, 0, 0, 0, .null), (663, .iload_n 3, 1, 0, 0, 0, 0, .null), (664, .iconst 1, 1, 0, 0, 0, 0, .int 1), (665, .iadd, 1, 0, 0, 0, 0, .null), (666, .iaload, 1, 0, 0, 0, 0, .null), (667, .aload_n 0, 1, 0, 0, 0, 0, .null), (668, .iload_n 3, 1, 0, 0, 0, 0, .null), (669, .iconst 2, 1, 0, 0, 0, 0, .int 2), (670, .iadd, 1, 0, 0, 0, 0, .null), (671, .iaload, 1, 0, 0, 0, 0, .null), (672, .invokevirtual 97, 3, 203, 2, 0, 1536, .ref 4), (675, .if_icmp .eq 500, 3, 1175, 0, 0, 0, .null), (678, .iconst 0, 1, 0, 0, 0, 0, .int 0), (679, .ireturn, 1, 0, 0, 2, 0, .null), (680, .aload_n 1, 1, 0, 0, 0, 0, .null), (681, .aload_n 0, 1, 0, 0, 0, 0, .null), (682, .iload_n 3, 1, 0, 0, 0, 0, .null), (683, .iconst 1, 1, 0, 0, 0, 0, .int 1), (684, .iadd, 1, 0, 0, 0, 0, .null), (685, .iaload, 1, 0, 0, 0, 0, .null), (686, .aload_n 0, 1, 0, 0, 0, 0, .null), (687, .iload_n 3, 1, 0, 0, 0, 0, .null), (688, .iconst 2, 1, 0, 0, 0, 0, .int 2), (689, .iadd, 1, 0, 0, 0, 0, .null), (690, .iaload, 1, 0, 0, 0, 0, .null), (691, .invokevirtual 98, 3, 95, 2, 0, 815, .ref 7), (694, .aload_n 2, 1, 0, 0, 0, 0, .null), (695, .aload_n 0, 1, 0, 0, 0, 0, .null), (696, .iload_n 3, 1, 0, 0, 0, 0, .null), (697, .iconst 1, 1, 0, 0, 0, 0, .int 1), (698, .iadd, 1, 0, 0, 0, 0, .null), (699, .iaload, 1, 0, 0, 0, 0, .null), (700, .aload_n 0, 1, 0, 0, 0, 0, .null), (701, .iload_n 3, 1, 0, 0, 0, 0, .null), (702, .iconst 2, 1, 0, 0, 0, 0, .int 2), (703, .iadd, 1, 0, 0, 0, 0, .null), (704, .iaload, 1, 0, 0, 0, 0, .null), (705, .invokevirtual 101, 3, 204, 2, 0, 1541, .ref 7), (708, .if_icmp .eq 467, 3, 1175, 0, 0, 0, .null), (711, .iconst 0, 1, 0, 0, 0, 0, .int 0), (712, .ireturn, 1, 0, 0, 2, 0, .null), (713, .aload_n 1, 1, 0, 0, 0, 0, .null), (714, .aload_n 0, 1, 0, 0, 0, 0, .null), (715, .iload_n 3, 1, 0, 0, 0, 0, .null), (716, .iconst 1, 1, 0, 0, 0, 0, .int 1), (717, .iadd, 1, 0, 0, 0, 0, .null), (718, .iaload, 1, 0, 0, 0, 0, .null), (719, .aload_n 0, 1, 0, 0, 0, 0, .null), (720, .iload_n 3, 1, 0, 0, 0, 0, .null), (721, .iconst 2, 1, 0, 0, 0, 0, .int 2), (722, .iadd, 1, 0, 0, 0, 0, .null), (723, .iaload, 1, 0, 0, 0, 0, .null), (724, .invokevirtual 102, 3, 96, 2, 0, 819, .ref 3), (727, .aload_n 2, 1, 0, 0, 0, 0, .null), (728, .aload_n 0, 1, 0, 0, 0, 0, .null), (729, .iload_n 3, 1, 0, 0, 0, 0, .null), (730, .iconst 1, 1, 0, 0, 0, 0, .int 1), (731, .iadd, 1, 0, 0, 0, 0, .null), (732, .iaload, 1, 0, 0, 0, 0, .null), (733, .aload_n 0, 1, 0, 0, 0, 0, .null), (734, .iload_n 3, 1, 0, 0, 0, 0, .null), (735, .iconst 2, 1, 0, 0, 0, 0, .int 2), (736, .iadd, 1, 0, 0, 0, 0, .null), (737, .iaload, 1, 0, 0, 0, 0, .null), (738, .invokevirtual 105, 3, 209, 2, 0, 1546, .ref 3), (741, .if_icmp .eq 434, 3, 1175, 0, 0, 0, .null), (744, .iconst 0, 1, 0, 0, 0, 0, .int 0), (745, .ireturn, 1, 0, 0, 2, 0, .null), (746, .aload_n 1, 1, 0, 0, 0, 0, .null), (747, .aload_n 0, 1, 0, 0, 0, 0, .null), (748, .iload_n 3, 1, 0, 0, 0, 0, .null), (749, .iconst 1, 1, 0, 0, 0, 0, .int 1), (750, .iadd, 1, 0, 0, 0, 0, .null), (751, .iaload, 1, 0, 0, 0, 0, .null), (752, .invokevirtual 106, 3, 97, 1, 0, 853, .ref 2), (755, .aload_n 2, 1, 0, 0, 0, 0, .null), (756, .aload_n 0, 1, 0, 0, 0, 0, .null), (757, .iload_n 3, 1, 0, 0, 0, 0, .null), (758, .iconst 1, 1, 0, 0, 0, 0, .int 1), (759, .iadd, 1, 0, 0, 0, 0, .null), (760, .iaload, 1, 0, 0, 0, 0, .null), (761, .invokevirtual 109, 3, 213, 1, 0, 1567, .ref 7), (764, .if_icmp .eq 411, 3, 1175, 0, 0, 0, .null), (767, .iconst 0, 1, 0, 0, 0, 0, .int 0), (768, .ireturn, 1, 0, 0, 2, 0, .null), (769, .aload_n 1, 1, 0, 0, 0, 0, .null), (770, .aload_n 0, 1, 0, 0, 0, 0, .null), (771, .iload_n 3, 1, 0, 0, 0, 0, .null), (772, .iconst 1, 1, 0, 0, 0, 0, .int 1), (773, .iadd, 1, 0, 0, 0, 0, .null), (774, .iaload, 1, 0, 0, 0, 0, .null), (775, .aload_n 0, 1, 0, 0, 0, 0, .null), (776, .iload_n 3, 1, 0, 0, 0, 0, .null), (777, .iconst 2, 1, 0, 0, 0, 0, .int 2), (778, .iadd, 1, 0, 0, 0, 0, .null), (779, .iaload, 1, 0, 0, 0, 0, .null), (780, .aload_n 0, 1, 0, 0, 0, 0, .null), (781, .iload_n 3, 1, 0, 0, 0, 0, .null), (782, .iconst 3, 1, 0, 0, 0, 0, .int 3), (783, .iadd, 1, 0, 0, 0, 0, .null), (784, .iaload, 1, 0, 0, 0, 0, .null), (785, .invokevirtual 110, 3, 98, 3, 0, 875, .ref 5), (788, .aload_n 2, 1, 0, 0, 0, 0, .null), (789, .aload_n 0, 1, 0, 0, 0, 0, .null), (790, .iload_n 3, 1, 0, 0, 0, 0, .null), (791, .iconst 1, 1, 0, 0, 0, 0, .int 1), (792, .iadd, 1, 0, 0, 0, 0, .null), (793, .iaload, 1, 0, 0, 0, 0, .null), (794, .aload_n 0, 1, 0, 0, 0, 0, .null), (795, .iload_n 3, 1, 0, 0, 0, 0, .null), (796, .iconst 2, 1, 0, 0, 0, 0, .int 2), (797, .iadd, 1, 0, 0, 0, 0, .null), (798, .iaload, 1, 0, 0, 0, 0, .null), (799, .aload_n 0, 1, 0, 0, 0, 0, .null), (800, .iload_n 3, 1, 0, 0, 0, 0, .null), (801, .iconst 3, 1, 0, 0, 0, 0, .int 3), (802, .iadd, 1, 0, 0, 0, 0, .null), (803, .iaload, 1, 0, 0, 0, 0, .null), (804, .invokevirtual 113, 3, 216, 3, 0, 1583, .ref 7), (807, .if_icmp .eq 368, 3, 1175, 0, 0, 0, .null), (810, .iconst 0, 1, 0, 0, 0, 0, .int 0), (811, .ireturn, 1, 0, 0, 2, 0, .null), (812, .aload_n 1, 1, 0, 0, 0, 0, .null), (813, .aload_n 0, 1, 0, 0, 0, 0, .null), (814, .iload_n 3, 1, 0, 0, 0, 0, .null), (815, .iconst 1, 1, 0, 0, 0, 0, .int 1), (816, .iadd, 1, 0, 0, 0, 0, .null), (817, .iaload, 1, 0, 0, 0, 0, .null), (818, .aload_n 0, 1, 0, 0, 0, 0, .null), (819, .iload_n 3, 1, 0, 0, 0, 0, .null), (820, .iconst 2, 1, 0, 0, 0, 0, .int 2), (821, .iadd, 1, 0, 0, 0, 0, .null), (822, .iaload, 1, 0, 0, 0, 0, .null), (823, .invokevirtual 114, 3, 99, 2, 0, 892, .ref 3), (826, .aload_n 2, 1, 0, 0, 0, 0, .null), (827, .aload_n 0, 1, 0, 0, 0, 0, .null), (828, .iload_n 3, 1, 0, 0, 0, 0, .null), (829, .iconst 1, 1, 0, 0, 0, 0, .int 1), (830, .iadd, 1, 0, 0, 0, 0, .null), (831, .iaload, 1, 0, 0, 0, 0, .null), (832, .aload_n 0, 1, 0, 0, 0, 0, .null), (833, .iload_n 3, 1, 0, 0, 0, 0, .null), (834, .iconst 2, 1, 0, 0, 0, 0, .int 2), (835, .iadd, 1, 0, 0, 0, 0, .null), (836, .iaload, 1, 0, 0, 0, 0, .null), (837, .invokevirtual 117, 3, 218, 2, 0, 1595, .ref 6), (840, .if_icmp .eq 335, 3, 1175, 0, 0, 0, .null), (843, .iconst 0, 1, 0, 0, 0, 0, .int 0), (844, .ireturn, 1, 0, 0, 2, 0, .null), (845, .aload_n 1, 1, 0, 0, 0, 0, .null), (846, .aload_n 0, 1, 0, 0, 0, 0, .null), (847, .iload_n 3, 1, 0, 0, 0, 0, .null), (848, .iconst 1, 1, 0, 0, 0, 0, .int 1), (849, .iadd, 1, 0, 0, 0, 0, .null), (850, .iaload, 1, 0, 0, 0, 0, .null), (851, .invokevirtual 118, 3, 100, 1, 0, 910, .ref 4), (854, .aload_n 2, 1, 0, 0, 0, 0, .null), (855, .aload_n 0, 1, 0, 0, 0, 0, .null), (856, .iload_n 3, 1, 0, 0, 0, 0, .null), (857, .iconst 1, 1, 0, 0, 0, 0, .int 1), (858, .iadd, 1, 0, 0, 0, 0, .null), (859, .iaload, 1, 0, 0, 0, 0, .null), (860, .invokevirtual 121, 3, 219, 1, 0, 1603, .ref 6), (863, .if_icmp .eq 312, 3, 1175, 0, 0, 0, .null), (866, .iconst 0, 1, 0, 0, 0, 0, .int 0), (867, .ireturn, 1, 0, 0, 2, 0, .null), (868, .aload_n 1, 1, 0, 0, 0, 0, .null), (869, .aload_n 0, 1, 0, 0, 0, 0, .null), (870, .iload_n 3, 1, 0, 0, 0, 0, .null), (871, .iconst 1, 1, 0, 0, 0, 0, .int 1), (872, .iadd, 1, 0, 0, 0, 0, .null), (873, .iaload, 1, 0, 0, 0, 0, .null), (874, .aload_n 0, 1, 0, 0, 0, 0, .null), (875, .iload_n 3, 1, 0, 0, 0, 0, .null), (876, .iconst 2, 1, 0, 0, 0, 0, .int 2), (877, .iadd, 1, 0, 0, 0, 0, .null), (878, .iaload, 1, 0, 0, 0, 0, .null), (879, .invokevirtual 122, 3, 101, 2, 0, 914, .ref 3), (882, .aload_n 2, 1, 0, 0, 0, 0, .null), (883, .aload_n 0, 1, 0, 0, 0, 0, .null), (884, .iload_n 3, 1, 0, 0, 0, 0, .null), (885, .iconst 1, 1, 0, 0, 0, 0, .int 1), (886, .iadd, 1, 0, 0, 0, 0, .null), (887, .iaload, 1, 0, 0, 0, 0, .null), (888, .aload_n 0, 1, 0, 0, 0, 0, .null), (889, .iload_n 3, 1, 0, 0, 0, 0, .null), (890, .iconst 2, 1, 0, 0, 0, 0, .int 2), (891, .iadd, 1, 0, 0, 0, 0, .null), (892, .iaload, 1, 0, 0, 0, 0, .null), (893, .invokevirtual 125, 3, 221, 2, 0, 1611, .ref 4), (896, .if_icmp .eq 279, 3, 1175, 0, 0, 0, .null), (899, .iconst 0, 1, 0, 0, 0, 0, .int 0), (900, .ireturn, 1, 0, 0, 2, 0, .null), (901, .aload_n 1, 1, 0, 0, 0, 0, .null), (902, .invokevirtual 126, 3, 102, 0, 0, 918, .ref 2), (905, .aload_n 2, 1, 0, 0, 0, 0, .null), (906, .invokevirtual 129, 3, 222, 0, 0, 1615, .ref 2), (909, .if_icmp .eq 266, 3, 1175, 0, 0, 0, .null), (912, .iconst 0, 1, 0, 0, 0, 0, .int 0), (913, .ireturn, 1, 0, 0, 2, 0, .null), (914, .aload_n 1, 1, 0, 0, 0, 0, .null), (915, .invokevirtual 130, 3, 103, 0, 0, 922, .ref 1), (918, .aload_n 2, 1, 0, 0, 0, 0, .null), (919, .invokevirtual 133, 3, 224, 0, 0, 1619, .ref 1), (922, .if_icmp .eq 253, 3, 1175, 0, 0, 0, .null), (925, .iconst 0, 1, 0, 0, 0, 0, .int 0), (926, .ireturn, 1, 0, 0, 2, 0, .null), (927, .aload_n 1, 1, 0, 0, 0, 0, .null), (928, .aload_n 0, 1, 0, 0, 0, 0, .null), (929, .iload_n 3, 1, 0, 0, 0, 0, .null), (930, .iconst 1, 1, 0, 0, 0, 0, .int 1), (931, .iadd, 1, 0, 0, 0, 0, .null), (932, .iaload, 1, 0, 0, 0, 0, .null), (933, .invokevirtual 134, 3, 104, 1, 0, 930, .ref 5), (936, .aload_n 2, 1, 0, 0, 0, 0, .null), (937, .aload_n 0, 1, 0, 0, 0, 0, .null), (938, .iload_n 3, 1, 0, 0, 0, 0, .null), (939, .iconst 1, 1, 0, 0, 0, 0, .int 1), (940, .iadd, 1, 0, 0, 0, 0, .null), (941, .iaload, 1, 0, 0, 0, 0, .null), (942, .invokevirtual 137, 3, 225, 1, 0, 1627, .ref 9), (945, .if_icmp .eq 230, 3, 1175, 0, 0, 0, .null), (948, .iconst 0, 1, 0, 0, 0, 0, .int 0), (949, .ireturn, 1, 0, 0, 2, 0, .null), (950, .aload_n 1, 1, 0, 0, 0, 0, .null), (951, .aload_n 0, 1, 0, 0, 0, 0, .null), (952, .iload_n 3, 1, 0, 0, 0, 0, .null), (953, .iconst 1, 1, 0, 0, 0, 0, .int 1), (954, .iadd, 1, 0, 0, 0, 0, .null), (955, .iaload, 1, 0, 0, 0, 0, .null), (956, .aload_n 0, 1, 0, 0, 0, 0, .null), (957, .iload_n 3, 1, 0, 0, 0, 0, .null), (958, .iconst 2, 1, 0, 0, 0, 0, .int 2), (959, .iadd, 1, 0, 0, 0, 0, .null), (960, .iaload, 1, 0, 0, 0, 0, .null), (961, .invokevirtual 138, 3, 105, 2, 0, 939, .ref 11), (964, .aload_n 2, 1, 0, 0, 0, 0, .null), (965, .aload_n 0, 1, 0, 0, 0, 0, .null), (966, .iload_n 3, 1, 0, 0, 0, 0, .null), (967, .iconst 1, 1, 0, 0, 0, 0, .int 1), (968, .iadd, 1, 0, 0, 0, 0, .null), (969, .iaload, 1, 0, 0, 0, 0, .null), (970, .aload_n 0, 1, 0, 0, 0, 0, .null), (971, .iload_n 3, 1, 0, 0, 0, 0, .null), (972, .iconst 2, 1, 0, 0, 0, 0, .int 2), (973, .iadd, 1, 0, 0, 0, 0, .null), (974, .iaload, 1, 0, 0, 0, 0, .null), (975, .invokevirtual 142, 3, 226, 2, 0, 1631, .ref 8), (978, .lcmp, 1, 0, 0, 0, 0, .null), (979, .ifCond .eq 196, 3, 1175, 0, 0, 0, .null), (982, .iconst 0, 1, 0, 0, 0, 0, .int 0), (983, .ireturn, 1, 0, 0, 2, 0, .null), (984, .aload_n 1, 1, 0, 0, 0, 0, .null), (985, .aload_n 0, 1, 0, 0, 0, 0, .null), (986, .iload_n 3, 1, 0, 0, 0, 0, .null), (987, .iconst 1, 1, 0, 0, 0, 0, .int 1), (988, .iadd, 1, 0, 0, 0, 0, .null), (989, .iaload, 1, 0, 0, 0, 0, .null), (990, .aload_n 0, 1, 0, 0, 0, 0, .null), (991, .iload_n 3, 1, 0, 0, 0, 0, .null), (992, .iconst 2, 1, 0, 0, 0, 0, .int 2), (993, .iadd, 1, 0, 0, 0, 0, .null), (994, .iaload, 1, 0, 0, 0, 0, .null), (995, .aload_n 0, 1, 0, 0, 0, 0, .null), (996, .iload_n 3, 1, 0, 0, 0, 0, .null), (997, .iconst 3, 1, 0, 0, 0, 0, .int 3), (998, .iadd, 1, 0, 0, 0, 0, .null), (999, .iaload, 1, 0, 0, 0, 0, .null), (1000, .invokevirtual 143, 3, 106, 3, 0, 946, .ref 4), (1003, .aload_n 2, 1, 0, 0, 0, 0, .null), (1004, .aload_n 0, 1, 0, 0, 0, 0, .null), (1005, .iload_n 3, 1, 0, 0, 0, 0, .null), (1006, .iconst 1, 1, 0, 0, 0, 0, .int 1), (1007, .iadd, 1, 0, 0, 0, 0, .null), (1008, .iaload, 1, 0, 0, 0, 0, .null), (1009, .aload_n 0, 1, 0, 0, 0, 0, .null), (1010, .iload_n 3, 1, 0, 0, 0, 0, .null), (1011, .iconst 2, 1, 0, 0, 0, 0, .int 2), (1012, .iadd, 1, 0, 0, 0, 0, .null), (1013, .iaload, 1, 0, 0, 0, 0, .null), (1014, .aload_n 0, 1, 0, 0, 0, 0, .null), (1015, .iload_n 3, 1, 0, 0, 0, 0, .null), (1016, .iconst 3, 1, 0, 0, 0, 0, .int 3), (1017, .iadd, 1, 0, 0, 0, 0, .null), (1018, .iaload, 1, 0, 0, 0, 0, .null), (1019, .invokevirtual 146, 3, 220, 3, 0, 1607, .ref 6), (1022, .if_icmp .eq 153, 3, 1175, 0, 0, 0, .null), (1025, .iconst 0, 1, 0, 0, 0, 0, .int 0), (1026, .ireturn, 1, 0, 0, 2, 0, .null), (1027, .aload_n 1, 1, 0, 0, 0, 0, .null), (1028, .aload_n 0, 1, 0, 0, 0, 0, .null), (1029, .iload_n 3, 1, 0, 0, 0, 0, .null), (1030, .iconst 1, 1, 0, 0, 0, 0, .int 1), (1031, .iadd, 1, 0, 0, 0, 0, .null), (1032, .iaload, 1, 0, 0, 0, 0, .null), (1033, .aload_n 0, 1, 0, 0, 0, 0, .null), (1034, .iload_n 3, 1, 0, 0, 0, 0, .null), (1035, .iconst 2, 1, 0, 0, 0, 0, .int 2), (1036, .iadd, 1, 0, 0, 0, 0, .null), (1037, .iaload, 1, 0, 0, 0, 0, .null), (1038, .invokevirtual 147, 3, 107, 2, 0, 951, .ref 3), (1041, .aload_n 2, 1, 0, 0, 0, 0, .null), (1042, .aload_n 0, 1, 0, 0, 0, 0, .null), (1043, .iload_n 3, 1, 0, 0, 0, 0, .null), (1044, .iconst 1, 1, 0, 0, 0, 0, .int 1), (1045, .iadd, 1, 0, 0, 0, 0, .null), (1046, .iaload, 1, 0, 0, 0, 0, .null), (1047, .aload_n 0, 1, 0, 0, 0, 0, .null), (1048, .iload_n 3, 1, 0, 0, 0, 0, .null), (1049, .iconst 2, 1, 0, 0, 0, 0, .int 2), (1050, .iadd, 1, 0, 0, 0, 0, .null), (1051, .iaload, 1, 0, 0, 0, 0, .null), (1052, .invokevirtual 150, 3, 236, 2, 0, 1665, .ref 7), (1055, .if_icmp .eq 120, 3, 1175, 0, 0, 0, .null), (1058, .iconst 0, 1, 0, 0, 0, 0, .int 0), (1059, .ireturn, 1, 0, 0, 2, 0, .null), (1060, .aload_n 1, 1, 0, 0, 0, 0, .null), (1061, .aload_n 0, 1, 0, 0, 0, 0, .null), (1062, .iload_n 3, 1, 0, 0, 0, 0, .null), (1063, .iconst 1, 1, 0, 0, 0, 0, .int 1), (1064, .iadd, 1, 0, 0, 0, 0, .null), (1065, .iaload, 1, 0, 0, 0, 0, .null), (1066, .aload_n 0, 1, 0, 0, 0, 0, .null), (1067, .iload_n 3, 1, 0, 0, 0, 0, .null), (1068, .iconst 2, 1, 0, 0, 0, 0, .int 2), (1069, .iadd, 1, 0, 0, 0, 0, .null), (1070, .iaload, 1, 0, 0, 0, 0, .null), (1071, .invokevirtual 151, 3, 108, 2, 0, 968, .ref 3), (1074, .aload_n 2, 1, 0, 0, 0, 0, .null), (1075, .aload_n 0, 1, 0, 0, 0, 0, .null), (1076, .iload_n 3, 1, 0, 0, 0, 0, .null), (1077, .iconst 1, 1, 0, 0, 0, 0, .int 1), (1078, .iadd, 1, 0, 0, 0, 0, .null), (1079, .iaload, 1, 0, 0, 0, 0, .null), (1080, .aload_n 0, 1, 0, 0, 0, 0, .null), (1081, .iload_n 3, 1, 0, 0, 0, 0, .null), (1082, .iconst 2, 1, 0, 0, 0, 0, .int 2), (1083, .iadd, 1, 0, 0, 0, 0, .null), (1084, .iaload, 1, 0, 0, 0, 0, .null), (1085, .invokevirtual 154, 3, 237, 2, 0, 1680, .ref 3), (1088, .if_icmp .eq 87, 3, 1175, 0, 0, 0, .null), (1091, .iconst 0, 1, 0, 0, 0, 0, .int 0), (1092, .ireturn, 1, 0, 0, 2, 0, .null), (1093, .aload_n 1, 1, 0, 0, 0, 0, .null), (1094, .aload_n 0, 1, 0, 0, 0, 0, .null), (1095, .iload_n 3, 1, 0, 0, 0, 0, .null), (1096, .iconst 1, 1, 0, 0, 0, 0, .int 1), (1097, .iadd, 1, 0, 0, 0, 0, .null), (1098, .iaload, 1, 0, 0, 0, 0, .null), (1099, .invokevirtual 155, 3, 109, 1, 0, 972, .ref 2), (1102, .aload_n 2, 1, 0, 0, 0, 0, .null), (1103, .aload_n 0, 1, 0, 0, 0, 0, .null), (1104, .iload_n 3, 1, 0, 0, 0, 0, .null), (1105, .iconst 1, 1, 0, 0, 0, 0, .int 1), (1106, .iadd, 1, 0, 0, 0, 0, .null), (1107, .iaload, 1, 0, 0, 0, 0, .null), (1108, .invokevirtual 158, 3, 135, 1, 0, 1217, .ref 3), (1111, .if_icmp .eq 64, 3, 1175, 0, 0, 0, .null), (1114, .iconst 0, 1, 0, 0, 0, 0, .int 0), (1115, .ireturn, 1, 0, 0, 2, 0, .null), (1116, .aload_n 1, 1, 0, 0, 0, 0, .null), (1117, .aload_n 0, 1, 0, 0, 0, 0, .null), (1118, .iload_n 3, 1, 0, 0, 0, 0, .null), (1119, .iconst 1, 1, 0, 0, 0, 0, .int 1), (1120, .iadd, 1, 0, 0, 0, 0, .null), (1121, .iaload, 1, 0, 0, 0, 0, .null), (1122, .invokevirtual 159, 3, 110, 1, 0, 985, .ref 2), (1125, .aload_n 2, 1, 0, 0, 0, 0, .null), (1126, .aload_n 0, 1, 0, 0, 0, 0, .null), (1127, .iload_n 3, 1, 0, 0, 0, 0, .null), (1128, .iconst 1, 1, 0, 0, 0, 0, .int 1), (1129, .iadd, 1, 0, 0, 0, 0, .null), (1130, .iaload, 1, 0, 0, 0, 0, .null), (1131, .invokevirtual 162, 3, 136, 1, 0, 1224, .ref 3), (1134, .if_icmp .eq 41, 3, 1175, 0, 0, 0, .null), (1137, .iconst 0, 1, 0, 0, 0, 0, .int 0), (1138, .ireturn, 1, 0, 0, 2, 0, .null), (1139, .aload_n 1, 1, 0, 0, 0, 0, .null), (1140, .aload_n 0, 1, 0, 0, 0, 0, .null), (1141, .iload_n 3, 1, 0, 0, 0, 0, .null), (1142, .iconst 1, 1, 0, 0, 0, 0, .int 1), (1143, .iadd, 1, 0, 0, 0, 0, .null), (1144, .iaload, 1, 0, 0, 0, 0, .null), (1145, .invokevirtual 163, 3, 111, 1, 0, 989, .ref 2), (1148, .aload_n 2, 1, 0, 0, 0, 0, .null), (1149, .aload_n 0, 1, 0, 0, 0, 0, .null), (1150, .iload_n 3, 1, 0, 0, 0, 0, .null), (1151, .iconst 1, 1, 0, 0, 0, 0, .int 1), (1152, .iadd, 1, 0, 0, 0, 0, .null), (1153, .iaload, 1, 0, 0, 0, 0, .null), (1154, .invokevirtual 166, 3, 238, 1, 0, 1685, .ref 2), (1157, .if_icmp .eq 18, 3, 1175, 0, 0, 0, .null), (1160, .iconst 0, 1, 0, 0, 0, 0, .int 0), (1161, .ireturn, 1, 0, 0, 2, 0, .null), (1162, .aload_n 1, 1, 0, 0, 0, 0, .null), (1163, .invokevirtual 167, 3, 112, 0, 0, 993, .ref 1), (1166, .aload_n 2, 1, 0, 0, 0, 0, .null), (1167, .invokevirtual 170, 3, 239, 0, 0, 1691, .ref 1), (1170, .if_icmp .eq 5, 3, 1175, 0, 0, 0, .null), (1173, .iconst 0, 1, 0, 0, 0, 0, .int 0), (1174, .ireturn, 1, 0, 0, 2, 0, .null), (1175, .iinc 3 6, 3, 0, 0, 0, 0, .int 6), (1178, .goto (-1160), 3, 18, 0, 0, 0, .null), (1181, .iconst 1, 1, 0, 0, 0, 0, .int 1), (1182, .ireturn, 1, 0, 0, 2, 0, .null)]
noncomputable def sm_cds : List (List (Nat × sm_E)) := [sm_o0, sm_o1, sm_o2, sm_o3, sm_o4, sm_o5, sm_o6, sm_o7, sm_o8, sm_o9, sm_o10, sm_o11, sm_o12, sm_o13, sm_o14, sm_o15, sm_o16, sm_o17, sm_o18, sm_o19, sm_o20, sm_o21, sm_o22, sm_o23, sm_o24, sm_o25, sm_o26, sm_o27, sm_o28, sm_o29, sm_o30, sm_o31, sm_o32, sm_o33, sm_o34, sm_o35, sm_o36, sm_o37, sm_o38, sm_o39, sm_o40, sm_o41, sm_o42, sm_o43, sm_o44, sm_o45, sm_o46, sm_o47, sm_o48, sm_o49, sm_o50, sm_o51, sm_o52, sm_o53, sm_o54, sm_o55, sm_o56, sm_o57, sm_o58, sm_o59, sm_o60, sm_o61, sm_o62, sm_o63, sm_o64, sm_o65, sm_o66, sm_o67, sm_o68, sm_o69, sm_o70, sm_o71, sm_o72, sm_o73, sm_o74, sm_o75, sm_o76, sm_o77, sm_o78, sm_o79, sm_o80, sm_o81, sm_o82, sm_o83, sm_o84, sm_o85, sm_o86, sm_o87, sm_o88, sm_o89, sm_o90, sm_o91, sm_o92, sm_o93, sm_o94, sm_o95, sm_o96, sm_o97, sm_o98, sm_o99, sm_o100, sm_o101, sm_o102, sm_o103, sm_o104, sm_o105, sm_o106, sm_o107, sm_o108, sm_o109, sm_o110, sm_o111, sm_o112, sm_o113, sm_o114, sm_o115, sm_o116, sm_o117, sm_o118, sm_o119, sm_o120, sm_o121, sm_o122, sm_o123, sm_o124, sm_o125, sm_o126, sm_o127, sm_o128, sm_o129, sm_o130, sm_o131, sm_o132, sm_o133, sm_o134, sm_o135, sm_o136, sm_o137, sm_o138, sm_o139, sm_o140, sm_o141, sm_o142, sm_o143, sm_o144, sm_o145, sm_o146, sm_o147, sm_o148, sm_o149, sm_o150, sm_o151, sm_o152, sm_o153, sm_o154, sm_o155, sm_o156, sm_o157, sm_o158, sm_o159, sm_o160, sm_o161, sm_o162, sm_o163, sm_o164, sm_o165, sm_o166, sm_o167, sm_o168, sm_o169, sm_o170, sm_o171, sm_o172, sm_o173, sm_o174, sm_o175, sm_o176, sm_o177, sm_o178, sm_o179, sm_o180, sm_o181, sm_o182, sm_o183, sm_o184, sm_o185, sm_o186, sm_o187, sm_o188, sm_o189, sm_o190, sm_o191, sm_o192, sm_o193, sm_o194, sm_o195, sm_o196, sm_o197, sm_o198, sm_o199, sm_o200, sm_o201, sm_o202, sm_o203, sm_o204, sm_o205, sm_o206, sm_o207, sm_o208, sm_o209, sm_o210, sm_o211, sm_o212, sm_o213, sm_o214, sm_o215, sm_o216, sm_o217, sm_o218, sm_o219, sm_o220, sm_o221, sm_o222, sm_o223, sm_o224, sm_o225, sm_o226, sm_o227, sm_o228, sm_o229, sm_o230, sm_o231, sm_o232, sm_o233, sm_o234, sm_o235, sm_o236, sm_o237, sm_o238, sm_o239, sm_o240, sm_o241]
noncomputable def sm_cd (k : Nat) : List (Nat × sm_E) := sm_nth [] sm_cds k
abbrev K_X0_init : Nat := 0
abbrev K_X0_copyFrom : Nat := 1
abbrev K_X0_isLawOrNone : Nat := 2
abbrev K_X0_lawOrNone : Nat := 3
abbrev K_X0_inForce : Nat := 4
abbrev K_X1_init : Nat := 5
abbrev K_X1_act : Nat := 6
abbrev K_X1_run : Nat := 7
abbrev K_X1_runOnce : Nat := 8
abbrev K_X1_setWords : Nat := 9
abbrev K_X2_init : Nat := 10
abbrev K_X2_works : Nat := 11
abbrev K_X2_join : Nat := 12
abbrev K_X3_init : Nat := 13
abbrev K_X3_lookAtAll : Nat := 14
abbrev K_X3_arrange : Nat := 15
abbrev K_X3_place : Nat := 16
abbrev K_X3_measure : Nat := 17
abbrev K_X3_nextTo : Nat := 18
abbrev K_X3_along : Nat := 19
abbrev K_X4_init : Nat := 20
abbrev K_X4_clear : Nat := 21
abbrev K_X4_copyFrom : Nat := 22
abbrev K_X4_keep : Nat := 23
abbrev K_X4_takeBack : Nat := 24
abbrev K_X5_init : Nat := 25
abbrev K_X5_told : Nat := 26
abbrev K_X5_setWords : Nat := 27
abbrev K_X5_can : Nat := 28
abbrev K_X5_move : Nat := 29
abbrev K_X5_goUp : Nat := 30
abbrev K_X5_cashier : Nat := 31
abbrev K_X5_hour : Nat := 32
abbrev K_X5_wouldShake : Nat := 33
abbrev K_X6_init : Nat := 34
abbrev K_X6_copyFrom : Nat := 35
abbrev K_X6_open : Nat := 36
abbrev K_X6_put : Nat := 37
abbrev K_X6_closeSkip : Nat := 38
abbrev K_X7_init : Nat := 39
abbrev K_X7_faultOf : Nat := 40
abbrev K_X7_clause : Nat := 41
abbrev K_X7_test : Nat := 42
abbrev K_X7_both : Nat := 43
abbrev K_X7_plain : Nat := 44
abbrev K_X7_sum : Nat := 45
abbrev K_X7_term : Nat := 46
abbrev K_X7_part : Nat := 47
abbrev K_X7_number : Nat := 48
abbrev K_X7_word : Nat := 49
abbrev K_X7_advance : Nat := 50
abbrev K_X7_kindAt : Nat := 51
abbrev K_X7_isSign : Nat := 52
abbrev K_X7_wordIn : Nat := 53
abbrev K_X7_numberOf : Nat := 54
abbrev K_X8_init : Nat := 55
abbrev K_X8_plan : Nat := 56
abbrev K_X8_search : Nat := 57
abbrev K_X8_eyesFor : Nat := 58
abbrev K_X8_shakes : Nat := 59
abbrev K_X8_goOn : Nat := 60
abbrev K_X9_init : Nat := 61
abbrev K_X9_copyFrom : Nat := 62
abbrev K_X9_copyMoving : Nat := 63
abbrev K_X9_isMan : Nat := 64
abbrev K_X9_isCashiered : Nat := 65
abbrev K_X9_fit : Nat := 66
abbrev K_X9_add : Nat := 67
abbrev K_X9_unlike : Nat := 68
abbrev K_X9_groupOf : Nat := 69
abbrev K_X9_alike : Nat := 70
abbrev K_X9_groupCount : Nat := 71
abbrev K_X9_possible : Nat := 72
abbrev K_X9_leftAtMost : Nat := 73
abbrev K_X10_init : Nat := 74
abbrev K_X10_man : Nat := 75
abbrev K_X10_of : Nat := 76
abbrev K_X10_two : Nat := 77
abbrev K_X10_terms : Nat := 78
abbrev K_X10_feed : Nat := 79
abbrev K_X10_end : Nat := 80
abbrev K_X10_row : Nat := 81
abbrev K_X10_pigeons : Nat := 82
abbrev K_X10_law : Nat := 83
abbrev K_X10_orders : Nat := 84
abbrev K_X10_fault : Nat := 85
abbrev K_X10_stopped : Nat := 86
abbrev K_X10_force : Nat := 87
abbrev K_X10_relieve : Nat := 88
abbrev K_X10_sneeze : Nat := 89
abbrev K_X10_pardon : Nat := 90
abbrev K_X10_pass : Nat := 91
abbrev K_X10_undo : Nat := 92
abbrev K_X10_holds : Nat := 93
abbrev K_X10_later : Nat := 94
abbrev K_X10_moment : Nat := 95
abbrev K_X10_rota : Nat := 96
abbrev K_X10_order : Nat := 97
abbrev K_X10_chain : Nat := 98
abbrev K_X10_groups : Nat := 99
abbrev K_X10_likest : Nat := 100
abbrev K_X10_plate : Nat := 101
abbrev K_X10_forget : Nat := 102
abbrev K_X10_canBe : Nat := 103
abbrev K_X10_take : Nat := 104
abbrev K_X10_few : Nat := 105
abbrev K_X10_compare : Nat := 106
abbrev K_X10_years : Nat := 107
abbrev K_X10_drawn : Nat := 108
abbrev K_X10_image : Nat := 109
abbrev K_X10_back : Nat := 110
abbrev K_X10_count : Nat := 111
abbrev K_X10_status : Nat := 112
abbrev K_X10_canBeMan : Nat := 113
abbrev K_X10_bit : Nat := 114
abbrev K_X10_areTwo : Nat := 115
abbrev K_X10_putOnTape : Nat := 116
abbrev K_X10_live : Nat := 117
abbrev K_X10_nextDraw : Nat := 118
abbrev K_X10_deedOf : Nat := 119
abbrev K_X10_settled : Nat := 120
abbrev K_X10_accepted : Nat := 121
abbrev K_X10_refused : Nat := 122
abbrev K_X11_init : Nat := 123
abbrev K_X11_in : Nat := 124
abbrev K_X11_is : Nat := 125
abbrev K_X11_bounded : Nat := 126
abbrev K_X11_many : Nat := 127
abbrev K_X11_tell : Nat := 128
abbrev K_X11_change : Nat := 129
abbrev K_X11_lasting : Nat := 130
abbrev K_X11_keepAll : Nat := 131
abbrev K_X11_putBack : Nat := 132
abbrev K_X11_remember : Nat := 133
abbrev K_X11_undo : Nat := 134
abbrev K_X11_image : Nat := 135
abbrev K_X11_back : Nat := 136
abbrev K_X11_isMan : Nat := 137
abbrev K_X11_isFit : Nat := 138
abbrev K_X11_fitBits : Nat := 139
abbrev K_X11_unlike : Nat := 140
abbrev K_X11_comes : Nat := 141
abbrev K_X11_man : Nat := 142
abbrev K_X11_of : Nat := 143
abbrev K_X11_two : Nat := 144
abbrev K_X11_terms : Nat := 145
abbrev K_X11_row : Nat := 146
abbrev K_X11_pigeons : Nat := 147
abbrev K_X11_four : Nat := 148
abbrev K_X11_feed : Nat := 149
abbrev K_X11_end : Nat := 150
abbrev K_X11_isSmall : Nat := 151
abbrev K_X11_isDigit : Nat := 152
abbrev K_X11_begin : Nat := 153
abbrev K_X11_next : Nat := 154
abbrev K_X11_isWord : Nat := 155
abbrev K_X11_isSign : Nat := 156
abbrev K_X11_must : Nat := 157
abbrev K_X11_number : Nat := 158
abbrev K_X11_fault : Nat := 159
abbrev K_X11_emit : Nat := 160
abbrev K_X11_push : Nat := 161
abbrev K_X11_binds : Nat := 162
abbrev K_X11_settle : Nat := 163
abbrev K_X11_inner : Nat := 164
abbrev K_X11_isCompared : Nat := 165
abbrev K_X11_partAt : Nat := 166
abbrev K_X11_orderPartAt : Nat := 167
abbrev K_X11_openBracket : Nat := 168
abbrev K_X11_leaf : Nat := 169
abbrev K_X11_readPart : Nat := 170
abbrev K_X11_readPlain : Nat := 171
abbrev K_X11_behindSum : Nat := 172
abbrev K_X11_behindTest : Nat := 173
abbrev K_X11_readExpression : Nat := 174
abbrev K_X11_beginText : Nat := 175
abbrev K_X11_endText : Nat := 176
abbrev K_X11_readLaw : Nat := 177
abbrev K_X11_law : Nat := 178
abbrev K_X11_isLaw : Nat := 179
abbrev K_X11_force : Nat := 180
abbrev K_X11_reckon : Nat := 181
abbrev K_X11_reckonAll : Nat := 182
abbrev K_X11_isSo : Nat := 183
abbrev K_X11_tells : Nat := 184
abbrev K_X11_tires : Nat := 185
abbrev K_X11_rests : Nat := 186
abbrev K_X11_isBarred : Nat := 187
abbrev K_X11_noticed : Nat := 188
abbrev K_X11_canRelieve : Nat := 189
abbrev K_X11_relieveIt : Nat := 190
abbrev K_X11_relieveNow : Nat := 191
abbrev K_X11_relieve : Nat := 192
abbrev K_X11_cashier : Nat := 193
abbrev K_X11_sneezeNow : Nat := 194
abbrev K_X11_sneeze : Nat := 195
abbrev K_X11_pardonIt : Nat := 196
abbrev K_X11_pardonNow : Nat := 197
abbrev K_X11_pardon : Nat := 198
abbrev K_X11_passIt : Nat := 199
abbrev K_X11_passNow : Nat := 200
abbrev K_X11_pass : Nat := 201
abbrev K_X11_holds : Nat := 202
abbrev K_X11_later : Nat := 203
abbrev K_X11_moment : Nat := 204
abbrev K_X11_keepDeep : Nat := 205
abbrev K_X11_putDeep : Nat := 206
abbrev K_X11_tryMan : Nat := 207
abbrev K_X11_layRota : Nat := 208
abbrev K_X11_rota : Nat := 209
abbrev K_X11_layNotice : Nat := 210
abbrev K_X11_layOrders : Nat := 211
abbrev K_X11_canBegin : Nat := 212
abbrev K_X11_order : Nat := 213
abbrev K_X11_links : Nat := 214
abbrev K_X11_layAway : Nat := 215
abbrev K_X11_chain : Nat := 216
abbrev K_X11_groupOf : Nat := 217
abbrev K_X11_groups : Nat := 218
abbrev K_X11_likest : Nat := 219
abbrev K_X11_compare : Nat := 220
abbrev K_X11_plate : Nat := 221
abbrev K_X11_forget : Nat := 222
abbrev K_X11_thatCanBe : Nat := 223
abbrev K_X11_canBe : Nat := 224
abbrev K_X11_take : Nat := 225
abbrev K_X11_few : Nat := 226
abbrev K_X11_readOrder : Nat := 227
abbrev K_X11_sumOf : Nat := 228
abbrev K_X11_act : Nat := 229
abbrev K_X11_run : Nat := 230
abbrev K_X11_orders : Nat := 231
abbrev K_X11_giveBack : Nat := 232
abbrev K_X11_stopped : Nat := 233
abbrev K_X11_draw : Nat := 234
abbrev K_X11_drawnAct : Nat := 235
abbrev K_X11_years : Nat := 236
abbrev K_X11_drawn : Nat := 237
abbrev K_X11_count : Nat := 238
abbrev K_X11_status : Nat := 239
abbrev K_J6_bitCount_0f7a4 : Nat := 240
abbrev K_law : Nat := 241
def sm_str : List String := ["relieve sneeze pardon pass", "tires rests notices bars", "times", "if", "or", "and", "not", "hour done latest up held fit tired", "man hold tired held other unlike hour weather"]
def sm_mkl : List (Nat × Nat × Nat × Nat × Nat × Nat) := [(2, 109, 108, 3, 0, 0), (0, 979, 977, 3, 978, 1), (0, 775, 773, 3, 774, 1), (0, 477, 475, 3, 476, 1), (0, 473, 471, 3, 472, 0), (2, 214, 213, 7, 0, 2), (0, 731, 729, 7, 730, 2), (0, 698, 696, 7, 697, 0), (0, 718, 717, 7, 100020, 1), (0, 722, 721, 7, 100021, 0), (2, 182, 181, 6, 0, 0), (0, 499, 497, 6, 498, 2), (0, 506, 505, 6, 100003, 1), (2, 309, 308, 10, 0, 1), (0, 865, 864, 10, 100028, 1), (0, 861, 859, 10, 860, 1), (0, 872, 871, 10, 100029, 4), (0, 882, 880, 10, 881, 2), (0, 886, 885, 10, 100030, 3), (0, 890, 888, 10, 889, 3), (2, 224, 223, 8, 0, 0), (0, 446, 444, 8, 445, 0), (0, 713, 711, 8, 712, 1), (0, 737, 735, 8, 736, 2), (0, 800, 798, 8, 799, 1), (2, 176, 175, 5, 0, 1), (0, 481, 479, 5, 480, 5), (0, 495, 494, 5, 100002, 4), (0, 516, 514, 5, 515, 3), (0, 754, 752, 5, 753, 3), (0, 750, 748, 5, 749, 2), (0, 746, 745, 5, 100022, 2), (0, 741, 739, 5, 740, 1), (0, 809, 807, 5, 808, 1), (2, 116, 115, 4, 0, 2), (0, 983, 981, 4, 982, 1), (0, 633, 631, 4, 632, 1), (0, 662, 660, 4, 661, 2), (0, 688, 686, 4, 687, 1), (2, 346, 345, 11, 0, 2), (0, 562, 560, 11, 561, 3), (0, 575, 574, 11, 100008, 0), (0, 674, 673, 11, 100017, 1), (0, 678, 677, 11, 100018, 1), (0, 682, 681, 11, 100019, 1), (0, 637, 636, 11, 100010, 1), (0, 641, 640, 11, 100011, 1), (0, 645, 644, 11, 100012, 1), (0, 653, 652, 11, 100014, 0), (0, 666, 665, 11, 100016, 0), (0, 567, 566, 11, 100006, 0), (0, 571, 570, 11, 100007, 1), (0, 649, 648, 11, 100013, 1), (0, 581, 580, 11, 100009, 1), (0, 657, 656, 11, 100015, 2), (2, 274, 273, 9, 0, 1), (0, 826, 824, 9, 825, 2), (0, 832, 831, 9, 100024, 2), (0, 837, 836, 9, 100025, 2), (0, 844, 843, 9, 100026, 2), (0, 849, 848, 9, 100027, 3), (2, 32, 31, 2, 0, 0), (0, 702, 700, 2, 701, 1), (0, 709, 707, 2, 708, 1), (0, 462, 460, 2, 461, 1), (0, 466, 464, 2, 465, 1), (0, 726, 724, 2, 725, 0), (0, 450, 448, 2, 449, 2), (0, 485, 483, 2, 484, 2), (0, 903, 901, 2, 902, 2), (0, 907, 906, 2, 100031, 2), (0, 899, 897, 2, 898, 1), (0, 929, 927, 2, 928, 0), (0, 937, 935, 2, 936, 2), (2, 24, 23, 1, 0, 0), (0, 435, 433, 1, 434, 2), (0, 458, 456, 1, 457, 2), (0, 524, 522, 1, 523, 3), (0, 533, 531, 1, 532, 2), (0, 538, 536, 1, 537, 5), (0, 546, 544, 1, 545, 1), (0, 550, 548, 1, 549, 0), (0, 554, 552, 1, 553, 0), (0, 558, 556, 1, 557, 0), (0, 694, 692, 1, 693, 0), (0, 763, 761, 1, 762, 0), (0, 767, 765, 1, 766, 0), (0, 771, 769, 1, 770, 1), (0, 779, 777, 1, 778, 1), (0, 784, 782, 1, 783, 1), (0, 788, 786, 1, 787, 1), (0, 792, 790, 1, 791, 0), (0, 796, 794, 1, 795, 0), (0, 804, 802, 1, 803, 1), (0, 814, 812, 1, 813, 2), (0, 818, 816, 1, 817, 2), (0, 822, 820, 1, 821, 2), (0, 856, 854, 1, 855, 1), (0, 878, 876, 1, 877, 3), (0, 895, 893, 1, 894, 2), (0, 913, 911, 1, 912, 1), (0, 917, 915, 1, 916, 2), (0, 921, 919, 1, 920, 0), (0, 925, 923, 1, 924, 0), (0, 933, 931, 1, 932, 1), (0, 942, 940, 1, 941, 2), (0, 949, 947, 1, 948, 3), (0, 954, 952, 1, 953, 2), (0, 971, 969, 1, 970, 2), (0, 975, 973, 1, 974, 1), (0, 988, 986, 1, 987, 1), (0, 992, 990, 1, 991, 1), (0, 996, 994, 1, 995, 0), (1, 438, 437, 1, 0, 2), (1, 469, 468, 1, 0, 1), (0, 528, 527, 1, 100004, 2), (0, 542, 541, 1, 100005, 1), (0, 959, 958, 1, 100032, 3), (1, 962, 961, 1, 0, 1), (1, 966, 965, 1, 0, 1), (0, 759, 758, 1, 100023, 1), (0, 454, 453, 1, 100001, 1), (0, 442, 441, 1, 100000, 1), (2, 1001, 1000, 12, 0, 0), (1, 1223, 1222, 12, 0, 3), (1, 1265, 1264, 12, 0, 2), (1, 1282, 1281, 12, 0, 3), (1, 1507, 1506, 12, 0, 1), (0, 1212, 1211, 12, 100033, 1), (0, 1317, 1316, 12, 100049, 2), (0, 1231, 1230, 12, 100035, 1), (0, 1484, 1483, 12, 100077, 1), (0, 1216, 1215, 12, 100034, 1), (0, 1480, 1479, 12, 100076, 1), (0, 1208, 1206, 12, 1207, 0), (0, 1220, 1218, 12, 1219, 1), (0, 1227, 1225, 12, 1226, 1), (0, 1249, 1248, 12, 100037, 1), (0, 1298, 1297, 12, 100047, 1), (0, 1504, 1503, 12, 100081, 0), (0, 1262, 1261, 12, 100040, 2), (0, 1239, 1238, 12, 100036, 2), (0, 1235, 1233, 12, 1234, 2), (0, 1245, 1243, 12, 1244, 2), (0, 1302, 1300, 12, 1301, 3), (0, 1310, 1308, 12, 1309, 2), (0, 1321, 1319, 12, 1320, 0), (0, 1325, 1323, 12, 1324, 0), (0, 1333, 1332, 12, 100050, 1), (0, 1329, 1327, 12, 1328, 5), (0, 1337, 1335, 12, 1336, 1), (1, 1360, 1359, 12, 0, 1), (1, 1363, 1362, 12, 0, 1), (0, 1353, 1352, 12, 100052, 0), (0, 1357, 1356, 12, 100053, 0), (0, 1375, 1374, 12, 100055, 1), (0, 1396, 1395, 12, 100060, 1), (0, 1379, 1378, 12, 100056, 1), (0, 1426, 1425, 12, 100067, 2), (0, 1341, 1339, 12, 1340, 0), (0, 1421, 1420, 12, 100066, 2), (0, 1392, 1391, 12, 100059, 2), (1, 1433, 1432, 12, 0, 1), (0, 1437, 1436, 12, 100069, 1), (0, 1441, 1440, 12, 100070, 0), (0, 1445, 1444, 12, 100071, 0), (0, 1412, 1411, 12, 100064, 0), (0, 1408, 1407, 12, 100063, 0), (0, 1400, 1399, 12, 100061, 1), (0, 1417, 1416, 12, 100065, 3), (0, 1404, 1403, 12, 100062, 0), (0, 1387, 1386, 12, 100058, 0), (0, 1430, 1429, 12, 100068, 1), (0, 1453, 1452, 12, 100072, 0), (0, 1383, 1382, 12, 100057, 1), (0, 1349, 1348, 12, 100051, 1), (0, 1460, 1459, 12, 100073, 0), (0, 1371, 1370, 12, 100054, 0), (0, 1345, 1343, 12, 1344, 0), (0, 1468, 1467, 12, 100074, 1), (0, 1464, 1462, 12, 1463, 1), (0, 1277, 1276, 12, 100043, 3), (0, 1273, 1272, 12, 100042, 2), (0, 1269, 1268, 12, 100041, 1), (0, 1257, 1256, 12, 100039, 4), (0, 1253, 1252, 12, 100038, 1), (0, 1286, 1285, 12, 100044, 1), (0, 1290, 1289, 12, 100045, 1), (0, 1306, 1305, 12, 100048, 2), (0, 1294, 1293, 12, 100046, 1), (0, 1488, 1487, 12, 100078, 1), (0, 1476, 1475, 12, 100075, 1), (0, 1472, 1470, 12, 1471, 1), (0, 1500, 1499, 12, 100080, 1), (0, 1496, 1495, 12, 100079, 1), (0, 1492, 1490, 12, 1491, 1), (0, 1519, 1518, 12, 100083, 1), (0, 1515, 1514, 12, 100082, 1), (0, 1511, 1509, 12, 1510, 1), (0, 1531, 1530, 12, 100085, 0), (0, 1527, 1526, 12, 100084, 0), (0, 1523, 1521, 12, 1522, 0), (0, 1535, 1533, 12, 1534, 1), (0, 1539, 1537, 12, 1538, 2), (0, 1544, 1542, 12, 1543, 2), (0, 1558, 1557, 12, 100087, 2), (0, 1562, 1561, 12, 100088, 1), (0, 1566, 1565, 12, 100089, 2), (0, 1554, 1553, 12, 100086, 1), (0, 1549, 1547, 12, 1548, 2), (0, 1578, 1577, 12, 100091, 0), (0, 1574, 1573, 12, 100090, 0), (0, 1582, 1581, 12, 100092, 1), (0, 1570, 1568, 12, 1569, 1), (0, 1594, 1593, 12, 100094, 2), (0, 1590, 1589, 12, 100093, 1), (0, 1586, 1584, 12, 1585, 3), (0, 1602, 1601, 12, 100095, 2), (0, 1598, 1596, 12, 1597, 2), (0, 1606, 1604, 12, 1605, 1), (0, 1610, 1608, 12, 1609, 3), (0, 1614, 1612, 12, 1613, 2), (0, 1618, 1616, 12, 1617, 0), (0, 1626, 1625, 12, 100096, 0), (0, 1622, 1620, 12, 1621, 0), (0, 1630, 1628, 12, 1629, 1), (0, 1634, 1632, 12, 1633, 2), (0, 1643, 1642, 12, 100097, 0), (0, 1652, 1651, 12, 100099, 1), (0, 1656, 1655, 12, 100100, 2), (0, 1648, 1647, 12, 100098, 1), (0, 1639, 1637, 12, 1638, 0), (0, 1660, 1659, 12, 100101, 1), (0, 1664, 1662, 12, 1663, 0), (0, 1672, 1671, 12, 100102, 1), (0, 1679, 1678, 12, 100103, 2), (0, 1668, 1666, 12, 1667, 2), (0, 1683, 1681, 12, 1682, 2), (0, 1688, 1686, 12, 1687, 1), (0, 1694, 1692, 12, 1693, 0), (1, 488, 487, 13, 0, 1)]
def sm_ty (a j : Nat) : FieldType := (sm_nth (fun _ => FieldType.int) [tyX0, tyX1, tyX2, tyX3, tyX4, tyX5, tyX6, tyX7, tyX8, tyX9, tyX10, tyX11] a) j
def sm_kt (kd : Nat) (ty : FieldType) : Bool := match kd, ty with
  | 0, .int => true
  | 1, .long => true
  | 3, .boolean => true
  | 2, .object _ => true
  | 2, .array _ => true
  | _, _ => false
def sm_lpl : List (List Nat) := [[163, 165, 167, 169], [249, 251, 253, 255, 257, 259, 261, 263, 265, 267], [192, 194, 196, 198], [324, 326, 328, 330, 332, 334, 336, 338], [229, 231], [205, 207], [141, 143, 145, 147, 149, 151, 153], [356, 358, 360, 362, 364, 366, 368, 370], [290, 292, 294, 296, 298, 300, 302], [81, 83, 85, 87, 89, 91, 93, 95, 97, 99, 101], [392, 394, 396, 398, 400, 402, 404, 406, 408, 410, 412, 414, 416, 418, 420, 422, 424, 426, 428], [1083, 1085, 1087, 1089, 1091, 1093, 1095, 1097, 1099, 1101, 1103, 1105, 1107, 1109, 1111, 1113, 1115, 1117, 1119, 1121, 1123, 1125, 1127, 1129, 1131, 1133, 1135, 1137, 1139, 1141, 1143, 1145, 1147, 1149, 1151, 1153, 1155, 1157, 1159, 1161, 1163, 1165, 1167, 1169, 1171, 1173, 1175, 1177, 1179, 1181, 1183, 1185, 1187, 1189, 1191, 1193, 1195, 1197, 1199, 1201]]
def sm_ipl : List Nat := [106, 211, 179, 306, 221, 173, 113, 343, 271, 29, 21, 998]
def sm_jpl : List Nat := [3, 7, 6, 10, 8, 5, 4, 11, 9, 2, 1, 12]
end
section
-- THE TABLES ARE RIGHT: each entry is what the bytes say, each word stands in the tables
/-- the words: of the tables those that stay -/
def sm_all : List Cond := lw_tbl.filter goodWord
def sm_tb (j : Nat) : List Cond := match j with
  | 0 => tables_1_1
  | 1 => tables_1_2
  | 2 => tables_1_3
  | 3 => tables_1_4
  | 4 => tables_1_5
  | 5 => tables_1_6
  | 6 => tables_1_7
  | _ => tables_1_8
theorem sm_tb_in (j : Nat) : ∀ w ∈ sm_tb j, w ∈ tables_1 := by
  intro w h
  unfold tables_1
  unfold sm_tb at h
  split at h <;> simp only [List.mem_append] <;> simp [h]
def sm_wd (pl : Nat) (w : Cond) : Bool := decide ((sm_tb (pl / 240))[pl % 240]? = some w)
theorem sm_wd_tb {pl : Nat} {w : Cond} (h : sm_wd pl w = true) : w ∈ tables_1 := sm_tb_in _ _ (List.mem_of_getElem? (of_decide_eq_true h))
theorem sm_wd_all {pl : Nat} {w : Cond} (h : sm_wd pl w = true) (g : goodWord w = true) : w ∈ sm_all := List.mem_filter.mpr ⟨List.mem_append_right _ (sm_wd_tb h), g⟩
def sm_T0 (q : Nat) : u_T := (sm_nth ("", (fun _ => ("", "", "", false)), 0) vwCl q).2.1
/-- a method's words: kind (0 virtual, 1 static, 2 <init>), places of code, instance or static, initialised, selects (from 100000: among the private ones), how many parameters -/
noncomputable def sm_mk (k : Nat) (q : Nat × Nat × Nat × Nat × Nat × Nat) : Bool := match q with
  | (kd, p1, p2, p3, p4, n) => sm_wd p1 (.code (sm_y k) (sm_by k) (sm_ml k) (sm_rt k)) && sm_wd p3 (.initialized (sm_y k).cls) && plainName (sm_y k).cls && decide (sm_ml k ≤ 22) &&
    decide ((sm_y k).cls ≠ "java/lang/invoke/MethodHandle" ∧ (sm_y k).cls ≠ "java/lang/invoke/VarHandle" ∧ (parseMethodDescriptor (sm_y k).desc).map (fun d => d.parameters.length) = some n) &&
    (match kd with
    | 0 => sm_wd p2 (.instanceMethod (sm_y k)) && (match Nat.ble 100000 p4 with
      | true => decide ((lw_privs.map (·.1))[p4 - 100000]? = some (sm_y k))
      | false => sm_wd p4 (.selects (sm_y k).cls (sm_y k) (sm_y k)))
    | 1 => sm_wd p2 (.static (sm_y k))
    | _ => sm_wd p2 (.instanceMethod (sm_y k)) && decide ((sm_y k).name = "<init>"))
/-- an entry is right -/
noncomputable def sm_ck (k pc : Nat) (e : sm_E) : Bool := match e with
  | (ins, n, a, b, c, pl, v) => decide (decode (sm_by k) pc = .ok (ins, n)) && (match ins with
    | .iconst i => decide (n = 1 ∧ v = .int (Int32.ofInt i))
    | .lconst i => decide (n = 1 ∧ v = .long (Int64.ofNat i.val))
    | .bipush i => decide (n = 2 ∧ v = .int (Int8.ofInt i).toInt32)
    | .sipush i => decide (n = 3 ∧ v = .int (Int16.ofInt i).toInt32)
    | .ldc i => match c with
      | 0 => match v with
        | .int x => decide (n = 2) && sm_wd pl (.constant (sm_y k).cls i x)
        | _ => false
      | _ => match v with
        | .retAddr j => decide (n = 2 ∧ 2 ≤ j ∧ j < 11 ∧ sm_wd pl (.stringRef (sm_y k).cls i (sm_nth "" sm_str (j - 2))) = true ∧ (sm_y k).cls = "StatueRelief$Reader")
        | _ => false
    | .ldc_w i => match v with
      | .int x => decide (n = 3) && sm_wd pl (.constant (sm_y k).cls i x)
      | _ => false
    | .ldc2_w i => match v with
      | .long x => decide (n = 3) && sm_wd pl (.constantLong (sm_y k).cls i x)
      | _ => false
    | .iload _ => decide (n = 2)
    | .lload _ => decide (n = 2)
    | .aload _ => decide (n = 2)
    | .istore _ => decide (n = 2)
    | .lstore _ => decide (n = 2)
    | .astore _ => decide (n = 2)
    | .iinc _ i => decide (n = 3 ∧ v = .int (Int32.ofInt i))
    | .goto off => decide (n = 3 ∧ (pc : Int) + off = (a : Int))
    | .ifCond _ off => decide (n = 3 ∧ (pc : Int) + off = (a : Int))
    | .if_icmp _ off => decide (n = 3 ∧ (pc : Int) + off = (a : Int))
    | .ifnull off => decide (n = 3 ∧ (pc : Int) + off = (a : Int))
    | .ifnonnull off => decide (n = 3 ∧ (pc : Int) + off = (a : Int))
    | .tableswitch off lo hi offs => decide ((pc : Int) + off = (a : Int)) && offs.toList.all (fun o => decide (0 ≤ (pc : Int) + o)) && decide (hi - lo + 1 = (offs.size : Int))
    | .getfield i => decide (n = 3 ∧ b < sm_nf a ∧ a < 12 ∧ c % 8 = sm_kd a b) && (match Nat.ble 8 c with
      | true => sm_wd pl (.fieldLinkNest (sm_y k).cls i (sm_T0 a b).1 (sm_T0 a b).2.1 (sm_T0 a b).2.2.1 "StatueRelief")
      | false => sm_wd pl (.fieldLink (sm_y k).cls i (sm_T0 a b).1 (sm_T0 a b).2.1 (sm_T0 a b).2.2.1))
    | .putfield i => decide (n = 3 ∧ b < sm_nf a ∧ a < 12 ∧ c % 4 = sm_kd a b) && sm_wd pl (.fieldLink (sm_y k).cls i (sm_T0 a b).1 (sm_T0 a b).2.1 (sm_T0 a b).2.2.1) && (match Nat.ble 4 c with
      | true => decide ((sm_T0 a b).2.2.2 = true ∧ (sm_y k).name = "<init>" ∧ (sm_T0 a b).1 = (sm_y k).cls)
      | false => decide ((sm_T0 a b).2.2.2 = false))
    | .getstatic i => decide (n = 3 ∧ v = .retAddr 0) && (match Nat.ble 8 c with
      | true => sm_wd pl (.fieldLinkNest (sm_y k).cls i "StatueRelief" "TERMS_MOST" "[I" "StatueRelief")
      | false => sm_wd pl (.fieldLink (sm_y k).cls i "StatueRelief" "TERMS_MOST" "[I"))
    | .new i => decide (n = 3 ∧ b = sm_nf a ∧ a < 12) && sm_wd pl (.classLink (sm_y k).cls i (sm_cn a))
    | .newarray t => decide (n = 2 ∧ ((a = 0 ∧ t = .int) ∨ (a = 1 ∧ t = .long) ∨ (a = 2 ∧ t = .boolean)))
    | .anewarray i => decide (n = 3 ∧ (a = 0 ∨ a = 6 ∨ a = 9)) && sm_wd pl (.classLink (sm_y k).cls i (sm_cn a))
    | .ireturn => match c with
      | 0 => decide (n = 1 ∧ sm_rt k = some .int)
      | 1 => decide (n = 1 ∧ sm_rt k = some .boolean)
      | _ => decide (n = 1 ∧ k = sm_klaw ∧ sm_rt k = some .boolean)
    | .lreturn => decide (n = 1 ∧ sm_rt k = some .long)
    | .areturn => decide (n = 1 ∧ sm_rt k = some (.object "StatueRelief$Program"))
    | .return_ => decide (n = 1 ∧ sm_rt k = none)
    | .invokevirtual i => match c with
      | 0 => decide (n = 3 ∧ a < sm_klaw ∧ v = .ref (sm_ml a) ∧ (sm_nth (0, 0, 0, 0, 0, 0) sm_mkl a).1 = 0 ∧ (sm_nth (0, 0, 0, 0, 0, 0) sm_mkl a).2.2.2.2.2 = b) && sm_wd pl (.methodLink (sm_y k).cls i (sm_y a))
      | 1 => decide (n = 3) && sm_wd pl (.methodLink (sm_y k).cls i yJ0_length_8abf5)
      | _ => decide (n = 3 ∧ c = 2) && sm_wd pl (.methodLink (sm_y k).cls i yJ0_charAt_5068e)
    | .invokespecial i => match c with
      | 0 => decide (n = 3 ∧ a < sm_klaw ∧ v = .ref (sm_ml a) ∧ (sm_nth (0, 0, 0, 0, 0, 0) sm_mkl a).1 = 2 ∧ (sm_nth (0, 0, 0, 0, 0, 0) sm_mkl a).2.2.2.2.2 = b) && (match Nat.ble 100000 pl with
        | true => sm_wd (pl - 100000) (.methodLinkNest (sm_y k).cls i (sm_y a) "StatueRelief")
        | false => sm_wd pl (.methodLink (sm_y k).cls i (sm_y a)))
      | _ => decide (n = 3 ∧ c = 1) && sm_wd pl (.methodLink (sm_y k).cls i objectInit)
    | .invokestatic i => match c with
      | 0 => decide (n = 3 ∧ a < sm_klaw ∧ v = .ref (sm_ml a) ∧ (sm_nth (0, 0, 0, 0, 0, 0) sm_mkl a).1 = 1 ∧ (sm_nth (0, 0, 0, 0, 0, 0) sm_mkl a).2.2.2.2.2 = b) && sm_wd pl (.methodLink (sm_y k).cls i (sm_y a))
      | 1 => decide (n = 3) && sm_wd pl (.methodLink (sm_y k).cls i Lib.Math.min.name)
      | 2 => decide (n = 3) && sm_wd pl (.methodLink (sm_y k).cls i Lib.Math.max.name)
      | _ => decide (n = 3 ∧ c = 3) && sm_wd pl (.methodLink (sm_y k).cls i arraycopyName)
    | _ => decide (n = 1))
def sm_ckl (f : Nat → List (Nat × sm_E) → Bool) : Nat → List (List (Nat × sm_E)) → Bool
  | _, [] => true
  | k, c :: t => f k c && sm_ckl f (k + 1) t
theorem sm_ckl_at (f : Nat → List (Nat × sm_E) → Bool) (hf : ∀ k, f k [] = true) : ∀ (cs : List (List (Nat × sm_E))) (k0 i : Nat), sm_ckl f k0 cs = true → f (k0 + i) (sm_nth [] cs i) = true
  | [], k0, i, _ => hf _
  | c :: t, k0, 0, h => by
    simp only [sm_ckl, Bool.and_eq_true] at h
    exact h.1
  | c :: t, k0, i + 1, h => by
    simp only [sm_ckl, Bool.and_eq_true] at h
    have := sm_ckl_at f hf t (k0 + 1) i h.2
    rw [show k0 + (i + 1) = k0 + 1 + i by omega]
    exact this
theorem sm_lk_all {α : Type} {p : Nat × α → Bool} : ∀ (l : List (Nat × α)) (q : Nat) (a : α), l.all p = true → sm_lk l q = some a → p (q, a) = true
  | [], q, a, _, h => by cases h
  | (k, b) :: t, q, a, hp, h => by
    simp only [List.all_cons, Bool.and_eq_true] at hp
    unfold sm_lk at h
    cases hk : Nat.beq k q with
    | true =>
      rw [hk] at h
      cases h
      have : k = q := Nat.eq_of_beq_eq_true hk
      subst this
      exact hp.1
    | false =>
      rw [hk] at h
      exact sm_lk_all t q a hp.2 h
noncomputable def sm_cka (k : Nat) (c : List (Nat × sm_E)) : Bool := c.all (fun q => sm_ck k q.1 q.2)
theorem sm_drop_drop (l : List (Nat × sm_E)) (n m : Nat) : (l.drop n).drop m = l.drop (n + m) := List.drop_drop
theorem sm_cka_cut (k : Nat) (l : List (Nat × sm_E)) (n : Nat) (h : sm_cka k (l.take n) = true) (h2 : sm_cka k (l.drop n) = true) : sm_cka k l = true := by
  have e : l = l.take n ++ l.drop n := (List.take_append_drop n l).symm
  unfold sm_cka at *
  rw [e, List.all_append, h, h2]
  rfl
theorem sm_cka_end (k : Nat) (l : List (Nat × sm_E)) (n : Nat) (h : sm_cka k (l.take n) = true) (h2 : (l.drop n).isEmpty = true) : sm_cka k l = true := by
  have e : l = l.take n ++ l.drop n := (List.take_append_drop n l).symm
  rw [List.isEmpty_iff.mp h2, List.append_nil] at e
  rw [e]
  exact h
end
section
set_option maxRecDepth 100000 in
theorem sm_ok0 : sm_cka 0 sm_o0 = true := by decide +kernel
set_option maxRecDepth 100000 in
theorem sm_ok1 : sm_cka 1 sm_o1 = true := by decide +kernel
set_option maxRecDepth 100000 in
theorem sm_ok2 : sm_cka 2 sm_o2 = true := by decide +kernel
set_option maxRecDepth 100000 in
theorem sm_ok3 : sm_cka 3 sm_o3 = true := by decide +kernel
set_option maxRecDepth 100000 in
theorem sm_ok4 : sm_cka 4 sm_o4 = true := by decide +kernel
set_option maxRecDepth 100000 in
theorem sm_ok5 : sm_cka 5 sm_o5 = true := by decide +kernel
set_option maxRecDepth 100000 in
theorem sm_ok6 : sm_cka 6 sm_o6 = true := by decide +kernel
set_option maxRecDepth 100000 in
theorem sm_ok7 : sm_cka 7 sm_o7 = true := by decide +kernel
set_option maxRecDepth 100000 in
theorem sm_ok8 : sm_cka 8 sm_o8 = true := by decide +kernel
set_option maxRecDepth 100000 in
theorem sm_ok9 : sm_cka 9 sm_o9 = true := by decide +kernel
set_option maxRecDepth 100000 in
theorem sm_ok10 : sm_cka 10 sm_o10 = true := by decide +kernel
set_option maxRecDepth 100000 in
theorem sm_ok11 : sm_cka 11 sm_o11 = true := by decide +kernel
set_option maxRecDepth 100000 in
theorem sm_ok12 : sm_cka 12 sm_o12 = true := by decide +kernel
set_option maxRecDepth 100000 in
theorem sm_ok13 : sm_cka 13 sm_o13 = true := by decide +kernel
set_option maxRecDepth 100000 in
theorem sm_ok14 : sm_cka 14 sm_o14 = true := by decide +kernel
end
section
set_option maxRecDepth 100000 in
theorem sm_ok15 : sm_cka 15 sm_o15 = true := by decide +kernel
set_option maxRecDepth 100000 in
theorem sm_ok16 : sm_cka 16 sm_o16 = true := by decide +kernel
set_option maxRecDepth 100000 in
theorem sm_ok17 : sm_cka 17 sm_o17 = true := by decide +kernel
set_option maxRecDepth 100000 in
theorem sm_ok18 : sm_cka 18 sm_o18 = true := by decide +kernel
set_option maxRecDepth 100000 in
theorem sm_ok19 : sm_cka 19 sm_o19 = true := by decide +kernel
set_option maxRecDepth 100000 in
theorem sm_ok20 : sm_cka 20 sm_o20 = true := by decide +kernel
set_option maxRecDepth 100000 in
theorem sm_ok21 : sm_cka 21 sm_o21 = true := by decide +kernel
set_option maxRecDepth 100000 in
theorem sm_ok22 : sm_cka 22 sm_o22 = true := by decide +kernel
set_option maxRecDepth 100000 in
theorem sm_ok23 : sm_cka 23 sm_o23 = true := by decide +kernel
set_option maxRecDepth 100000 in
theorem sm_ok24 : sm_cka 24 sm_o24 = true := by decide +kernel
set_option maxRecDepth 100000 in
theorem sm_ok25 : sm_cka 25 sm_o25 = true := by decide +kernel
set_option maxRecDepth 100000 in
theorem sm_ok26 : sm_cka 26 sm_o26 = true := by decide +kernel
set_option maxRecDepth 100000 in
theorem sm_ok27 : sm_cka 27 sm_o27 = true := by decide +kernel
set_option maxRecDepth 100000 in
theorem sm_ok28 : sm_cka 28 sm_o28 = true := by decide +kernel
set_option maxRecDepth 100000 in
theorem sm_ok29 : sm_cka 29 sm_o29 = true := by decide +kernel
set_option maxRecDepth 100000 in
theorem sm_ok30 : sm_cka 30 sm_o30 = true := by decide +kernel
set_option maxRecDepth 100000 in
theorem sm_ok31 : sm_cka 31 sm_o31 = true := by decide +kernel
set_option maxRecDepth 100000 in
theorem sm_ok32 : sm_cka 32 sm_o32 = true := by decide +kernel
end
section
set_option maxRecDepth 100000 in
theorem sm_ok33 : sm_cka 33 sm_o33 = true := by decide +kernel
set_option maxRecDepth 100000 in
theorem sm_ok34 : sm_cka 34 sm_o34 = true := by decide +kernel
set_option maxRecDepth 100000 in
theorem sm_ok35 : sm_cka 35 sm_o35 = true := by decide +kernel
set_option maxRecDepth 100000 in
theorem sm_ok36 : sm_cka 36 sm_o36 = true := by decide +kernel
set_option maxRecDepth 100000 in
theorem sm_ok37 : sm_cka 37 sm_o37 = true := by decide +kernel
set_option maxRecDepth 100000 in
theorem sm_ok38 : sm_cka 38 sm_o38 = true := by decide +kernel
set_option maxRecDepth 100000 in
theorem sm_ok39 : sm_cka 39 sm_o39 = true := by decide +kernel
set_option maxRecDepth 100000 in
theorem sm_ok40 : sm_cka 40 sm_o40 = true := by decide +kernel
set_option maxRecDepth 100000 in
theorem sm_ok41 : sm_cka 41 sm_o41 = true := by decide +kernel
set_option maxRecDepth 100000 in
theorem sm_ok42 : sm_cka 42 sm_o42 = true := by decide +kernel
set_option maxRecDepth 100000 in
theorem sm_ok43 : sm_cka 43 sm_o43 = true := by decide +kernel
set_option maxRecDepth 100000 in
theorem sm_ok44 : sm_cka 44 sm_o44 = true := by decide +kernel
set_option maxRecDepth 100000 in
theorem sm_ok45 : sm_cka 45 sm_o45 = true := by decide +kernel
set_option maxRecDepth 100000 in
theorem sm_ok46 : sm_cka 46 sm_o46 = true := by decide +kernel
set_option maxRecDepth 100000 in
theorem sm_ok47 : sm_cka 47 sm_o47 = true := by decide +kernel
end
section
set_option maxRecDepth 100000 in
theorem sm_ok48 : sm_cka 48 sm_o48 = true := by decide +kernel
set_option maxRecDepth 100000 in
theorem sm_ok49 : sm_cka 49 sm_o49 = true := by decide +kernel
set_option maxRecDepth 100000 in
theorem sm_ok50 : sm_cka 50 sm_o50 = true := by decide +kernel
set_option maxRecDepth 100000 in
theorem sm_ok51 : sm_cka 51 sm_o51 = true := by decide +kernel
set_option maxRecDepth 100000 in
theorem sm_ok52 : sm_cka 52 sm_o52 = true := by decide +kernel
set_option maxRecDepth 100000 in
theorem sm_ok53 : sm_cka 53 sm_o53 = true := by decide +kernel
set_option maxRecDepth 100000 in
theorem sm_ok54 : sm_cka 54 sm_o54 = true := by decide +kernel
set_option maxRecDepth 100000 in
theorem sm_ok55 : sm_cka 55 sm_o55 = true := by decide +kernel
set_option maxRecDepth 100000 in
theorem sm_ok56 : sm_cka 56 sm_o56 = true := by decide +kernel
set_option maxRecDepth 100000 in
theorem sm_ok57 : sm_cka 57 sm_o57 = true := by decide +kernel
set_option maxRecDepth 100000 in
theorem sm_ok58 : sm_cka 58 sm_o58 = true := by decide +kernel
set_option maxRecDepth 100000 in
theorem sm_ok59 : sm_cka 59 sm_o59 = true := by decide +kernel
set_option maxRecDepth 100000 in
theorem sm_ok60 : sm_cka 60 sm_o60 = true := by decide +kernel
set_option maxRecDepth 100000 in
theorem sm_ok61 : sm_cka 61 sm_o61 = true := by decide +kernel
set_option maxRecDepth 100000 in
theorem sm_ok62 : sm_cka 62 sm_o62 = true := by decide +kernel
set_option maxRecDepth 100000 in
theorem sm_ok63 : sm_cka 63 sm_o63 = true := by decide +kernel
set_option maxRecDepth 100000 in
theorem sm_ok64 : sm_cka 64 sm_o64 = true := by decide +kernel
set_option maxRecDepth 100000 in
theorem sm_ok65 : sm_cka 65 sm_o65 = true := by decide +kernel
set_option maxRecDepth 100000 in
theorem sm_ok66 : sm_cka 66 sm_o66 = true := by decide +kernel
set_option maxRecDepth 100000 in
theorem sm_ok67 : sm_cka 67 sm_o67 = true := by decide +kernel
end
section
set_option maxRecDepth 100000 in
theorem sm_ok68 : sm_cka 68 sm_o68 = true := by decide +kernel
set_option maxRecDepth 100000 in
theorem sm_ok69 : sm_cka 69 sm_o69 = true := by decide +kernel
set_option maxRecDepth 100000 in
theorem sm_ok70 : sm_cka 70 sm_o70 = true := by decide +kernel
set_option maxRecDepth 100000 in
theorem sm_ok71 : sm_cka 71 sm_o71 = true := by decide +kernel
set_option maxRecDepth 100000 in
theorem sm_ok72 : sm_cka 72 sm_o72 = true := by decide +kernel
set_option maxRecDepth 100000 in
theorem sm_ok73 : sm_cka 73 sm_o73 = true := by decide +kernel
set_option maxRecDepth 100000 in
theorem sm_ok74 : sm_cka 74 sm_o74 = true := by decide +kernel
set_option maxRecDepth 100000 in
theorem sm_ok75 : sm_cka 75 sm_o75 = true := by decide +kernel
set_option maxRecDepth 100000 in
theorem sm_ok76 : sm_cka 76 sm_o76 = true := by decide +kernel
set_option maxRecDepth 100000 in
theorem sm_ok77 : sm_cka 77 sm_o77 = true := by decide +kernel
set_option maxRecDepth 100000 in
theorem sm_ok78 : sm_cka 78 sm_o78 = true := by decide +kernel
set_option maxRecDepth 100000 in
theorem sm_ok79 : sm_cka 79 sm_o79 = true := by decide +kernel
set_option maxRecDepth 100000 in
theorem sm_ok80 : sm_cka 80 sm_o80 = true := by decide +kernel
set_option maxRecDepth 100000 in
theorem sm_ok81 : sm_cka 81 sm_o81 = true := by decide +kernel
set_option maxRecDepth 100000 in
theorem sm_ok82 : sm_cka 82 sm_o82 = true := by decide +kernel
set_option maxRecDepth 100000 in
theorem sm_ok83 : sm_cka 83 sm_o83 = true := by decide +kernel
set_option maxRecDepth 100000 in
theorem sm_ok84 : sm_cka 84 sm_o84 = true := by decide +kernel
set_option maxRecDepth 100000 in
theorem sm_ok85 : sm_cka 85 sm_o85 = true := by decide +kernel
set_option maxRecDepth 100000 in
theorem sm_ok86 : sm_cka 86 sm_o86 = true := by decide +kernel
set_option maxRecDepth 100000 in
theorem sm_ok87 : sm_cka 87 sm_o87 = true := by decide +kernel
set_option maxRecDepth 100000 in
theorem sm_ok88 : sm_cka 88 sm_o88 = true := by decide +kernel
set_option maxRecDepth 100000 in
theorem sm_ok89 : sm_cka 89 sm_o89 = true := by decide +kernel
end
section
set_option maxRecDepth 100000 in
theorem sm_ok90 : sm_cka 90 sm_o90 = true := by decide +kernel
set_option maxRecDepth 100000 in
theorem sm_ok91 : sm_cka 91 sm_o91 = true := by decide +kernel
set_option maxRecDepth 100000 in
theorem sm_ok92 : sm_cka 92 sm_o92 = true := by decide +kernel
set_option maxRecDepth 100000 in
theorem sm_ok93 : sm_cka 93 sm_o93 = true := by decide +kernel
set_option maxRecDepth 100000 in
theorem sm_ok94 : sm_cka 94 sm_o94 = true := by decide +kernel
set_option maxRecDepth 100000 in
theorem sm_ok95 : sm_cka 95 sm_o95 = true := by decide +kernel
set_option maxRecDepth 100000 in
theorem sm_ok96 : sm_cka 96 sm_o96 = true := by decide +kernel
set_option maxRecDepth 100000 in
theorem sm_ok97 : sm_cka 97 sm_o97 = true := by decide +kernel
set_option maxRecDepth 100000 in
theorem sm_ok98 : sm_cka 98 sm_o98 = true := by decide +kernel
set_option maxRecDepth 100000 in
theorem sm_ok99 : sm_cka 99 sm_o99 = true := by decide +kernel
set_option maxRecDepth 100000 in
theorem sm_ok100 : sm_cka 100 sm_o100 = true := by decide +kernel
set_option maxRecDepth 100000 in
theorem sm_ok101 : sm_cka 101 sm_o101 = true := by decide +kernel
set_option maxRecDepth 100000 in
theorem sm_ok102 : sm_cka 102 sm_o102 = true := by decide +kernel
set_option maxRecDepth 100000 in
theorem sm_ok103 : sm_cka 103 sm_o103 = true := by decide +kernel
set_option maxRecDepth 100000 in
theorem sm_ok104 : sm_cka 104 sm_o104 = true := by decide +kernel
set_option maxRecDepth 100000 in
theorem sm_ok105 : sm_cka 105 sm_o105 = true := by decide +kernel
set_option maxRecDepth 100000 in
theorem sm_ok106 : sm_cka 106 sm_o106 = true := by decide +kernel
set_option maxRecDepth 100000 in
theorem sm_ok107 : sm_cka 107 sm_o107 = true := by decide +kernel
set_option maxRecDepth 100000 in
theorem sm_ok108 : sm_cka 108 sm_o108 = true := by decide +kernel
end
section
set_option maxRecDepth 100000 in
theorem sm_ok109 : sm_cka 109 sm_o109 = true := by decide +kernel
set_option maxRecDepth 100000 in
theorem sm_ok110 : sm_cka 110 sm_o110 = true := by decide +kernel
set_option maxRecDepth 100000 in
theorem sm_ok111 : sm_cka 111 sm_o111 = true := by decide +kernel
set_option maxRecDepth 100000 in
theorem sm_ok112 : sm_cka 112 sm_o112 = true := by decide +kernel
set_option maxRecDepth 100000 in
theorem sm_ok113 : sm_cka 113 sm_o113 = true := by decide +kernel
set_option maxRecDepth 100000 in
theorem sm_ok114 : sm_cka 114 sm_o114 = true := by decide +kernel
set_option maxRecDepth 100000 in
theorem sm_ok115 : sm_cka 115 sm_o115 = true := by decide +kernel
set_option maxRecDepth 100000 in
theorem sm_ok116 : sm_cka 116 sm_o116 = true := by decide +kernel
set_option maxRecDepth 100000 in
theorem sm_ok117 : sm_cka 117 sm_o117 = true := by decide +kernel
set_option maxRecDepth 100000 in
theorem sm_ok118 : sm_cka 118 sm_o118 = true := by decide +kernel
set_option maxRecDepth 100000 in
theorem sm_ok119 : sm_cka 119 sm_o119 = true := by decide +kernel
set_option maxRecDepth 100000 in
theorem sm_ok120 : sm_cka 120 sm_o120 = true := by decide +kernel
set_option maxRecDepth 100000 in
theorem sm_ok121 : sm_cka 121 sm_o121 = true := by decide +kernel
set_option maxRecDepth 100000 in
theorem sm_ok122 : sm_cka 122 sm_o122 = true := by decide +kernel
end
section
set_option maxRecDepth 100000 in
theorem sm_ok123_0 : sm_cka 123 ((sm_o123).take 120) = true := by decide +kernel
set_option maxRecDepth 100000 in
theorem sm_ok123_1 : sm_cka 123 (((sm_o123.drop 120)).take 120) = true := by decide +kernel
set_option maxRecDepth 100000 in
theorem sm_ok123_2 : sm_cka 123 ((((sm_o123.drop 120).drop 120)).take 120) = true := by decide +kernel
theorem sm_ok123 : sm_cka 123 sm_o123 = true := sm_cka_cut 123 _ 120 (sm_ok123_0) (sm_cka_cut 123 _ 120 (sm_ok123_1) (sm_cka_end 123 _ 120 sm_ok123_2 (by decide +kernel)))
end
section
set_option maxRecDepth 100000 in
theorem sm_ok124 : sm_cka 124 sm_o124 = true := by decide +kernel
set_option maxRecDepth 100000 in
theorem sm_ok125 : sm_cka 125 sm_o125 = true := by decide +kernel
set_option maxRecDepth 100000 in
theorem sm_ok126 : sm_cka 126 sm_o126 = true := by decide +kernel
set_option maxRecDepth 100000 in
theorem sm_ok127 : sm_cka 127 sm_o127 = true := by decide +kernel
set_option maxRecDepth 100000 in
theorem sm_ok128 : sm_cka 128 sm_o128 = true := by decide +kernel
set_option maxRecDepth 100000 in
theorem sm_ok129 : sm_cka 129 sm_o129 = true := by decide +kernel
set_option maxRecDepth 100000 in
theorem sm_ok130 : sm_cka 130 sm_o130 = true := by decide +kernel
set_option maxRecDepth 100000 in
theorem sm_ok131 : sm_cka 131 sm_o131 = true := by decide +kernel
set_option maxRecDepth 100000 in
theorem sm_ok132 : sm_cka 132 sm_o132 = true := by decide +kernel
set_option maxRecDepth 100000 in
theorem sm_ok133 : sm_cka 133 sm_o133 = true := by decide +kernel
set_option maxRecDepth 100000 in
theorem sm_ok134 : sm_cka 134 sm_o134 = true := by decide +kernel
set_option maxRecDepth 100000 in
theorem sm_ok135 : sm_cka 135 sm_o135 = true := by decide +kernel
set_option maxRecDepth 100000 in
theorem sm_ok136 : sm_cka 136 sm_o136 = true := by decide +kernel
set_option maxRecDepth 100000 in
theorem sm_ok137 : sm_cka 137 sm_o137 = true := by decide +kernel
set_option maxRecDepth 100000 in
theorem sm_ok138 : sm_cka 138 sm_o138 = true := by decide +kernel
set_option maxRecDepth 100000 in
theorem sm_ok139 : sm_cka 139 sm_o139 = true := by decide +kernel
set_option maxRecDepth 100000 in
theorem sm_ok140 : sm_cka 140 sm_o140 = true := by decide +kernel
set_option maxRecDepth 100000 in
theorem sm_ok141 : sm_cka 141 sm_o141 = true := by decide +kernel
set_option maxRecDepth 100000 in
theorem sm_ok142 : sm_cka 142 sm_o142 = true := by decide +kernel
set_option maxRecDepth 100000 in
theorem sm_ok143 : sm_cka 143 sm_o143 = true := by decide +kernel
set_option maxRecDepth 100000 in
theorem sm_ok144 : sm_cka 144 sm_o144 = true := by decide +kernel
set_option maxRecDepth 100000 in
theorem sm_ok145 : sm_cka 145 sm_o145 = true := by decide +kernel
set_option maxRecDepth 100000 in
theorem sm_ok146 : sm_cka 146 sm_o146 = true := by decide +kernel
end
section
set_option maxRecDepth 100000 in
theorem sm_ok147 : sm_cka 147 sm_o147 = true := by decide +kernel
set_option maxRecDepth 100000 in
theorem sm_ok148 : sm_cka 148 sm_o148 = true := by decide +kernel
set_option maxRecDepth 100000 in
theorem sm_ok149 : sm_cka 149 sm_o149 = true := by decide +kernel
set_option maxRecDepth 100000 in
theorem sm_ok150 : sm_cka 150 sm_o150 = true := by decide +kernel
set_option maxRecDepth 100000 in
theorem sm_ok151 : sm_cka 151 sm_o151 = true := by decide +kernel
set_option maxRecDepth 100000 in
theorem sm_ok152 : sm_cka 152 sm_o152 = true := by decide +kernel
set_option maxRecDepth 100000 in
theorem sm_ok153 : sm_cka 153 sm_o153 = true := by decide +kernel
end
section
set_option maxRecDepth 100000 in
theorem sm_ok154_0 : sm_cka 154 ((sm_o154).take 120) = true := by decide +kernel
set_option maxRecDepth 100000 in
theorem sm_ok154_1 : sm_cka 154 (((sm_o154.drop 120)).take 120) = true := by decide +kernel
theorem sm_ok154 : sm_cka 154 sm_o154 = true := sm_cka_cut 154 _ 120 (sm_ok154_0) (sm_cka_end 154 _ 120 sm_ok154_1 (by decide +kernel))
end
section
set_option maxRecDepth 100000 in
theorem sm_ok155 : sm_cka 155 sm_o155 = true := by decide +kernel
set_option maxRecDepth 100000 in
theorem sm_ok156 : sm_cka 156 sm_o156 = true := by decide +kernel
set_option maxRecDepth 100000 in
theorem sm_ok157 : sm_cka 157 sm_o157 = true := by decide +kernel
set_option maxRecDepth 100000 in
theorem sm_ok158 : sm_cka 158 sm_o158 = true := by decide +kernel
set_option maxRecDepth 100000 in
theorem sm_ok159 : sm_cka 159 sm_o159 = true := by decide +kernel
set_option maxRecDepth 100000 in
theorem sm_ok160 : sm_cka 160 sm_o160 = true := by decide +kernel
set_option maxRecDepth 100000 in
theorem sm_ok161 : sm_cka 161 sm_o161 = true := by decide +kernel
set_option maxRecDepth 100000 in
theorem sm_ok162 : sm_cka 162 sm_o162 = true := by decide +kernel
set_option maxRecDepth 100000 in
theorem sm_ok163 : sm_cka 163 sm_o163 = true := by decide +kernel
set_option maxRecDepth 100000 in
theorem sm_ok164 : sm_cka 164 sm_o164 = true := by decide +kernel
set_option maxRecDepth 100000 in
theorem sm_ok165 : sm_cka 165 sm_o165 = true := by decide +kernel
set_option maxRecDepth 100000 in
theorem sm_ok166 : sm_cka 166 sm_o166 = true := by decide +kernel
set_option maxRecDepth 100000 in
theorem sm_ok167 : sm_cka 167 sm_o167 = true := by decide +kernel
set_option maxRecDepth 100000 in
theorem sm_ok168 : sm_cka 168 sm_o168 = true := by decide +kernel
set_option maxRecDepth 100000 in
theorem sm_ok169 : sm_cka 169 sm_o169 = true := by decide +kernel
set_option maxRecDepth 100000 in
theorem sm_ok170 : sm_cka 170 sm_o170 = true := by decide +kernel
set_option maxRecDepth 100000 in
theorem sm_ok171 : sm_cka 171 sm_o171 = true := by decide +kernel
set_option maxRecDepth 100000 in
theorem sm_ok172 : sm_cka 172 sm_o172 = true := by decide +kernel
set_option maxRecDepth 100000 in
theorem sm_ok173 : sm_cka 173 sm_o173 = true := by decide +kernel
set_option maxRecDepth 100000 in
theorem sm_ok174 : sm_cka 174 sm_o174 = true := by decide +kernel
set_option maxRecDepth 100000 in
theorem sm_ok175 : sm_cka 175 sm_o175 = true := by decide +kernel
end
section
set_option maxRecDepth 100000 in
theorem sm_ok176 : sm_cka 176 sm_o176 = true := by decide +kernel
set_option maxRecDepth 100000 in
theorem sm_ok177 : sm_cka 177 sm_o177 = true := by decide +kernel
set_option maxRecDepth 100000 in
theorem sm_ok178 : sm_cka 178 sm_o178 = true := by decide +kernel
set_option maxRecDepth 100000 in
theorem sm_ok179 : sm_cka 179 sm_o179 = true := by decide +kernel
set_option maxRecDepth 100000 in
theorem sm_ok180 : sm_cka 180 sm_o180 = true := by decide +kernel
set_option maxRecDepth 100000 in
theorem sm_ok181 : sm_cka 181 sm_o181 = true := by decide +kernel
end
section
set_option maxRecDepth 100000 in
theorem sm_ok182_0 : sm_cka 182 ((sm_o182).take 120) = true := by decide +kernel
set_option maxRecDepth 100000 in
theorem sm_ok182_1 : sm_cka 182 (((sm_o182.drop 120)).take 120) = true := by decide +kernel
theorem sm_ok182 : sm_cka 182 sm_o182 = true := sm_cka_cut 182 _ 120 (sm_ok182_0) (sm_cka_end 182 _ 120 sm_ok182_1 (by decide +kernel))
end
section
set_option maxRecDepth 100000 in
theorem sm_ok183 : sm_cka 183 sm_o183 = true := by decide +kernel
set_option maxRecDepth 100000 in
theorem sm_ok184 : sm_cka 184 sm_o184 = true := by decide +kernel
set_option maxRecDepth 100000 in
theorem sm_ok185 : sm_cka 185 sm_o185 = true := by decide +kernel
set_option maxRecDepth 100000 in
theorem sm_ok186 : sm_cka 186 sm_o186 = true := by decide +kernel
set_option maxRecDepth 100000 in
theorem sm_ok187 : sm_cka 187 sm_o187 = true := by decide +kernel
set_option maxRecDepth 100000 in
theorem sm_ok188 : sm_cka 188 sm_o188 = true := by decide +kernel
set_option maxRecDepth 100000 in
theorem sm_ok189 : sm_cka 189 sm_o189 = true := by decide +kernel
set_option maxRecDepth 100000 in
theorem sm_ok190 : sm_cka 190 sm_o190 = true := by decide +kernel
set_option maxRecDepth 100000 in
theorem sm_ok191 : sm_cka 191 sm_o191 = true := by decide +kernel
set_option maxRecDepth 100000 in
theorem sm_ok192 : sm_cka 192 sm_o192 = true := by decide +kernel
set_option maxRecDepth 100000 in
theorem sm_ok193 : sm_cka 193 sm_o193 = true := by decide +kernel
set_option maxRecDepth 100000 in
theorem sm_ok194 : sm_cka 194 sm_o194 = true := by decide +kernel
set_option maxRecDepth 100000 in
theorem sm_ok195 : sm_cka 195 sm_o195 = true := by decide +kernel
set_option maxRecDepth 100000 in
theorem sm_ok196 : sm_cka 196 sm_o196 = true := by decide +kernel
set_option maxRecDepth 100000 in
theorem sm_ok197 : sm_cka 197 sm_o197 = true := by decide +kernel
set_option maxRecDepth 100000 in
theorem sm_ok198 : sm_cka 198 sm_o198 = true := by decide +kernel
set_option maxRecDepth 100000 in
theorem sm_ok199 : sm_cka 199 sm_o199 = true := by decide +kernel
set_option maxRecDepth 100000 in
theorem sm_ok200 : sm_cka 200 sm_o200 = true := by decide +kernel
set_option maxRecDepth 100000 in
theorem sm_ok201 : sm_cka 201 sm_o201 = true := by decide +kernel
set_option maxRecDepth 100000 in
theorem sm_ok202 : sm_cka 202 sm_o202 = true := by decide +kernel
set_option maxRecDepth 100000 in
theorem sm_ok203 : sm_cka 203 sm_o203 = true := by decide +kernel
set_option maxRecDepth 100000 in
theorem sm_ok204 : sm_cka 204 sm_o204 = true := by decide +kernel
end
section
set_option maxRecDepth 100000 in
theorem sm_ok205 : sm_cka 205 sm_o205 = true := by decide +kernel
set_option maxRecDepth 100000 in
theorem sm_ok206 : sm_cka 206 sm_o206 = true := by decide +kernel
set_option maxRecDepth 100000 in
theorem sm_ok207 : sm_cka 207 sm_o207 = true := by decide +kernel
set_option maxRecDepth 100000 in
theorem sm_ok208 : sm_cka 208 sm_o208 = true := by decide +kernel
set_option maxRecDepth 100000 in
theorem sm_ok209 : sm_cka 209 sm_o209 = true := by decide +kernel
set_option maxRecDepth 100000 in
theorem sm_ok210 : sm_cka 210 sm_o210 = true := by decide +kernel
set_option maxRecDepth 100000 in
theorem sm_ok211 : sm_cka 211 sm_o211 = true := by decide +kernel
set_option maxRecDepth 100000 in
theorem sm_ok212 : sm_cka 212 sm_o212 = true := by decide +kernel
set_option maxRecDepth 100000 in
theorem sm_ok213 : sm_cka 213 sm_o213 = true := by decide +kernel
set_option maxRecDepth 100000 in
theorem sm_ok214 : sm_cka 214 sm_o214 = true := by decide +kernel
set_option maxRecDepth 100000 in
theorem sm_ok215 : sm_cka 215 sm_o215 = true := by decide +kernel
set_option maxRecDepth 100000 in
theorem sm_ok216 : sm_cka 216 sm_o216 = true := by decide +kernel
set_option maxRecDepth 100000 in
theorem sm_ok217 : sm_cka 217 sm_o217 = true := by decide +kernel
end
section
set_option maxRecDepth 100000 in
theorem sm_ok218 : sm_cka 218 sm_o218 = true := by decide +kernel
set_option maxRecDepth 100000 in
theorem sm_ok219 : sm_cka 219 sm_o219 = true := by decide +kernel
set_option maxRecDepth 100000 in
theorem sm_ok220 : sm_cka 220 sm_o220 = true := by decide +kernel
set_option maxRecDepth 100000 in
theorem sm_ok221 : sm_cka 221 sm_o221 = true := by decide +kernel
set_option maxRecDepth 100000 in
theorem sm_ok222 : sm_cka 222 sm_o222 = true := by decide +kernel
set_option maxRecDepth 100000 in
theorem sm_ok223 : sm_cka 223 sm_o223 = true := by decide +kernel
set_option maxRecDepth 100000 in
theorem sm_ok224 : sm_cka 224 sm_o224 = true := by decide +kernel
set_option maxRecDepth 100000 in
theorem sm_ok225 : sm_cka 225 sm_o225 = true := by decide +kernel
set_option maxRecDepth 100000 in
theorem sm_ok226 : sm_cka 226 sm_o226 = true := by decide +kernel
set_option maxRecDepth 100000 in
theorem sm_ok227 : sm_cka 227 sm_o227 = true := by decide +kernel
set_option maxRecDepth 100000 in
theorem sm_ok228 : sm_cka 228 sm_o228 = true := by decide +kernel
set_option maxRecDepth 100000 in
theorem sm_ok229 : sm_cka 229 sm_o229 = true := by decide +kernel
end
section
set_option maxRecDepth 100000 in
theorem sm_ok230 : sm_cka 230 sm_o230 = true := by decide +kernel
set_option maxRecDepth 100000 in
theorem sm_ok231 : sm_cka 231 sm_o231 = true := by decide +kernel
set_option maxRecDepth 100000 in
theorem sm_ok232 : sm_cka 232 sm_o232 = true := by decide +kernel
set_option maxRecDepth 100000 in
theorem sm_ok233 : sm_cka 233 sm_o233 = true := by decide +kernel
set_option maxRecDepth 100000 in
theorem sm_ok234 : sm_cka 234 sm_o234 = true := by decide +kernel
set_option maxRecDepth 100000 in
theorem sm_ok235 : sm_cka 235 sm_o235 = true := by decide +kernel
set_option maxRecDepth 100000 in
theorem sm_ok236 : sm_cka 236 sm_o236 = true := by decide +kernel
set_option maxRecDepth 100000 in
theorem sm_ok237 : sm_cka 237 sm_o237 = true := by decide +kernel
set_option maxRecDepth 100000 in
theorem sm_ok238 : sm_cka 238 sm_o238 = true := by decide +kernel
set_option maxRecDepth 100000 in
theorem sm_ok239 : sm_cka 239 sm_o239 = true := by decide +kernel
set_option maxRecDepth 100000 in
theorem sm_ok240 : sm_cka 240 sm_o240 = true := by decide +kernel
end
section
set_option maxRecDepth 100000 in
theorem sm_ok241_0 : sm_cka 241 ((sm_o241).take 120) = true := by decide +kernel
set_option maxRecDepth 100000 in
theorem sm_ok241_1 : sm_cka 241 (((sm_o241.drop 120)).take 120) = true := by decide +kernel
set_option maxRecDepth 100000 in
theorem sm_ok241_2 : sm_cka 241 ((((sm_o241.drop 120).drop 120)).take 120) = true := by decide +kernel
set_option maxRecDepth 100000 in
theorem sm_ok241_3 : sm_cka 241 (((((sm_o241.drop 120).drop 120).drop 120)).take 120) = true := by decide +kernel
set_option maxRecDepth 100000 in
theorem sm_ok241_4 : sm_cka 241 ((((((sm_o241.drop 120).drop 120).drop 120).drop 120)).take 120) = true := by decide +kernel
set_option maxRecDepth 100000 in
theorem sm_ok241_5 : sm_cka 241 (((((((sm_o241.drop 120).drop 120).drop 120).drop 120).drop 120)).take 120) = true := by decide +kernel
set_option maxRecDepth 100000 in
theorem sm_ok241_6 : sm_cka 241 ((((((((sm_o241.drop 120).drop 120).drop 120).drop 120).drop 120).drop 120)).take 120) = true := by decide +kernel
theorem sm_ok241 : sm_cka 241 sm_o241 = true := sm_cka_cut 241 _ 120 (sm_ok241_0) (sm_cka_cut 241 _ 120 (sm_ok241_1) (sm_cka_cut 241 _ 120 (sm_ok241_2) (sm_cka_cut 241 _ 120 (sm_ok241_3) (sm_cka_cut 241 _ 120 (sm_ok241_4) (sm_cka_cut 241 _ 120 (sm_ok241_5) (sm_cka_end 241 _ 120 sm_ok241_6 (by decide +kernel)))))))
end
section
set_option maxRecDepth 100000 in
theorem sm_ck_list : sm_ckl sm_cka 0 sm_cds = true := by
  simp only [sm_cds, sm_ckl, sm_ok0, sm_ok1, sm_ok2, sm_ok3, sm_ok4, sm_ok5, sm_ok6, sm_ok7, sm_ok8, sm_ok9, sm_ok10, sm_ok11, sm_ok12, sm_ok13, sm_ok14, sm_ok15, sm_ok16, sm_ok17, sm_ok18, sm_ok19, sm_ok20, sm_ok21, sm_ok22, sm_ok23, sm_ok24, sm_ok25, sm_ok26, sm_ok27, sm_ok28, sm_ok29, sm_ok30, sm_ok31, sm_ok32, sm_ok33, sm_ok34, sm_ok35, sm_ok36, sm_ok37, sm_ok38, sm_ok39, sm_ok40, sm_ok41, sm_ok42, sm_ok43, sm_ok44, sm_ok45, sm_ok46, sm_ok47, sm_ok48, sm_ok49, sm_ok50, sm_ok51, sm_ok52, sm_ok53, sm_ok54, sm_ok55, sm_ok56, sm_ok57, sm_ok58, sm_ok59, sm_ok60, sm_ok61, sm_ok62, sm_ok63, sm_ok64, sm_ok65, sm_ok66, sm_ok67, sm_ok68, sm_ok69, sm_ok70, sm_ok71, sm_ok72, sm_ok73, sm_ok74, sm_ok75, sm_ok76, sm_ok77, sm_ok78, sm_ok79, sm_ok80, sm_ok81, sm_ok82, sm_ok83, sm_ok84, sm_ok85, sm_ok86, sm_ok87, sm_ok88, sm_ok89, sm_ok90, sm_ok91, sm_ok92, sm_ok93, sm_ok94, sm_ok95, sm_ok96, sm_ok97, sm_ok98, sm_ok99, sm_ok100, sm_ok101, sm_ok102, sm_ok103, sm_ok104, sm_ok105, sm_ok106, sm_ok107, sm_ok108, sm_ok109, sm_ok110, sm_ok111, sm_ok112, sm_ok113, sm_ok114, sm_ok115, sm_ok116, sm_ok117, sm_ok118, sm_ok119, sm_ok120, sm_ok121, sm_ok122, sm_ok123, sm_ok124, sm_ok125, sm_ok126, sm_ok127, sm_ok128, sm_ok129, sm_ok130, sm_ok131, sm_ok132, sm_ok133, sm_ok134, sm_ok135, sm_ok136, sm_ok137, sm_ok138, sm_ok139, sm_ok140, sm_ok141, sm_ok142, sm_ok143, sm_ok144, sm_ok145, sm_ok146, sm_ok147, sm_ok148, sm_ok149, sm_ok150, sm_ok151, sm_ok152, sm_ok153, sm_ok154, sm_ok155, sm_ok156, sm_ok157, sm_ok158, sm_ok159, sm_ok160, sm_ok161, sm_ok162, sm_ok163, sm_ok164, sm_ok165, sm_ok166, sm_ok167, sm_ok168, sm_ok169, sm_ok170, sm_ok171, sm_ok172, sm_ok173, sm_ok174, sm_ok175, sm_ok176, sm_ok177, sm_ok178, sm_ok179, sm_ok180, sm_ok181, sm_ok182, sm_ok183, sm_ok184, sm_ok185, sm_ok186, sm_ok187, sm_ok188, sm_ok189, sm_ok190, sm_ok191, sm_ok192, sm_ok193, sm_ok194, sm_ok195, sm_ok196, sm_ok197, sm_ok198, sm_ok199, sm_ok200, sm_ok201, sm_ok202, sm_ok203, sm_ok204, sm_ok205, sm_ok206, sm_ok207, sm_ok208, sm_ok209, sm_ok210, sm_ok211, sm_ok212, sm_ok213, sm_ok214, sm_ok215, sm_ok216, sm_ok217, sm_ok218, sm_ok219, sm_ok220, sm_ok221, sm_ok222, sm_ok223, sm_ok224, sm_ok225, sm_ok226, sm_ok227, sm_ok228, sm_ok229, sm_ok230, sm_ok231, sm_ok232, sm_ok233, sm_ok234, sm_ok235, sm_ok236, sm_ok237, sm_ok238, sm_ok239, sm_ok240, sm_ok241, Bool.and_self, Nat.reduceAdd]
theorem sm_ck_at {k pc : Nat} {e : sm_E} (h : sm_lk (sm_cd k) pc = some e) : sm_ck k pc e = true := by
  have h1 := sm_ckl_at sm_cka (fun _ => rfl) sm_cds 0 k sm_ck_list
  rw [Nat.zero_add] at h1
  exact sm_lk_all _ pc e h1 h
def sm_mka : Nat → List (Nat × Nat × Nat × Nat × Nat × Nat) → (Nat → (Nat × Nat × Nat × Nat × Nat × Nat) → Bool) → Bool
  | _, [], _ => true
  | k, q :: t, f => f k q && sm_mka (k + 1) t f
theorem sm_mka_at (f : Nat → (Nat × Nat × Nat × Nat × Nat × Nat) → Bool) : ∀ (l : List (Nat × Nat × Nat × Nat × Nat × Nat)) (k0 i : Nat), sm_mka k0 l f = true → i < l.length → f (k0 + i) (sm_nth (0, 0, 0, 0, 0, 0) l i) = true
  | [], k0, i, _, hi => by cases hi
  | c :: t, k0, 0, h, _ => by
    simp only [sm_mka, Bool.and_eq_true] at h
    exact h.1
  | c :: t, k0, i + 1, h, hi => by
    simp only [sm_mka, Bool.and_eq_true] at h
    have := sm_mka_at f t (k0 + 1) i h.2 (by simpa using hi)
    rw [show k0 + (i + 1) = k0 + 1 + i by omega]
    exact this
theorem sm_mka_cut (f : Nat → (Nat × Nat × Nat × Nat × Nat × Nat) → Bool) : ∀ (n : Nat) (l : List (Nat × Nat × Nat × Nat × Nat × Nat)) (k : Nat), sm_mka k (l.take n) f = true → sm_mka (k + n) (l.drop n) f = true → sm_mka k l f = true
  | 0, l, k, _, h => by simpa using h
  | n + 1, [], k, _, _ => rfl
  | n + 1, q :: t, k, h1, h2 => by
    simp only [List.take_succ_cons, List.drop_succ_cons, sm_mka, Bool.and_eq_true] at *
    exact ⟨h1.1, sm_mka_cut f n t (k + 1) h1.2 (by rw [show k + 1 + n = k + (n + 1) by omega]; exact h2)⟩
end
section
set_option maxRecDepth 100000 in
theorem sm_mk_0 : sm_mka 0 ((sm_mkl).take 10) sm_mk = true := by decide +kernel
set_option maxRecDepth 100000 in
theorem sm_mk_1 : sm_mka 10 (((sm_mkl.drop 10)).take 10) sm_mk = true := by decide +kernel
set_option maxRecDepth 100000 in
theorem sm_mk_2 : sm_mka 20 ((((sm_mkl.drop 10).drop 10)).take 10) sm_mk = true := by decide +kernel
set_option maxRecDepth 100000 in
theorem sm_mk_3 : sm_mka 30 (((((sm_mkl.drop 10).drop 10).drop 10)).take 10) sm_mk = true := by decide +kernel
set_option maxRecDepth 100000 in
theorem sm_mk_4 : sm_mka 40 ((((((sm_mkl.drop 10).drop 10).drop 10).drop 10)).take 10) sm_mk = true := by decide +kernel
end
section
set_option maxRecDepth 100000 in
theorem sm_mk_5 : sm_mka 50 (((((((sm_mkl.drop 10).drop 10).drop 10).drop 10).drop 10)).take 10) sm_mk = true := by decide +kernel
set_option maxRecDepth 100000 in
theorem sm_mk_6 : sm_mka 60 ((((((((sm_mkl.drop 10).drop 10).drop 10).drop 10).drop 10).drop 10)).take 10) sm_mk = true := by decide +kernel
set_option maxRecDepth 100000 in
theorem sm_mk_7 : sm_mka 70 (((((((((sm_mkl.drop 10).drop 10).drop 10).drop 10).drop 10).drop 10).drop 10)).take 10) sm_mk = true := by decide +kernel
set_option maxRecDepth 100000 in
theorem sm_mk_8 : sm_mka 80 ((((((((((sm_mkl.drop 10).drop 10).drop 10).drop 10).drop 10).drop 10).drop 10).drop 10)).take 10) sm_mk = true := by decide +kernel
set_option maxRecDepth 100000 in
theorem sm_mk_9 : sm_mka 90 (((((((((((sm_mkl.drop 10).drop 10).drop 10).drop 10).drop 10).drop 10).drop 10).drop 10).drop 10)).take 10) sm_mk = true := by decide +kernel
end
section
set_option maxRecDepth 100000 in
theorem sm_mk_10 : sm_mka 100 ((((((((((((sm_mkl.drop 10).drop 10).drop 10).drop 10).drop 10).drop 10).drop 10).drop 10).drop 10).drop 10)).take 10) sm_mk = true := by decide +kernel
set_option maxRecDepth 100000 in
theorem sm_mk_11 : sm_mka 110 (((((((((((((sm_mkl.drop 10).drop 10).drop 10).drop 10).drop 10).drop 10).drop 10).drop 10).drop 10).drop 10).drop 10)).take 10) sm_mk = true := by decide +kernel
set_option maxRecDepth 100000 in
theorem sm_mk_12 : sm_mka 120 ((((((((((((((sm_mkl.drop 10).drop 10).drop 10).drop 10).drop 10).drop 10).drop 10).drop 10).drop 10).drop 10).drop 10).drop 10)).take 10) sm_mk = true := by decide +kernel
set_option maxRecDepth 100000 in
theorem sm_mk_13 : sm_mka 130 (((((((((((((((sm_mkl.drop 10).drop 10).drop 10).drop 10).drop 10).drop 10).drop 10).drop 10).drop 10).drop 10).drop 10).drop 10).drop 10)).take 10) sm_mk = true := by decide +kernel
set_option maxRecDepth 100000 in
theorem sm_mk_14 : sm_mka 140 ((((((((((((((((sm_mkl.drop 10).drop 10).drop 10).drop 10).drop 10).drop 10).drop 10).drop 10).drop 10).drop 10).drop 10).drop 10).drop 10).drop 10)).take 10) sm_mk = true := by decide +kernel
end
section
set_option maxRecDepth 100000 in
theorem sm_mk_15 : sm_mka 150 (((((((((((((((((sm_mkl.drop 10).drop 10).drop 10).drop 10).drop 10).drop 10).drop 10).drop 10).drop 10).drop 10).drop 10).drop 10).drop 10).drop 10).drop 10)).take 10) sm_mk = true := by decide +kernel
set_option maxRecDepth 100000 in
theorem sm_mk_16 : sm_mka 160 ((((((((((((((((((sm_mkl.drop 10).drop 10).drop 10).drop 10).drop 10).drop 10).drop 10).drop 10).drop 10).drop 10).drop 10).drop 10).drop 10).drop 10).drop 10).drop 10)).take 10) sm_mk = true := by decide +kernel
set_option maxRecDepth 100000 in
theorem sm_mk_17 : sm_mka 170 (((((((((((((((((((sm_mkl.drop 10).drop 10).drop 10).drop 10).drop 10).drop 10).drop 10).drop 10).drop 10).drop 10).drop 10).drop 10).drop 10).drop 10).drop 10).drop 10).drop 10)).take 10) sm_mk = true := by decide +kernel
set_option maxRecDepth 100000 in
theorem sm_mk_18 : sm_mka 180 ((((((((((((((((((((sm_mkl.drop 10).drop 10).drop 10).drop 10).drop 10).drop 10).drop 10).drop 10).drop 10).drop 10).drop 10).drop 10).drop 10).drop 10).drop 10).drop 10).drop 10).drop 10)).take 10) sm_mk = true := by decide +kernel
set_option maxRecDepth 100000 in
theorem sm_mk_19 : sm_mka 190 (((((((((((((((((((((sm_mkl.drop 10).drop 10).drop 10).drop 10).drop 10).drop 10).drop 10).drop 10).drop 10).drop 10).drop 10).drop 10).drop 10).drop 10).drop 10).drop 10).drop 10).drop 10).drop 10)).take 10) sm_mk = true := by decide +kernel
end
section
set_option maxRecDepth 100000 in
theorem sm_mk_20 : sm_mka 200 ((((((((((((((((((((((sm_mkl.drop 10).drop 10).drop 10).drop 10).drop 10).drop 10).drop 10).drop 10).drop 10).drop 10).drop 10).drop 10).drop 10).drop 10).drop 10).drop 10).drop 10).drop 10).drop 10).drop 10)).take 10) sm_mk = true := by decide +kernel
set_option maxRecDepth 100000 in
theorem sm_mk_21 : sm_mka 210 (((((((((((((((((((((((sm_mkl.drop 10).drop 10).drop 10).drop 10).drop 10).drop 10).drop 10).drop 10).drop 10).drop 10).drop 10).drop 10).drop 10).drop 10).drop 10).drop 10).drop 10).drop 10).drop 10).drop 10).drop 10)).take 10) sm_mk = true := by decide +kernel
set_option maxRecDepth 100000 in
theorem sm_mk_22 : sm_mka 220 ((((((((((((((((((((((((sm_mkl.drop 10).drop 10).drop 10).drop 10).drop 10).drop 10).drop 10).drop 10).drop 10).drop 10).drop 10).drop 10).drop 10).drop 10).drop 10).drop 10).drop 10).drop 10).drop 10).drop 10).drop 10).drop 10)).take 10) sm_mk = true := by decide +kernel
set_option maxRecDepth 100000 in
theorem sm_mk_23 : sm_mka 230 (((((((((((((((((((((((((sm_mkl.drop 10).drop 10).drop 10).drop 10).drop 10).drop 10).drop 10).drop 10).drop 10).drop 10).drop 10).drop 10).drop 10).drop 10).drop 10).drop 10).drop 10).drop 10).drop 10).drop 10).drop 10).drop 10).drop 10)).take 10) sm_mk = true := by decide +kernel
set_option maxRecDepth 100000 in
theorem sm_mk_24 : sm_mka 240 (((((((((((((((((((((((((sm_mkl.drop 10).drop 10).drop 10).drop 10).drop 10).drop 10).drop 10).drop 10).drop 10).drop 10).drop 10).drop 10).drop 10).drop 10).drop 10).drop 10).drop 10).drop 10).drop 10).drop 10).drop 10).drop 10).drop 10).drop 10)) sm_mk = true := by decide +kernel
end
section
theorem sm_mk_list : sm_mka 0 sm_mkl sm_mk = true := sm_mka_cut _ 10 _ 0 sm_mk_0 (sm_mka_cut _ 10 _ 10 sm_mk_1 (sm_mka_cut _ 10 _ 20 sm_mk_2 (sm_mka_cut _ 10 _ 30 sm_mk_3 (sm_mka_cut _ 10 _ 40 sm_mk_4 (sm_mka_cut _ 10 _ 50 sm_mk_5 (sm_mka_cut _ 10 _ 60 sm_mk_6 (sm_mka_cut _ 10 _ 70 sm_mk_7 (sm_mka_cut _ 10 _ 80 sm_mk_8 (sm_mka_cut _ 10 _ 90 sm_mk_9 (sm_mka_cut _ 10 _ 100 sm_mk_10 (sm_mka_cut _ 10 _ 110 sm_mk_11 (sm_mka_cut _ 10 _ 120 sm_mk_12 (sm_mka_cut _ 10 _ 130 sm_mk_13 (sm_mka_cut _ 10 _ 140 sm_mk_14 (sm_mka_cut _ 10 _ 150 sm_mk_15 (sm_mka_cut _ 10 _ 160 sm_mk_16 (sm_mka_cut _ 10 _ 170 sm_mk_17 (sm_mka_cut _ 10 _ 180 sm_mk_18 (sm_mka_cut _ 10 _ 190 sm_mk_19 (sm_mka_cut _ 10 _ 200 sm_mk_20 (sm_mka_cut _ 10 _ 210 sm_mk_21 (sm_mka_cut _ 10 _ 220 sm_mk_22 (sm_mka_cut _ 10 _ 230 sm_mk_23 (sm_mk_24))))))))))))))))))))))))
theorem sm_mk_at {k : Nat} (h : k < sm_klaw) : sm_mk k (sm_nth (0, 0, 0, 0, 0, 0) sm_mkl k) = true := by
  have q := sm_mka_at sm_mk sm_mkl 0 k sm_mk_list (by rw [show sm_mkl.length = sm_klaw by decide +kernel]; exact h)
  rw [Nat.zero_add] at q
  exact q
end
section
-- THE PLAIN MACHINE: memory by cell number and place, no heap, no tables; a judgement over it (sm_W), rules of it; its soundness stands in the parts behind
abbrev sm_Y : Type := Nat → Option (Nat ⊕ (Nat × Nat))
/-- how many cells; what kind each is; ints, longs, references by cell and place -/
abbrev sm_Mem : Type := Nat × sm_Y × (Nat → Nat → Int32) × (Nat → Nat → Int64) × (Nat → Nat → Option Nat)
abbrev sm_Q : Type := Option Value → sm_Mem → Prop
abbrev sm_X : Type := Nat → Nat → Nat → Nat → Nat → List (Option Value) → List Value → sm_Mem → sm_Q → Prop
/-- what lies outside: arrays of ints by number (length, contents), texts by number -/
abbrev sm_O : Type := (Nat → Nat × (Nat → Int32)) × (Nat → List Int32)
def sm_st {α : Type} (I : Nat → Nat → α) (o j : Nat) (v : α) : Nat → Nat → α := fun o' j' => if o' = o ∧ j' = j then v else I o' j'
def sm_cp {α : Type} (I : Nat → Nat → α) (o sp q dp n : Nat) : Nat → Nat → α := fun o' j' => if o' = q ∧ dp ≤ j' ∧ j' < dp + n then I o (sp + (j' - dp)) else I o' j'
def sm_up {α : Type} (y : Nat → α) (n : Nat) (v : α) : Nat → α := fun o => if o = n then v else y o
def sm_ix {α : Type} : List (Option α) → Nat → Option α
  | [], _ => none
  | a :: _, 0 => a
  | _ :: t, n + 1 => sm_ix t n
/-- local variables: place i becomes v; a long that began just ahead is no more -/
def sm_iv : Option Value → Option Value
  | some (.long _) => none
  | some (.double _) => none
  | a => a
def sm_se : List (Option Value) → Nat → Option Value → List (Option Value)
  | [], _, _ => []
  | _ :: t, 0, v => v :: t
  | [a], _ + 1, _ => [a]
  | a :: _ :: t, 1, v => sm_iv a :: v :: t
  | a :: b :: t, n + 2, v => a :: sm_se (b :: t) (n + 1) v
/-- the same, and the place behind it is none (a long comes) -/
def sm_cl : List (Option Value) → Nat → List (Option Value)
  | [], _ => []
  | _ :: t, 0 => none :: t
  | a :: t, n + 1 => a :: sm_cl t n
def sm_no : Nat → List (Option Value)
  | 0 => []
  | n + 1 => none :: sm_no n
def sm_en : List Value → Nat → List (Option Value)
  | [], n => sm_no n
  | .long x :: t, n + 2 => some (.long x) :: none :: sm_en t n
  | .long _ :: _, _ => []
  | .double _ :: _, n => sm_no n
  | _ :: _, 0 => []
  | v :: t, n + 1 => some v :: sm_en t n
def sm_ct : List Value → Nat
  | [] => 0
  | v :: t => v.category + sm_ct t
def sm_p1 (st : List Value) (f : Int32 → List Value → Prop) : Prop := match st with
  | .int x :: t => f x t
  | _ => False
def sm_p2 (st : List Value) (f : Int32 → Int32 → List Value → Prop) : Prop := match st with
  | .int y :: .int x :: t => f x y t
  | _ => False
def sm_q1 (st : List Value) (f : Int64 → List Value → Prop) : Prop := match st with
  | .long x :: t => f x t
  | _ => False
def sm_q2 (st : List Value) (f : Int64 → Int64 → List Value → Prop) : Prop := match st with
  | .long y :: .long x :: t => f x y t
  | _ => False
def sm_pr (st : List Value) (f : Nat → List Value → Prop) : Prop := match st with
  | .ref o :: t => f o t
  | _ => False
/-- a cell of ours, or one that lies outside -/
def sm_pe (st : List Value) (f : Nat → List Value → Prop) (g : Nat → List Value → Prop) : Prop := match st with
  | .ref o :: t => f o t
  | .retAddr o :: t => g o t
  | _ => False
def sm_ph (st : List Value) (f : Value → List Value → Prop) : Prop := match st with
  | v :: t => f v t
  | _ => False
def sm_rt1 (st : List Value) (f : Value → Prop) : Prop := match st with
  | [v] => f v
  | _ => False
def sm_li (l : List (Option Value)) (i : Nat) (f : Int32 → Prop) : Prop := match sm_ix l i with
  | some (.int v) => f v
  | _ => False
def sm_ll (l : List (Option Value)) (i : Nat) (f : Int64 → Prop) : Prop := match sm_ix l i with
  | some (.long v) => f v
  | _ => False
def sm_la (l : List (Option Value)) (i : Nat) (f : Value → Prop) : Prop := match sm_ix l i with
  | some (.ref v) => f (.ref v)
  | some (.retAddr v) => f (.retAddr v)
  | _ => False
/-- a reference that is read: null, or a cell -/
def sm_rr (r : Option Nat) (f : Value → Prop) : Prop := (r = none → f .null) ∧ ∀ q : Nat, r = some q → f (.ref q)
/-- what an if asks of one int, of two -/
def sm_c1 (c : ClassFile.Cond) (x : Int32) (t f : Prop) : Prop := match c with
  | .eq => (x = 0 → t) ∧ (¬ x = 0 → f)
  | .ne => (¬ x = 0 → t) ∧ (x = 0 → f)
  | .lt => (x < 0 → t) ∧ (¬ x < 0 → f)
  | .ge => (0 ≤ x → t) ∧ (¬ 0 ≤ x → f)
  | .gt => (0 < x → t) ∧ (¬ 0 < x → f)
  | .le => (x ≤ 0 → t) ∧ (¬ x ≤ 0 → f)
def sm_c2 (c : ClassFile.Cond) (x y : Int32) (t f : Prop) : Prop := match c with
  | .eq => (x = y → t) ∧ (¬ x = y → f)
  | .ne => (¬ x = y → t) ∧ (x = y → f)
  | .lt => (x < y → t) ∧ (¬ x < y → f)
  | .ge => (y ≤ x → t) ∧ (¬ y ≤ x → f)
  | .gt => (y < x → t) ∧ (¬ y < x → f)
  | .le => (x ≤ y → t) ∧ (¬ x ≤ y → f)
/-- a field that is put: 0 int, 1 long, 2 reference, 3 boolean -/
def sm_pf (kd : Nat) (o b : Nat) (v : Value) (μ : sm_Mem) (N : sm_Mem → Prop) : Prop := match kd, v with
  | 0, .int x => N (μ.1, μ.2.1, sm_st μ.2.2.1 o b x, μ.2.2.2.1, μ.2.2.2.2)
  | 3, .int x => (x = 0 ∨ x = 1) ∧ N (μ.1, μ.2.1, sm_st μ.2.2.1 o b x, μ.2.2.2.1, μ.2.2.2.2)
  | 1, .long x => N (μ.1, μ.2.1, μ.2.2.1, sm_st μ.2.2.2.1 o b x, μ.2.2.2.2)
  | 2, .ref q => N (μ.1, μ.2.1, μ.2.2.1, μ.2.2.2.1, sm_st μ.2.2.2.2 o b (some q))
  | _, _ => False
def sm_gf (kd : Nat) (o b : Nat) (μ : sm_Mem) (N : Value → Prop) : Prop := match kd with
  | 1 => N (.long (μ.2.2.2.1 o b))
  | 2 => sm_rr (μ.2.2.2.2 o b) N
  | _ => N (.int (μ.2.2.1 o b))
def sm_callN (X : sm_X) (d bc bs k pc : Nat) (l : List (Option Value)) (μ : sm_Mem) (Q : sm_Q) (k2 ml : Nat) (as rest : List Value) : Prop :=
  ∃ (d1 c1 s1 : Nat) (P : sm_Q), d1 < d ∧ c1 ≤ bc ∧ s1 ≤ bs ∧ sm_ct rest ≤ 8 ∧ sm_ct as ≤ ml ∧ X d1 c1 s1 k2 0 (sm_en as ml) [] μ P ∧ ∀ (r : Option Value) (μ1 : sm_Mem), P r μ1 → X d (bc - c1) (bs - s1) k (pc + 3) l (r.toList ++ rest) μ1 Q
/-- what an instruction asks for: X of what comes behind it -/
def sm_i (ex : sm_O) (X : sm_X) (d bc bs k pc : Nat) (l : List (Option Value)) (st : List Value) (μ : sm_Mem) (Q : sm_Q) (ins : Instr) (a b c : Nat) (v : Value) : Prop := match ins with
  | .iconst _ => X d bc bs k (pc + 1) l (v :: st) μ Q
  | .lconst _ => X d bc bs k (pc + 1) l (v :: st) μ Q
  | .bipush _ => X d bc bs k (pc + 2) l (v :: st) μ Q
  | .sipush _ => X d bc bs k (pc + 3) l (v :: st) μ Q
  | .ldc _ => X d bc bs k (pc + 2) l (v :: st) μ Q
  | .ldc_w _ => X d bc bs k (pc + 3) l (v :: st) μ Q
  | .ldc2_w _ => X d bc bs k (pc + 3) l (v :: st) μ Q
  | .iload i => sm_li l i fun x => X d bc bs k (pc + 2) l (.int x :: st) μ Q
  | .iload_n i => sm_li l i.val fun x => X d bc bs k (pc + 1) l (.int x :: st) μ Q
  | .lload i => sm_ll l i fun x => X d bc bs k (pc + 2) l (.long x :: st) μ Q
  | .lload_n i => sm_ll l i.val fun x => X d bc bs k (pc + 1) l (.long x :: st) μ Q
  | .aload i => sm_la l i fun x => X d bc bs k (pc + 2) l (x :: st) μ Q
  | .aload_n i => sm_la l i.val fun x => X d bc bs k (pc + 1) l (x :: st) μ Q
  | .istore i => sm_p1 st fun x t => i < l.length ∧ X d bc bs k (pc + 2) (sm_se l i (some (.int x))) t μ Q
  | .istore_n i => sm_p1 st fun x t => i.val < l.length ∧ X d bc bs k (pc + 1) (sm_se l i.val (some (.int x))) t μ Q
  | .lstore i => sm_q1 st fun x t => i + 1 < l.length ∧ X d bc bs k (pc + 2) (sm_cl (sm_se l i (some (.long x))) (i + 1)) t μ Q
  | .lstore_n i => sm_q1 st fun x t => i.val + 1 < l.length ∧ X d bc bs k (pc + 1) (sm_cl (sm_se l i.val (some (.long x))) (i.val + 1)) t μ Q
  | .astore i => sm_pr st fun x t => i < l.length ∧ X d bc bs k (pc + 2) (sm_se l i (some (.ref x))) t μ Q
  | .astore_n i => sm_pr st fun x t => i.val < l.length ∧ X d bc bs k (pc + 1) (sm_se l i.val (some (.ref x))) t μ Q
  | .iinc i _ => sm_p1 [v] fun w _ => sm_li l i fun x => i < l.length ∧ X d bc bs k (pc + 3) (sm_se l i (some (.int (x + w)))) st μ Q
  | .iadd => sm_p2 st fun x y t => X d bc bs k (pc + 1) l (.int (x + y) :: t) μ Q
  | .isub => sm_p2 st fun x y t => X d bc bs k (pc + 1) l (.int (x - y) :: t) μ Q
  | .imul => sm_p2 st fun x y t => X d bc bs k (pc + 1) l (.int (x * y) :: t) μ Q
  | .iand => sm_p2 st fun x y t => X d bc bs k (pc + 1) l (.int (x &&& y) :: t) μ Q
  | .ior => sm_p2 st fun x y t => X d bc bs k (pc + 1) l (.int (x ||| y) :: t) μ Q
  | .ixor => sm_p2 st fun x y t => X d bc bs k (pc + 1) l (.int (x ^^^ y) :: t) μ Q
  | .ishl => sm_p2 st fun x y t => X d bc bs k (pc + 1) l (.int (x <<< (y &&& 31)) :: t) μ Q
  | .ishr => sm_p2 st fun x y t => X d bc bs k (pc + 1) l (.int (x >>> (y &&& 31)) :: t) μ Q
  | .iushr => sm_p2 st fun x y t => X d bc bs k (pc + 1) l (.int (x.toUInt32 >>> (y.toUInt32 &&& Int32.toUInt32 31)).toInt32 :: t) μ Q
  | .ineg => sm_p1 st fun x t => X d bc bs k (pc + 1) l (.int (-x) :: t) μ Q
  | .irem => sm_p2 st fun x y t => ¬ y = 0 ∧ X d bc bs k (pc + 1) l (.int (x - x / y * y) :: t) μ Q
  | .ladd => sm_q2 st fun x y t => X d bc bs k (pc + 1) l (.long (x + y) :: t) μ Q
  | .lsub => sm_q2 st fun x y t => X d bc bs k (pc + 1) l (.long (x - y) :: t) μ Q
  | .lmul => sm_q2 st fun x y t => X d bc bs k (pc + 1) l (.long (x * y) :: t) μ Q
  | .ldiv => sm_q2 st fun x y t => ¬ y = 0 ∧ X d bc bs k (pc + 1) l (.long (x / y) :: t) μ Q
  | .lrem => sm_q2 st fun x y t => ¬ y = 0 ∧ X d bc bs k (pc + 1) l (.long (x - x / y * y) :: t) μ Q
  | .lcmp => sm_q2 st fun x y t => X d bc bs k (pc + 1) l (.int (lg_cmp x y) :: t) μ Q
  | .i2l => sm_p1 st fun x t => X d bc bs k (pc + 1) l (.long x.toInt64 :: t) μ Q
  | .l2i => sm_q1 st fun x t => X d bc bs k (pc + 1) l (.int x.toInt32 :: t) μ Q
  | .dup => sm_ph st fun x t => x.category = 1 ∧ X d bc bs k (pc + 1) l (x :: x :: t) μ Q
  | .pop => sm_ph st fun x t => x.category = 1 ∧ X d bc bs k (pc + 1) l t μ Q
  | .dup2 => sm_ph st fun x t => sm_ph t fun y t => x.category = 1 ∧ y.category = 1 ∧ X d bc bs k (pc + 1) l (x :: y :: x :: y :: t) μ Q
  | .goto _ => X d bc bs k a l st μ Q
  | .ifCond q _ => sm_p1 st fun x t => sm_c1 q x (X d bc bs k a l t μ Q) (X d bc bs k (pc + 3) l t μ Q)
  | .if_icmp q _ => sm_p2 st fun x y t => sm_c2 q x y (X d bc bs k a l t μ Q) (X d bc bs k (pc + 3) l t μ Q)
  | .ifnull _ => sm_ph st fun x t => match x with
    | .null => X d bc bs k a l t μ Q
    | .ref _ => X d bc bs k (pc + 3) l t μ Q
    | _ => False
  | .ifnonnull _ => sm_ph st fun x t => match x with
    | .null => X d bc bs k (pc + 3) l t μ Q
    | .ref _ => X d bc bs k a l t μ Q
    | _ => False
  | .tableswitch _ lo hi offs => sm_p1 st fun x t => (x.toInt < lo ∨ hi < x.toInt → X d bc bs k a l t μ Q) ∧ ∀ (j : Nat) (off : Int), offs[j]? = some off → x.toInt = lo + (j : Int) → X d bc bs k ((pc : Int) + off).toNat l t μ Q
  | .getfield _ => sm_pr st fun o t => μ.2.1 o = some (.inl a) ∧ sm_gf (c % 8) o b μ fun x => X d bc bs k (pc + 3) l (x :: t) μ Q
  | .putfield _ => sm_ph st fun x t => sm_pr t fun o t => μ.2.1 o = some (.inl a) ∧ sm_pf (c % 4) o b x μ fun μ1 => X d bc bs k (pc + 3) l t μ1 Q
  | .getstatic _ => X d bc bs k (pc + 3) l (v :: st) μ Q
  | .iaload => sm_p1 st fun i t => sm_pe t (fun o t => ∃ n : Nat, μ.2.1 o = some (.inr (0, n)) ∧ vp_in i n ∧ X d bc bs k (pc + 1) l (.int (μ.2.2.1 o i.toNatClampNeg) :: t) μ Q) (fun o t => o < 2 ∧ vp_in i (ex.1 o).1 ∧ X d bc bs k (pc + 1) l (.int ((ex.1 o).2 i.toNatClampNeg) :: t) μ Q)
  | .baload => sm_p1 st fun i t => sm_pr t fun o t => ∃ n : Nat, μ.2.1 o = some (.inr (2, n)) ∧ vp_in i n ∧ X d bc bs k (pc + 1) l (.int (μ.2.2.1 o i.toNatClampNeg) :: t) μ Q
  | .laload => sm_p1 st fun i t => sm_pr t fun o t => ∃ n : Nat, μ.2.1 o = some (.inr (1, n)) ∧ vp_in i n ∧ X d bc bs k (pc + 1) l (.long (μ.2.2.2.1 o i.toNatClampNeg) :: t) μ Q
  | .aaload => sm_p1 st fun i t => sm_pr t fun o t => ∃ n q : Nat, μ.2.1 o = some (.inr (q + 3, n)) ∧ vp_in i n ∧ sm_rr (μ.2.2.2.2 o i.toNatClampNeg) fun x => X d bc bs k (pc + 1) l (x :: t) μ Q
  | .iastore => sm_p1 st fun x t => sm_p1 t fun i t => sm_pr t fun o t => ∃ n : Nat, μ.2.1 o = some (.inr (0, n)) ∧ vp_in i n ∧ X d bc bs k (pc + 1) l t (μ.1, μ.2.1, sm_st μ.2.2.1 o i.toNatClampNeg x, μ.2.2.2.1, μ.2.2.2.2) Q
  | .bastore => sm_p1 st fun x t => sm_p1 t fun i t => sm_pr t fun o t => ∃ n : Nat, μ.2.1 o = some (.inr (2, n)) ∧ vp_in i n ∧ (x = 0 ∨ x = 1) ∧ X d bc bs k (pc + 1) l t (μ.1, μ.2.1, sm_st μ.2.2.1 o i.toNatClampNeg x, μ.2.2.2.1, μ.2.2.2.2) Q
  | .lastore => sm_q1 st fun x t => sm_p1 t fun i t => sm_pr t fun o t => ∃ n : Nat, μ.2.1 o = some (.inr (1, n)) ∧ vp_in i n ∧ X d bc bs k (pc + 1) l t (μ.1, μ.2.1, μ.2.2.1, sm_st μ.2.2.2.1 o i.toNatClampNeg x, μ.2.2.2.2) Q
  | .aastore => sm_pr st fun x t => sm_p1 t fun i t => sm_pr t fun o t => ∃ n q : Nat, μ.2.1 o = some (.inr (q + 3, n)) ∧ μ.2.1 x = some (.inl q) ∧ vp_in i n ∧ X d bc bs k (pc + 1) l t (μ.1, μ.2.1, μ.2.2.1, μ.2.2.2.1, sm_st μ.2.2.2.2 o i.toNatClampNeg (some x)) Q
  | .arraylength => sm_pe st (fun o t => ∃ n q : Nat, μ.2.1 o = some (.inr (q, n)) ∧ X d bc bs k (pc + 1) l (.int (nI n) :: t) μ Q) (fun o t => o < 2 ∧ X d bc bs k (pc + 1) l (.int (nI (ex.1 o).1) :: t) μ Q)
  | .new _ => 1 ≤ bc ∧ b ≤ bs ∧ X d (bc - 1) (bs - b) k (pc + 3) l (.ref μ.1 :: st) (μ.1 + 1, sm_up μ.2.1 μ.1 (some (.inl a)), μ.2.2.1, μ.2.2.2.1, μ.2.2.2.2) Q
  | .newarray _ => sm_p1 st fun x t => ¬ x < 0 ∧ x.toNatClampNeg ≤ 10000000 ∧ 1 ≤ bc ∧ x.toNatClampNeg ≤ bs ∧ X d (bc - 1) (bs - x.toNatClampNeg) k (pc + 2) l (.ref μ.1 :: t) (μ.1 + 1, sm_up μ.2.1 μ.1 (some (.inr (a, x.toNatClampNeg))), μ.2.2.1, μ.2.2.2.1, μ.2.2.2.2) Q
  | .anewarray _ => sm_p1 st fun x t => ¬ x < 0 ∧ x.toNatClampNeg ≤ 10000000 ∧ 1 ≤ bc ∧ x.toNatClampNeg ≤ bs ∧ X d (bc - 1) (bs - x.toNatClampNeg) k (pc + 3) l (.ref μ.1 :: t) (μ.1 + 1, sm_up μ.2.1 μ.1 (some (.inr (a + 3, x.toNatClampNeg))), μ.2.2.1, μ.2.2.2.1, μ.2.2.2.2) Q
  | .ireturn => sm_rt1 st fun x => sm_p1 [x] fun x _ => match c with
    | 0 => bc = 0 ∧ Q (some (.int x)) μ
    | 1 => bc = 0 ∧ (x = 0 ∨ x = 1) ∧ Q (some (.int x)) μ
    | _ => (x = 0 ∨ x = 1) ∧ Q (some (.int x)) μ
  | .lreturn => sm_rt1 st fun x => sm_q1 [x] fun x _ => bc = 0 ∧ Q (some (.long x)) μ
  | .areturn => sm_rt1 st fun x => sm_pr [x] fun x _ => bc = 0 ∧ Q (some (.ref x)) μ
  | .return_ => bc = 0 ∧ st = [] ∧ Q none μ
  | .invokevirtual _ => match c with
    | 0 => sm_pr (st.drop b) fun o t => ∃ q : Nat, μ.2.1 o = some (.inl q) ∧ sm_cn q = (sm_y a).cls ∧ sm_pr [v] fun w _ => sm_callN X d bc bs k pc l μ Q a w (.ref o :: (st.take b).reverse) t
    | 1 => sm_pe st (fun _ _ => False) fun o t => 2 ≤ o ∧ 5 ≤ d ∧ sm_ct t ≤ 8 ∧ X d bc bs k (pc + 3) l (.int (nI (ex.2 o).length) :: t) μ Q
    | 2 => sm_p1 st fun i t => sm_pe t (fun _ _ => False) fun o t => 2 ≤ o ∧ 5 ≤ d ∧ sm_ct t ≤ 8 ∧ vp_in i (ex.2 o).length ∧ X d bc bs k (pc + 3) l (.int ((ex.2 o).getD i.toNatClampNeg 0) :: t) μ Q
    | _ => False
  | .invokespecial _ => match c with
    | 0 => sm_pr (st.drop b) fun o t => sm_pr [v] fun w _ => sm_callN X d bc bs k pc l μ Q a w (.ref o :: (st.take b).reverse) t
    | 1 => sm_pr st fun _ t => 1 ≤ d ∧ sm_ct t ≤ 8 ∧ X d bc bs k (pc + 3) l t μ Q
    | _ => False
  | .invokestatic _ => match c with
    | 0 => b ≤ st.length ∧ sm_pr [v] fun w _ => sm_callN X d bc bs k pc l μ Q a w (st.take b).reverse (st.drop b)
    | 1 => sm_p2 st fun x y t => 1 ≤ d ∧ sm_ct t ≤ 8 ∧ X d bc bs k (pc + 3) l (.int (if y < x then y else x) :: t) μ Q
    | 2 => sm_p2 st fun x y t => 1 ≤ d ∧ sm_ct t ≤ 8 ∧ X d bc bs k (pc + 3) l (.int (if x < y then y else x) :: t) μ Q
    | 3 => sm_p2 st fun dp n t => sm_pr t fun q t => sm_p1 t fun sp t => sm_pr t fun o t => 1 ≤ d ∧ sm_ct t ≤ 8 ∧ ∃ n0 n1 : Nat, μ.2.1 o = some (.inr (0, n0)) ∧ μ.2.1 q = some (.inr (0, n1)) ∧ ¬ sp < 0 ∧ ¬ dp < 0 ∧ ¬ n < 0 ∧ sp.toNatClampNeg + n.toNatClampNeg ≤ n0 ∧ dp.toNatClampNeg + n.toNatClampNeg ≤ n1 ∧ X d bc bs k (pc + 3) l t (μ.1, μ.2.1, sm_cp μ.2.2.1 o sp.toNatClampNeg q dp.toNatClampNeg n.toNatClampNeg, μ.2.2.2.1, μ.2.2.2.2) Q
    | _ => False
  | _ => False
end
section
-- WHAT THE PLAIN MACHINE MEANS ON THE REAL ONE
/-- a value: cells of ours by number, from z on; what lies outside by number -/
def sm_v (z : Nat) (E : Nat → Nat) : Value → Value
  | .ref k => .ref (z + k)
  | .retAddr j => .ref (E j)
  | v => v
theorem sm_v_cat (z : Nat) (E : Nat → Nat) (v : Value) : (sm_v z E v).category = v.category := by cases v <;> rfl
def sm_rz (z : Nat) (r : Option Nat) : Option Nat := r.map (z + ·)
def sm_fv (z kd k j : Nat) (μ : sm_Mem) : Value := match kd with
  | 1 => .long (μ.2.2.2.1 k j)
  | 2 => va_rf (sm_rz z (μ.2.2.2.2 k j))
  | _ => .int (μ.2.2.1 k j)
/-- the cell with number k -/
def sm_ce (z : Nat) (cA : ClassId) (y : Option (Nat ⊕ (Nat × Nat))) (k : Nat) (μ : sm_Mem) : va_E := match y with
  | some (.inl ci) => .inr (ci, (List.range (sm_nf ci)).map fun j => sm_fv z (sm_kd ci j) k j μ)
  | some (.inr (1, n)) => .inl (cA, n, .inr (.inl (μ.2.2.2.1 k)))
  | some (.inr (0, n)) => .inl (cA, n, .inl (μ.2.2.1 k))
  | some (.inr (2, n)) => .inl (cA, n, .inl (μ.2.2.1 k))
  | some (.inr (_, n)) => .inl (cA, n, .inr (.inr (.inr (.inr fun j => sm_rz z (μ.2.2.2.2 k j)))))
  | none => .inr (0, [])
def sm_ws (z : Nat) (cA : Nat → ClassId) (μ : sm_Mem) : va_W := (List.range μ.1).map fun k => (z + k, sm_ce z (cA k) (μ.2.1 k) k μ)
def sm_aty (t : Nat) : FieldType := match t with
  | 0 => .int
  | 1 => .long
  | 2 => .boolean
  | q + 3 => .object (sm_cn q)
def sm_L (z : Nat) (E : Nat → Nat) (ls : Array Slot) (nL : Nat) (l : List (Option Value)) : Prop := l.length = nL ∧ ls.size = nL ∧ lv_wf ls ∧ ∀ (i : Nat) (v : Value), sm_ix l i = some v → ls[i]? = some (.val (sm_v z E v))
def sm_nests : List Cond := tables_1.filter fun w => match w with
  | .fieldLinkNest .. => true
  | .methodLinkNest .. => true
  | _ => false
/-- the texts, at a state -/
def sm_sl : List Nat := [26, 24, 5, 2, 2, 3, 3, 34, 45]
def sm_sb : List (List Int32) := [[114, 101, 108, 105, 101, 118, 101, 32, 115, 110, 101, 101, 122, 101, 32, 112, 97, 114, 100, 111, 110, 32, 112, 97, 115, 115], [116, 105, 114, 101, 115, 32, 114, 101, 115, 116, 115, 32, 110, 111, 116, 105, 99, 101, 115, 32, 98, 97, 114, 115], [116, 105, 109, 101, 115], [105, 102], [111, 114], [97, 110, 100], [110, 111, 116], [104, 111, 117, 114, 32, 100, 111, 110, 101, 32, 108, 97, 116, 101, 115, 116, 32, 117, 112, 32, 104, 101, 108, 100, 32, 102, 105, 116, 32, 116, 105, 114, 101, 100], [109, 97, 110, 32, 104, 111, 108, 100, 32, 116, 105, 114, 101, 100, 32, 104, 101, 108, 100, 32, 111, 116, 104, 101, 114, 32, 117, 110, 108, 105, 107, 101, 32, 104, 111, 117, 114, 32, 119, 101, 97, 116, 104, 101, 114]]
def sm_six : List Nat := [62, 64, 84, 91, 102, 111, 113, 127, 129]
def sm_SX (z : Nat) (E : Nat → Nat) (ex : sm_O) (U : State) : Prop := (∃ adV : Nat → Nat, vk_S 9 sm_sl sm_sb (fun i => E (i + 2)) adV (z ≤ ·) U U.heap) ∧ (∀ i, i < 9 → vk_R "StatueRelief$Reader" (sm_nth 0 sm_six i) (sm_nth "" sm_str i) (E (i + 2)) U) ∧ ∀ i, i < 9 → ex.2 (i + 2) = sm_nth [] sm_sb i
/-- what lies outside, at a state -/
noncomputable def sm_Ex (z : Nat) (E : Nat → Nat) (ex : sm_O) (U : State) : Prop := (∀ w ∈ sm_nests, va_Nw w U) ∧ va_AO (sm_cn 0) U ∧ va_AO (sm_cn 6) U ∧ va_AO (sm_cn 9) U ∧ sm_SX z E ex U ∧ va_Z "StatueRelief" "TERMS_MOST" "[I" (.ref (E 0)) (z ≤ ·) U U.heap ∧ (∀ o, o < 2 → E o < z ∧ ∃ cell : Cell, U.heap[E o]? = some cell ∧ U.isArrayOf cell .int ∧ cell.vm ≠ .unknown ∧ cell.slots.size = (ex.1 o).1 ∧ ∀ j : Nat, j < (ex.1 o).1 → cell.slots[j]? = some (.int ((ex.1 o).2 j)))
/-- the cells, at a heap -/
def sm_Rep (z : Nat) (D : va_G) (cA : Nat → ClassId) (μ : sm_Mem) (s : State) (H : Heap) : Prop :=
  (∀ o t n : Nat, μ.2.1 o = some (.inr (t, n)) → ArrOfT s (cA o) (sm_aty t) ∧ va_RA s (cA o) (sm_aty t)) ∧
  va_P D vwCl (sm_ws z cA μ) H ∧ (∀ o : Nat, μ.2.1 o ≠ none ↔ o < μ.1) ∧ (∀ o j : Nat, μ.1 ≤ o → μ.2.2.1 o j = 0 ∧ μ.2.2.2.1 o j = 0 ∧ μ.2.2.2.2 o j = none)
def sm_Dyn (z : Nat) (D : va_G) (R : Room) (s : State) (μ : sm_Mem) (H : Heap) (locs : List Loc) (cells slots : Nat) (cA : Nat → ClassId) (bc bs : Nat) : Prop :=
  sm_Rep z D cA μ s H ∧ cells + bc = R.cells ∧ slots + bs ≤ R.slots ∧ s.heap.size + cells = z + μ.1 ∧ va_S (z ≤ ·) s.heap H locs
/-- a method's end at pc, with what it answers -/
def sm_ri (k pc : Nat) (r : Option Value) : Prop :=
  (∃ (x : Int32) (ty : FieldType), r = some (.int x) ∧ decode (sm_by k) pc = .ok (.ireturn, 1) ∧ sm_rt k = some ty ∧ narrow ty (.int x) = .int x) ∨
  (∃ x : Int64, r = some (.long x) ∧ decode (sm_by k) pc = .ok (.lreturn, 1) ∧ sm_rt k = some .long) ∨
  (∃ (x : Nat) (n : String), r = some (.ref x) ∧ decode (sm_by k) pc = .ok (.areturn, 1) ∧ sm_rt k = some (.object n)) ∨
  (r = none ∧ decode (sm_by k) pc = .ok (.return_, 1) ∧ sm_rt k = none)
def sm_Fix (z : Nat) (E : Nat → Nat) (D : va_G) (ex : sm_O) (d k : Nat) (Q : sm_Q) (p : Program) (l0 : Launch) (e : Env) (R : Room) (s : State) (m : MethodId) (args : Array Value) (below : List Frame) (meth : Method) (c : Code) (Q' : State → Prop) : Prop :=
  p.tables.exec = Jvm.exec ∧ c.code = sm_by k ∧ c.maxLocals = sm_ml k ∧ meth.name = (sm_y k).name ∧ s.vm.findClass (sm_y k).cls = some m.cls ∧ (∀ w ∈ sm_all, w.before args s = true) ∧ d ≤ R.frames ∧ 41 * d ≤ R.locals ∧ z ≤ s.heap.size ∧ va_K D vwCl [] s ∧ sm_Ex z E ex s ∧
  ∀ (r : Option Value) (μ : sm_Mem) (H : Heap) (locs : List Loc) (cells slots : Nat) (cA : Nat → ClassId) (bc bs pc : Nat) (ls : Array Slot), sm_Dyn z D R s μ H locs cells slots cA bc bs → (bc = 0 ∨ k = sm_klaw) → Q r μ → sm_ri k pc r → W p l0 e R s m args below meth c H locs cells slots Q' (F0 m pc ls (r.map (sm_v z E)).toList)
/-- THE JUDGEMENT: from here on the method comes to its end, with Q of what it answers and of the memory -/
def sm_W (ex : sm_O) : sm_X := fun d bc bs k pc l st μ Q => ∀ (z : Nat) (E : Nat → Nat) (D : va_G) (p : Program) (l0 : Launch) (e : Env) (R : Room) (s : State) (m : MethodId) (args : Array Value) (below : List Frame) (meth : Method) (c : Code) (Q' : State → Prop) (H : Heap) (locs : List Loc) (cells slots : Nat) (cA : Nat → ClassId) (ls : Array Slot),
  sm_Fix z E D ex d k Q p l0 e R s m args below meth c Q' → sm_Dyn z D R s μ H locs cells slots cA bc bs → sm_L z E ls (sm_ml k) l → W p l0 e R s m args below meth c H locs cells slots Q' (F0 m pc ls (st.map (sm_v z E)))
def sm_F (ex : sm_O) (X : sm_X) : sm_X := fun d bc bs k pc l st μ Q => match sm_lk (sm_cd k) pc with
  | none => False
  | some e => sm_i ex X d bc bs k pc l st μ Q e.1 e.2.2.1 e.2.2.2.1 e.2.2.2.2.1 e.2.2.2.2.2.2
end
section
-- SOUNDNESS, small rows
theorem sm_p1_e {st : List Value} {f : Int32 → List Value → Prop} (h : sm_p1 st f) : ∃ x t, st = .int x :: t ∧ f x t := by
  unfold sm_p1 at h
  split at h
  · exact ⟨_, _, rfl, h⟩
  · exact h.elim
theorem sm_p2_e {st : List Value} {f : Int32 → Int32 → List Value → Prop} (h : sm_p2 st f) : ∃ x y t, st = .int y :: .int x :: t ∧ f x y t := by
  unfold sm_p2 at h
  split at h
  · exact ⟨_, _, _, rfl, h⟩
  · exact h.elim
theorem sm_q1_e {st : List Value} {f : Int64 → List Value → Prop} (h : sm_q1 st f) : ∃ x t, st = .long x :: t ∧ f x t := by
  unfold sm_q1 at h
  split at h
  · exact ⟨_, _, rfl, h⟩
  · exact h.elim
theorem sm_q2_e {st : List Value} {f : Int64 → Int64 → List Value → Prop} (h : sm_q2 st f) : ∃ x y t, st = .long y :: .long x :: t ∧ f x y t := by
  unfold sm_q2 at h
  split at h
  · exact ⟨_, _, _, rfl, h⟩
  · exact h.elim
theorem sm_pr_e {st : List Value} {f : Nat → List Value → Prop} (h : sm_pr st f) : ∃ x t, st = .ref x :: t ∧ f x t := by
  unfold sm_pr at h
  split at h
  · exact ⟨_, _, rfl, h⟩
  · exact h.elim
theorem sm_pe_e {st : List Value} {f g : Nat → List Value → Prop} (h : sm_pe st f g) : (∃ x t, st = .ref x :: t ∧ f x t) ∨ ∃ x t, st = .retAddr x :: t ∧ g x t := by
  unfold sm_pe at h
  split at h
  · exact Or.inl ⟨_, _, rfl, h⟩
  · exact Or.inr ⟨_, _, rfl, h⟩
  · exact h.elim
theorem sm_ph_e {st : List Value} {f : Value → List Value → Prop} (h : sm_ph st f) : ∃ x t, st = x :: t ∧ f x t := by
  unfold sm_ph at h
  split at h
  · exact ⟨_, _, rfl, h⟩
  · exact h.elim
theorem sm_rt1_e {st : List Value} {f : Value → Prop} (h : sm_rt1 st f) : ∃ x, st = [x] ∧ f x := by
  unfold sm_rt1 at h
  split at h
  · exact ⟨_, rfl, h⟩
  · exact h.elim
theorem sm_li_e {l : List (Option Value)} {i : Nat} {f : Int32 → Prop} (h : sm_li l i f) : ∃ x, sm_ix l i = some (.int x) ∧ f x := by
  unfold sm_li at h
  split at h
  · exact ⟨_, by assumption, h⟩
  · exact h.elim
theorem sm_ll_e {l : List (Option Value)} {i : Nat} {f : Int64 → Prop} (h : sm_ll l i f) : ∃ x, sm_ix l i = some (.long x) ∧ f x := by
  unfold sm_ll at h
  split at h
  · exact ⟨_, by assumption, h⟩
  · exact h.elim
theorem sm_la_e {l : List (Option Value)} {i : Nat} {f : Value → Prop} (h : sm_la l i f) : (∃ x, sm_ix l i = some (.ref x) ∧ f (.ref x)) ∨ ∃ x, sm_ix l i = some (.retAddr x) ∧ f (.retAddr x) := by
  unfold sm_la at h
  split at h
  · exact Or.inl ⟨_, by assumption, h⟩
  · exact Or.inr ⟨_, by assumption, h⟩
  · exact h.elim
/-! locals -/
theorem sm_ix_lt {α : Type} : ∀ (l : List (Option α)) (i : Nat) (v : α), sm_ix l i = some v → i < l.length
  | [], _, _, h => by cases h
  | _ :: t, 0, _, _ => Nat.succ_pos _
  | _ :: t, n + 1, v, h => Nat.succ_lt_succ (sm_ix_lt t n v h)
theorem sm_se_len : ∀ (l : List (Option Value)) (i : Nat) (v : Option Value), (sm_se l i v).length = l.length
  | [], _, _ => by simp [sm_se]
  | _ :: t, 0, _ => by simp [sm_se]
  | [a], n + 1, _ => by simp [sm_se]
  | a :: b :: t, 1, v => by simp [sm_se]
  | a :: b :: t, n + 2, v => by simp [sm_se, sm_se_len (b :: t) (n + 1) v]
theorem sm_cl_len : ∀ (l : List (Option Value)) (i : Nat), (sm_cl l i).length = l.length
  | [], _ => by simp [sm_cl]
  | _ :: t, 0 => by simp [sm_cl]
  | a :: t, n + 1 => by simp [sm_cl, sm_cl_len t n]
theorem sm_iv_e {a : Option Value} {w : Value} (h : sm_iv a = some w) : a = some w ∧ ¬ w.category = 2 := by
  unfold sm_iv at h
  split at h
  · cases h
  · cases h
  · rename_i h1 h2
    subst h
    refine ⟨rfl, fun hc => ?_⟩
    cases w <;> first | exact h1 _ rfl | exact h2 _ rfl | (simp [Value.category] at hc)
theorem sm_se_ix : ∀ (l : List (Option Value)) (i : Nat) (v : Value) (j : Nat) (w : Value), sm_ix (sm_se l i (some v)) j = some w → i < l.length → (j = i ∧ w = v) ∨ (j ≠ i ∧ sm_ix l j = some w ∧ ¬ (j + 1 = i ∧ w.category = 2))
  | [], _, _, _, _, _, hi => by cases hi
  | a :: t, 0, v, 0, w, h, _ => by
    simp only [sm_se, sm_ix] at h
    exact Or.inl ⟨rfl, (Option.some.inj h).symm⟩
  | a :: t, 0, v, j + 1, w, h, _ => by
    simp only [sm_se, sm_ix] at h
    exact Or.inr ⟨by omega, h, fun q => by omega⟩
  | [a], n + 1, v, j, w, h, hi => by simp at hi
  | a :: b :: t, 1, v, 0, w, h, _ => by
    simp only [sm_se, sm_ix] at h
    have := sm_iv_e h
    exact Or.inr ⟨by omega, this.1, fun q => this.2 q.2⟩
  | a :: b :: t, 1, v, 1, w, h, _ => by
    simp only [sm_se, sm_ix] at h
    exact Or.inl ⟨rfl, (Option.some.inj h).symm⟩
  | a :: b :: t, 1, v, j + 2, w, h, _ => by
    simp only [sm_se, sm_ix] at h
    exact Or.inr ⟨by omega, h, fun q => by omega⟩
  | a :: b :: t, n + 2, v, 0, w, h, _ => by
    simp only [sm_se, sm_ix] at h
    exact Or.inr ⟨by omega, h, fun q => by omega⟩
  | a :: b :: t, n + 2, v, j + 1, w, h, hi => by
    simp only [sm_se, sm_ix] at h
    rcases sm_se_ix (b :: t) (n + 1) v j w h (by simpa using hi) with q | q
    · exact Or.inl ⟨by omega, q.2⟩
    · exact Or.inr ⟨by omega, q.2.1, fun r => q.2.2 ⟨by omega, r.2⟩⟩
theorem sm_cl_ix : ∀ (l : List (Option Value)) (i j : Nat) (w : Value), sm_ix (sm_cl l i) j = some w → j ≠ i ∧ sm_ix l j = some w
  | [], _, _, _, h => by cases h
  | a :: t, 0, 0, w, h => by cases h
  | a :: t, 0, j + 1, w, h => ⟨by omega, h⟩
  | a :: t, n + 1, 0, w, h => ⟨by omega, h⟩
  | a :: t, n + 1, j + 1, w, h => by
    have := sm_cl_ix t n j w h
    exact ⟨by omega, this.2⟩
def sm_lv (z : Nat) (E : Nat → Nat) (l : List (Option Value)) : List (Nat × Value) := (List.range l.length).filterMap fun i => (sm_ix l i).map fun v => (i, sm_v z E v)
theorem sm_lv_mem {z : Nat} {E : Nat → Nat} {l : List (Option Value)} {i : Nat} {v : Value} (h : sm_ix l i = some v) : (i, sm_v z E v) ∈ sm_lv z E l :=
  List.mem_filterMap.mpr ⟨i, List.mem_range.mpr (sm_ix_lt l i v h), by rw [h]; rfl⟩
theorem sm_L.has {z : Nat} {E : Nat → Nat} {ls : Array Slot} {nL : Nat} {l : List (Option Value)} (h : sm_L z E ls nL l) : lv_has ls nL (sm_lv z E l) := by
  refine ⟨h.2.1, h.2.2.1, fun q hq => ?_⟩
  obtain ⟨i, -, hi⟩ := List.mem_filterMap.mp hq
  cases hx : sm_ix l i with
  | none => rw [hx] at hi; cases hi
  | some v =>
    rw [hx] at hi
    cases hi
    exact h.2.2.2 i v hx
theorem sm_L.st1 {z : Nat} {E : Nat → Nat} {ls ls' : Array Slot} {nL : Nat} {l : List (Option Value)} {i : Nat} {v : Value} (h : sm_L z E ls nL l) (hi : i < l.length)
    (h' : lv_has ls' nL ((i, sm_v z E v) :: (sm_lv z E l).filter (fun q => !(q.1 == i) && !(q.1 + 1 == i && q.2.category == 2)))) : sm_L z E ls' nL (sm_se l i (some v)) := by
  refine ⟨by rw [sm_se_len]; exact h.1, h'.1, h'.2.1, fun j w hw => ?_⟩
  refine h'.2.2 (j, sm_v z E w) ?_
  rcases sm_se_ix l i v j w hw hi with ⟨rfl, rfl⟩ | ⟨q1, q2, q3⟩
  · exact List.mem_cons_self
  · refine List.mem_cons_of_mem _ (List.mem_filter.mpr ⟨sm_lv_mem q2, ?_⟩)
    simp only [sm_v_cat, Bool.and_eq_true, Bool.not_eq_true', beq_eq_false_iff_ne, Bool.and_eq_false_iff]
    refine ⟨q1, ?_⟩
    by_cases r : j + 1 = i
    · exact Or.inr (fun r2 => q3 ⟨r, r2⟩)
    · exact Or.inl r
theorem sm_L.st2 {z : Nat} {E : Nat → Nat} {ls ls' : Array Slot} {nL : Nat} {l : List (Option Value)} {i : Nat} {v : Value} (h : sm_L z E ls nL l) (hi : i + 1 < l.length)
    (h' : lv_has ls' nL ((i, sm_v z E v) :: (sm_lv z E l).filter (fun q => !(q.1 == i) && (!(q.1 == i + 1) && !(q.1 + 1 == i && q.2.category == 2))))) : sm_L z E ls' nL (sm_cl (sm_se l i (some v)) (i + 1)) := by
  refine ⟨by rw [sm_cl_len, sm_se_len]; exact h.1, h'.1, h'.2.1, fun j w hw => ?_⟩
  refine h'.2.2 (j, sm_v z E w) ?_
  obtain ⟨r0, hw⟩ := sm_cl_ix _ _ _ _ hw
  rcases sm_se_ix l i v j w hw (by omega) with ⟨rfl, rfl⟩ | ⟨q1, q2, q3⟩
  · exact List.mem_cons_self
  · refine List.mem_cons_of_mem _ (List.mem_filter.mpr ⟨sm_lv_mem q2, ?_⟩)
    simp only [sm_v_cat, Bool.and_eq_true, Bool.not_eq_true', beq_eq_false_iff_ne, Bool.and_eq_false_iff]
    refine ⟨q1, r0, ?_⟩
    by_cases r : j + 1 = i
    · exact Or.inr (fun r2 => q3 ⟨r, r2⟩)
    · exact Or.inl r
theorem sm_sl_ct : ∀ as : List Value, (lg_sl as).length = sm_ct as
  | [] => rfl
  | v :: t => by
    have e : (lg_sl (v :: t)).length = (if v.category = 2 then 2 else 1) + (lg_sl t).length := by
      simp only [lg_sl, List.flatMap_cons, List.length_append]
      split <;> rfl
    rw [e, sm_sl_ct t]
    cases v <;> rfl
theorem sm_en_nil : ∀ n : Nat, (sm_no n).length = n
  | 0 => rfl
  | n + 1 => by simp only [sm_no, List.length_cons, sm_en_nil n]
theorem sm_en_nix : ∀ (n i : Nat), sm_ix (sm_no n) i = none
  | 0, _ => rfl
  | n + 1, 0 => rfl
  | n + 1, i + 1 => by simp only [sm_no, sm_ix, sm_en_nix n i]
theorem sm_en_len : ∀ (as : List Value) (n : Nat), sm_ct as ≤ n → (sm_en as n).length = n := by
  intro as
  induction as with
  | nil => intro n _; simp only [sm_en]; exact sm_en_nil n
  | cons v t ih =>
    intro n hn
    cases v with
    | long x =>
      simp only [sm_ct, Value.category] at hn
      obtain ⟨n, rfl⟩ : ∃ q, n = q + 2 := ⟨n - 2, by omega⟩
      simp only [sm_en, List.length_cons]
      rw [ih n (by omega)]
    | double x =>
      simp only [sm_ct, Value.category] at hn
      obtain ⟨n, rfl⟩ : ∃ q, n = q + 2 := ⟨n - 2, by omega⟩
      simp only [sm_en, sm_en_nil]
    | _ =>
      simp only [sm_ct, Value.category] at hn
      obtain ⟨n, rfl⟩ : ∃ q, n = q + 1 := ⟨n - 1, by omega⟩
      simp only [sm_en, List.length_cons]
      rw [ih n (by omega)]
theorem sm_en_ix (z : Nat) (E : Nat → Nat) : ∀ (as : List Value) (n i o : Nat) (v : Value), sm_ct as ≤ n → sm_ix (sm_en as n) i = some v → (o + i, sm_v z E v) ∈ lv_args o (as.map (sm_v z E)) := by
  intro as
  induction as with
  | nil => intro n i o v _ h; simp only [sm_en] at h; rw [sm_en_nix] at h; cases h
  | cons a t ih =>
    intro n i o v hn h
    cases a with
    | long x =>
      simp only [sm_ct, Value.category] at hn
      obtain ⟨n, rfl⟩ : ∃ q, n = q + 2 := ⟨n - 2, by omega⟩
      simp only [sm_en] at h
      match i, h with
      | 0, h => cases h; exact List.mem_cons_self
      | 1, h => cases h
      | i + 2, h =>
        refine List.mem_cons_of_mem _ ?_
        have := ih n i (o + 2) v (by omega) h
        rw [show o + (i + 2) = o + 2 + i by omega]
        exact this
    | double x =>
      simp only [sm_ct, Value.category] at hn
      obtain ⟨n, rfl⟩ : ∃ q, n = q + 2 := ⟨n - 2, by omega⟩
      simp only [sm_en] at h
      rw [sm_en_nix] at h
      cases h
    | _ =>
      simp only [sm_ct, Value.category] at hn
      obtain ⟨n, rfl⟩ : ∃ q, n = q + 1 := ⟨n - 1, by omega⟩
      simp only [sm_en] at h
      match i, h with
      | 0, h => cases h; exact List.mem_cons_self
      | i + 1, h =>
        refine List.mem_cons_of_mem _ ?_
        have := ih n i (o + 1) v (by omega) h
        rw [show o + (i + 1) = o + 1 + i by omega]
        exact this
theorem sm_ct_map (z : Nat) (E : Nat → Nat) : ∀ as : List Value, sm_ct (as.map (sm_v z E)) = sm_ct as
  | [] => rfl
  | v :: t => by simp only [List.map_cons, sm_ct, sm_v_cat, sm_ct_map z E t]
theorem sm_ct_sum : ∀ as : List Value, (as.map fun v => v.category).sum = sm_ct as
  | [] => rfl
  | v :: t => by simp only [List.map_cons, List.sum_cons, sm_ct, sm_ct_sum t]
theorem sm_L_entry (z : Nat) (E : Nat → Nat) (as : List Value) (n : Nat) (h : sm_ct as ≤ n) : sm_L z E ((lg_sl (as.map (sm_v z E)) ++ List.replicate (n - (lg_sl (as.map (sm_v z E))).length) Slot.unset).toArray) n (sm_en as n) := by
  have hl := lv_entry (as.map (sm_v z E)) (n := n) (by rw [sm_sl_ct, sm_ct_map]; exact h)
  refine ⟨sm_en_len as n h, hl.1, hl.2.1, fun i v hv => ?_⟩
  have := sm_en_ix z E as n i 0 v h hv
  rw [Nat.zero_add] at this
  exact hl.2.2 _ this
/-! the world -/
theorem sm_ws_get {z : Nat} {cA : Nat → ClassId} {μ : sm_Mem} {k : Nat} (h : k < μ.1) : (sm_ws z cA μ)[k]? = some (z + k, sm_ce z (cA k) (μ.2.1 k) k μ) := by
  unfold sm_ws
  rw [List.getElem?_map, List.getElem?_range h]
  rfl
theorem sm_ws_len (z : Nat) (cA : Nat → ClassId) (μ : sm_Mem) : (sm_ws z cA μ).length = μ.1 := by simp [sm_ws]
theorem sm_ws_D (z : Nat) (cA : Nat → ClassId) (μ : sm_Mem) : va_D (z ≤ ·) (sm_ws z cA μ) := by
  have key : ∀ (k : Nat) (q : Nat × va_E), (sm_ws z cA μ)[k]? = some q → q.1 = z + k := by
    intro k q hq
    have hk : k < μ.1 := by rw [← sm_ws_len z cA μ]; exact (List.getElem?_eq_some_iff.mp hq).1
    rw [sm_ws_get hk] at hq
    cases hq
    rfl
  refine ⟨fun i j p q hi hj hpq => ?_, fun k q hq => ?_⟩
  · rw [key i p hi, key j q hj] at hpq
    omega
  · rw [key k q hq]
    exact Nat.le_add_right _ _
theorem sm_ws_set {z : Nat} {cA : Nat → ClassId} {μ μ' : sm_Mem} {o : Nat} (hn : μ'.1 = μ.1) (hy : μ'.2.1 = μ.2.1) (hc : ∀ k, k ≠ o → sm_ce z (cA k) (μ.2.1 k) k μ' = sm_ce z (cA k) (μ.2.1 k) k μ) : (sm_ws z cA μ).set o (z + o, sm_ce z (cA o) (μ.2.1 o) o μ') = sm_ws z cA μ' := by
  apply List.ext_getElem?
  intro k
  by_cases hk : k < μ.1
  · by_cases e : k = o
    · subst e
      rw [List.getElem?_set_self (by rw [sm_ws_len]; exact hk), sm_ws_get (by rw [hn]; exact hk), hy]
    · rw [List.getElem?_set_ne (Ne.symm e), sm_ws_get hk, sm_ws_get (by rw [hn]; exact hk), hy, hc k e]
  · rw [List.getElem?_eq_none (by rw [List.length_set, sm_ws_len]; omega), List.getElem?_eq_none (by rw [sm_ws_len, hn]; omega)]
theorem sm_ws_push {z : Nat} {cA : Nat → ClassId} {μ μ' : sm_Mem} {c0 : ClassId} (hn : μ'.1 = μ.1 + 1) (hy : ∀ k, k < μ.1 → μ'.2.1 k = μ.2.1 k) (h1 : μ'.2.2 = μ.2.2) : sm_ws z cA μ ++ [(z + μ.1, sm_ce z c0 (μ'.2.1 μ.1) μ.1 μ')] = sm_ws z (sm_up cA μ.1 c0) μ' := by
  obtain ⟨n, y, I, L, R⟩ := μ
  obtain ⟨n', y', I', L', R'⟩ := μ'
  simp only [Prod.mk.injEq] at h1 hn hy
  obtain ⟨rfl, rfl, rfl⟩ := h1
  subst hn
  apply List.ext_getElem?
  intro k
  rcases Nat.lt_trichotomy k n with hk | hk | hk
  · rw [List.getElem?_append_left (by rw [sm_ws_len]; exact hk), sm_ws_get (by exact hk), sm_ws_get (by show k < n + 1; omega)]
    have : sm_up cA n c0 k = cA k := by simp [sm_up, Nat.ne_of_lt hk]
    show some (z + k, sm_ce z (cA k) (y k) k (n, y, I', L', R')) = some (z + k, sm_ce z (sm_up cA n c0 k) (y' k) k (n + 1, y', I', L', R'))
    rw [this, hy k hk]
    rfl
  · subst hk
    rw [List.getElem?_append_right (by rw [sm_ws_len]; exact Nat.le_refl _), sm_ws_len, Nat.sub_self, sm_ws_get (by show k < k + 1; omega)]
    have : sm_up cA k c0 k = c0 := by simp [sm_up]
    show some (z + k, sm_ce z c0 (y' k) k (k + 1, y', I', L', R')) = some (z + k, sm_ce z (sm_up cA k c0 k) (y' k) k (k + 1, y', I', L', R'))
    rw [this]
  · rw [List.getElem?_eq_none (by simp [sm_ws_len]; omega), List.getElem?_eq_none (by rw [sm_ws_len]; show n + 1 ≤ k; omega)]
theorem sm_rm_get {α : Type} (f : Nat → α) {N j : Nat} (h : j < N) : ((List.range N).map f)[j]? = some (f j) := by rw [List.getElem?_map, List.getElem?_range h]; rfl
theorem sm_rm_set {α : Type} (f g : Nat → α) {N j : Nat} (v : α) (h : j < N) (hj : g j = v) (hk : ∀ k, k ≠ j → g k = f k) : ((List.range N).map f).set j v = (List.range N).map g := by
  apply List.ext_getElem?
  intro k
  by_cases hN : k < N
  · by_cases e : k = j
    · subst e
      rw [List.getElem?_set_self (by simp [hN]), sm_rm_get g hN, hj]
    · rw [List.getElem?_set_ne (Ne.symm e), sm_rm_get f hN, sm_rm_get g hN, hk k e]
  · rw [List.getElem?_eq_none (by simp; omega), List.getElem?_eq_none (by simp; omega)]
theorem sm_st_s {α : Type} (I : Nat → Nat → α) (o j : Nat) (v : α) : sm_st I o j v o j = v := by simp [sm_st]
theorem sm_st_o {α : Type} (I : Nat → Nat → α) {o j o' j' : Nat} (v : α) (h : o' ≠ o) : sm_st I o j v o' j' = I o' j' := by simp [sm_st, h]
theorem sm_st_j {α : Type} (I : Nat → Nat → α) {o j o' j' : Nat} (v : α) (h : j' ≠ j) : sm_st I o j v o' j' = I o' j' := by simp [sm_st, h]
end
section
-- SOUNDNESS: fields, arrays, new cells
theorem sm_cls_at {a : Nat} (h : a < 12) : vwCl[a]? = some (sm_cn a, sm_T0 a, sm_nf a) := by
  match a, h with
  | 0, _ => rfl
  | 1, _ => rfl
  | 2, _ => rfl
  | 3, _ => rfl
  | 4, _ => rfl
  | 5, _ => rfl
  | 6, _ => rfl
  | 7, _ => rfl
  | 8, _ => rfl
  | 9, _ => rfl
  | 10, _ => rfl
  | 11, _ => rfl
theorem sm_cls_of {q : Nat} {r : vw_C} (h : vwCl[q]? = some r) : q < 12 ∧ r = (sm_cn q, sm_T0 q, sm_nf q) := by
  have hq : q < 12 := (List.getElem?_eq_some_iff.mp h).1
  exact ⟨hq, Option.some.inj (h.symm.trans (sm_cls_at hq))⟩
theorem sm_cls_ty {a : Nat} (h : a < 12) : ∀ j, j < sm_nf a → parseFieldDescriptor (sm_T0 a j).2.2.1 = some (sm_ty a j) := by
  match a, h with
  | 0, _ => exact tyX0_ok
  | 1, _ => exact tyX1_ok
  | 2, _ => exact tyX2_ok
  | 3, _ => exact tyX3_ok
  | 4, _ => exact tyX4_ok
  | 5, _ => exact tyX5_ok
  | 6, _ => exact tyX6_ok
  | 7, _ => exact tyX7_ok
  | 8, _ => exact tyX8_ok
  | 9, _ => exact tyX9_ok
  | 10, _ => exact tyX10_ok
  | 11, _ => exact tyX11_ok
theorem sm_cls_nm {a : Nat} (h : a < 12) : ∀ i, i < sm_nf a → ∀ j, j < sm_nf a → i ≠ j → (sm_T0 a i).2.1 ≠ (sm_T0 a j).2.1 := by
  match a, h with
  | 0, _ => exact nmX0
  | 1, _ => exact nmX1
  | 2, _ => exact nmX2
  | 3, _ => exact nmX3
  | 4, _ => exact nmX4
  | 5, _ => exact nmX5
  | 6, _ => exact nmX6
  | 7, _ => exact nmX7
  | 8, _ => exact nmX8
  | 9, _ => exact nmX9
  | 10, _ => exact nmX10
  | 11, _ => exact nmX11
theorem sm_cls_kb : ((List.range 12).all fun a => (List.range (sm_nf a)).all fun j => sm_kt (sm_kd a j) (sm_ty a j)) = true := by decide +kernel
theorem sm_cls_kd {a j : Nat} (h : a < 12) (hj : j < sm_nf a) : sm_kt (sm_kd a j) (sm_ty a j) = true := by
  have h1 := List.all_eq_true.mp sm_cls_kb a (List.mem_range.mpr h)
  exact List.all_eq_true.mp h1 j (List.mem_range.mpr hj)
theorem sm_cls_lb : ((List.range 12).all fun a => (List.range (sm_nf a)).all fun j => sm_wd (sm_nth 0 (sm_nth [] sm_lpl a) j) (u_lay (sm_cn a) (sm_T0 a) j)) = true := by decide +kernel
theorem sm_lay_good (C : String) (T : u_T) (j : Nat) : goodWord (u_lay C T j) = true := by
  unfold u_lay
  split <;> rfl
theorem sm_cls_w {a : Nat} (h : a < 12) : ∀ w ∈ u_ws (sm_cn a) (sm_T0 a) (sm_nf a), w ∈ sm_all := by
  intro w hw
  obtain ⟨j, hj, rfl⟩ := List.mem_map.mp hw
  have h1 := List.all_eq_true.mp sm_cls_lb a (List.mem_range.mpr h)
  exact sm_wd_all (List.all_eq_true.mp h1 j hj) (sm_lay_good _ _ _)
theorem sm_cls_ib : ((List.range 12).all fun a => sm_wd (sm_nth 0 sm_ipl a) (.instantiable (sm_cn a) (sm_nf a)) && sm_wd (sm_nth 0 sm_jpl a) (.initialized (sm_cn a))) = true := by decide +kernel
theorem sm_cls_i {a : Nat} (h : a < 12) : Cond.instantiable (sm_cn a) (sm_nf a) ∈ sm_all ∧ Cond.initialized (sm_cn a) ∈ sm_all := by
  have h1 := List.all_eq_true.mp sm_cls_ib a (List.mem_range.mpr h)
  rw [Bool.and_eq_true] at h1
  exact ⟨sm_wd_all h1.1 rfl, sm_wd_all h1.2 rfl⟩
theorem sm_gf_e {z : Nat} {E : Nat → Nat} {kd o b : Nat} {μ : sm_Mem} {f : Value → Prop} (h : sm_gf kd o b μ f) : ∃ x, f x ∧ sm_v z E x = sm_fv z kd o b μ := by
  unfold sm_gf at h
  split at h
  · exact ⟨_, h, rfl⟩
  · cases hr : μ.2.2.2.2 o b with
    | none => exact ⟨_, h.1 hr, by simp [sm_fv, hr, sm_rz, va_rf, sm_v]⟩
    | some q => exact ⟨_, h.2 q hr, by simp [sm_fv, hr, sm_rz, va_rf, sm_v]⟩
  · rename_i h1 h2
    refine ⟨_, h, ?_⟩
    unfold sm_fv
    split
    · exact (h1 rfl).elim
    · exact (h2 rfl).elim
    · rfl
theorem sm_rr_e {z : Nat} {E : Nat → Nat} {r : Option Nat} {f : Value → Prop} (h : sm_rr r f) : ∃ x, f x ∧ sm_v z E x = va_rf (sm_rz z r) := by
  cases r with
  | none => exact ⟨_, h.1 rfl, rfl⟩
  | some q => exact ⟨_, h.2 q rfl, rfl⟩
/-- nothing but place b of cell o differs -/
def sm_same (μ μ1 : sm_Mem) (o : Nat) (P : Nat → Prop) : Prop := μ1.1 = μ.1 ∧ μ1.2.1 = μ.2.1 ∧ ∀ k j, (k ≠ o ∨ ¬ P j) → μ1.2.2.1 k j = μ.2.2.1 k j ∧ μ1.2.2.2.1 k j = μ.2.2.2.1 k j ∧ μ1.2.2.2.2 k j = μ.2.2.2.2 k j
theorem sm_ce_congr {z : Nat} {cA : ClassId} {y : Option (Nat ⊕ (Nat × Nat))} {k : Nat} {μ μ1 : sm_Mem} (h : ∀ j, μ1.2.2.1 k j = μ.2.2.1 k j ∧ μ1.2.2.2.1 k j = μ.2.2.2.1 k j ∧ μ1.2.2.2.2 k j = μ.2.2.2.2 k j) : sm_ce z cA y k μ1 = sm_ce z cA y k μ := by
  have e1 : μ1.2.2.1 k = μ.2.2.1 k := funext fun j => (h j).1
  have e2 : μ1.2.2.2.1 k = μ.2.2.2.1 k := funext fun j => (h j).2.1
  have e3 : μ1.2.2.2.2 k = μ.2.2.2.2 k := funext fun j => (h j).2.2
  unfold sm_ce sm_fv
  rw [e1, e2, e3]
theorem sm_Dyn.set {z : Nat} {D : va_G} {R : Room} {s : State} {μ μ1 : sm_Mem} {H H1 : Heap} {locs locs1 : List Loc} {cells slots : Nat} {cA : Nat → ClassId} {bc bs o : Nat} {P : Nat → Prop} (h : sm_Dyn z D R s μ H locs cells slots cA bc bs) (ho : o < μ.1) (hs : sm_same μ μ1 o P)
    (hP : va_P D vwCl ((sm_ws z cA μ).set o (z + o, sm_ce z (cA o) (μ.2.1 o) o μ1)) H1) (hS : va_S (z ≤ ·) s.heap H1 locs1) : sm_Dyn z D R s μ1 H1 locs1 cells slots cA bc bs := by
  obtain ⟨⟨hA, -, hyn, hz0⟩, hcb, hsb, hn, -⟩ := h
  obtain ⟨e1, e2, e3⟩ := hs
  refine ⟨⟨fun o t n hq => hA o t n (by rw [← e2]; exact hq), ?_, fun o => by rw [e1, e2]; exact hyn o, fun k j hk => ?_⟩, hcb, hsb, by rw [e1]; exact hn, hS⟩
  · rw [sm_ws_set e1 e2 (fun k hk => sm_ce_congr (fun j => e3 k j (Or.inl hk)))] at hP
    exact hP
  · rw [e1] at hk
    obtain ⟨q1, q2, q3⟩ := e3 k j (Or.inl (by omega))
    rw [q1, q2, q3]
    exact hz0 k j hk
theorem sm_pf_e {z : Nat} {E : Nat → Nat} {kd o b : Nat} {v : Value} {ty : FieldType} {μ : sm_Mem} {N : sm_Mem → Prop} (h : sm_pf kd o b v μ N) (hk : sm_kt kd ty = true) : ∃ μ1, N μ1 ∧ sm_same μ μ1 o (· = b) ∧ sm_v z E v = sm_fv z kd o b μ1 ∧ narrow ty (sm_v z E v) = sm_v z E v ∧ fits ty (sm_v z E v) = true := by
  unfold sm_pf at h
  split at h
  · refine ⟨_, h, ⟨rfl, rfl, fun k j hj => ⟨?_, rfl, rfl⟩⟩, ?_⟩
    · rcases hj with hj | hj
      · exact sm_st_o _ _ hj
      · exact sm_st_j _ _ hj
    · cases ty <;> simp_all [sm_kt, sm_v, sm_fv, sm_st, narrow, fits]
  · obtain ⟨h01, h⟩ := h
    refine ⟨_, h, ⟨rfl, rfl, fun k j hj => ⟨?_, rfl, rfl⟩⟩, ?_⟩
    · rcases hj with hj | hj
      · exact sm_st_o _ _ hj
      · exact sm_st_j _ _ hj
    · rcases h01 with rfl | rfl <;> cases ty <;> simp_all [sm_kt, sm_v, sm_fv, sm_st, narrow, fits]
  · refine ⟨_, h, ⟨rfl, rfl, fun k j hj => ⟨rfl, ?_, rfl⟩⟩, ?_⟩
    · rcases hj with hj | hj
      · exact sm_st_o _ _ hj
      · exact sm_st_j _ _ hj
    · cases ty <;> simp_all [sm_kt, sm_v, sm_fv, sm_st, narrow, fits]
  · refine ⟨_, h, ⟨rfl, rfl, fun k j hj => ⟨rfl, rfl, ?_⟩⟩, ?_⟩
    · rcases hj with hj | hj
      · exact sm_st_o _ _ hj
      · exact sm_st_j _ _ hj
    · cases ty <;> simp_all [sm_kt, sm_v, sm_fv, sm_st, sm_rz, va_rf, narrow, fits]
  · exact h.elim
end
section
theorem sm_st_or {α : Type} (I : Nat → Nat → α) {o b k j : Nat} (v : α) (h : k ≠ o ∨ ¬ j = b) : sm_st I o b v k j = I k j := by
  rcases h with h | h
  · exact sm_st_o I v h
  · exact sm_st_j I v h
theorem sm_st_upd (I : Nat → Nat → Int32) (o i : Nat) (x : Int32) : sm_st I o i x o = upd (I o) i x := by
  funext j
  simp [sm_st, upd]
theorem sm_st_updL (I : Nat → Nat → Int64) (o i : Nat) (x : Int64) : sm_st I o i x o = vp_updL (I o) i x := by
  funext j
  simp [sm_st, vp_updL]
theorem sm_st_upr (z : Nat) (I : Nat → Nat → Option Nat) (o i x : Nat) : (fun j => sm_rz z (sm_st I o i (some x) o j)) = va_up (fun j => sm_rz z (I o j)) i (some (z + x)) := by
  funext j
  by_cases h : j = i <;> simp [sm_st, va_up, h, sm_rz]
theorem sm_K1 {D : va_G} {s : State} {cA : ClassId} {ty : FieldType} (hK : va_K D vwCl [] s) (h : ArrOfT s cA ty ∧ va_RA s cA ty) : va_K D vwCl [(cA, ty)] s := ⟨hK.1, fun k q hq => by
  cases k with
  | zero => cases hq; exact h
  | succ k => cases hq⟩
theorem sm_ce_arr (z : Nat) (cA : ClassId) (q N o : Nat) (μ : sm_Mem) : ∃ w, sm_ce z cA (some (.inr (q, N))) o μ = .inl (cA, N, w) := by
  unfold sm_ce
  split
  · rename_i h; cases h
  · rename_i h; cases h; exact ⟨_, rfl⟩
  · rename_i h; cases h; exact ⟨_, rfl⟩
  · rename_i h; cases h; exact ⟨_, rfl⟩
  · rename_i h; cases h; exact ⟨_, rfl⟩
  · rename_i h; cases h
set_option maxHeartbeats 1000000 in
theorem sm_in_getfield {ex : sm_O} {d bc bs k pc : Nat} {l : List (Option Value)} {st : List Value} {μ : sm_Mem} {Q : sm_Q} {i : Nat} {n a b c0 pl : Nat} {v : Value} (hc : sm_ck k pc (.getfield i, n, a, b, c0, pl, v) = true) (h : sm_i ex (sm_W ex) d bc bs k pc l st μ Q (.getfield i) a b c0 v) : sm_W ex d bc bs k pc l st μ Q := by
  intro z E D p l0 e R s m args below meth c Q' H locs cells slots cA ls hF hY hL
  have hF0 := hF
  obtain ⟨hx, hb, hml, hnm, hown, hts, hfr, hlo, hz, hK, hEx, hret⟩ := hF0
  have hY0 := hY
  obtain ⟨⟨hA, hP, hyn, hz0⟩, hcb, hsb, hn, hS⟩ := hY0
  have hD := sm_ws_D z cA μ
  simp only [sm_ck, Bool.and_eq_true, decide_eq_true_eq] at hc
  obtain ⟨hd, ⟨rfl, hb1, ha1, hkd⟩, hw⟩ := hc
  obtain ⟨o, t, rfl, hy, h⟩ := sm_pr_e h
  have ho : o < μ.1 := (hyn o).mp (by rw [hy]; simp)
  have hcell := sm_ws_get (z := z) (cA := cA) ho
  rw [hy] at hcell
  rw [hkd] at h
  obtain ⟨x, h, hxv⟩ := sm_gf_e (z := z) (E := E) h
  have hv : ((List.range (sm_nf a)).map fun j => sm_fv z (sm_kd a j) o j μ)[b]? = some (sm_v z E x) := by rw [hxv]; exact sm_rm_get _ hb1
  split at hw
  · refine va_getN hx hb hts (sm_cls_w ha1) hown hK hP o hcell (sm_cls_at ha1) b hb1 (va_Nw.use rfl (hEx.1 _ (List.mem_filter.mpr ⟨sm_wd_tb hw, rfl⟩))) (fun _ h9 => h9) hv hd ?_
    exact h z E D p l0 e R s m args below meth c Q' H locs cells slots cA ls hF hY hL
  · refine va_get hx hb hts (sm_cls_w ha1) hown hK hP o hcell (sm_cls_at ha1) b hb1 (hts _ (sm_wd_all hw rfl)) (fun _ h9 => h9) hv hd ?_
    exact h z E D p l0 e R s m args below meth c Q' H locs cells slots cA ls hF hY hL
set_option maxHeartbeats 1000000 in
theorem sm_in_putfield {ex : sm_O} {d bc bs k pc : Nat} {l : List (Option Value)} {st : List Value} {μ : sm_Mem} {Q : sm_Q} {i : Nat} {n a b c0 pl : Nat} {v : Value} (hc : sm_ck k pc (.putfield i, n, a, b, c0, pl, v) = true) (h : sm_i ex (sm_W ex) d bc bs k pc l st μ Q (.putfield i) a b c0 v) : sm_W ex d bc bs k pc l st μ Q := by
  intro z E D p l0 e R s m args below meth c Q' H locs cells slots cA ls hF hY hL
  have hF0 := hF
  obtain ⟨hx, hb, hml, hnm, hown, hts, hfr, hlo, hz, hK, hEx, hret⟩ := hF0
  have hY0 := hY
  obtain ⟨⟨hA, hP, hyn, hz0⟩, hcb, hsb, hn, hS⟩ := hY0
  have hD := sm_ws_D z cA μ
  simp only [sm_ck, Bool.and_eq_true, decide_eq_true_eq] at hc
  obtain ⟨hd, ⟨⟨rfl, hb1, ha1, hkd⟩, hw⟩, hfin⟩ := hc
  obtain ⟨x, t, rfl, h⟩ := sm_ph_e h
  obtain ⟨o, t, rfl, hy, h⟩ := sm_pr_e h
  have ho : o < μ.1 := (hyn o).mp (by rw [hy]; simp)
  have hcell := sm_ws_get (z := z) (cA := cA) ho
  rw [hy] at hcell
  rw [hkd] at h
  obtain ⟨μ1, h, hs, hxv, hna, hfi⟩ := sm_pf_e (z := z) (E := E) h (sm_cls_kd ha1 hb1)
  split at hfin
  · simp only [decide_eq_true_eq] at hfin
    obtain ⟨f1, f2, f3⟩ := hfin
    refine va_putF hx hb hts (sm_cls_w ha1) (sm_ty a) (sm_cls_ty ha1) (sm_cls_nm ha1) hown hK hP hD hS o hcell (sm_cls_at ha1) b hb1 (hts _ (sm_wd_all hw rfl)) (fun _ h9 => h9) f1 (hnm.trans f2) f3 (sm_cls_ty ha1 b hb1) hna hfi (by simpa using hb1) hd (fun H1 locs1 hP1 hD1 hS1 => ?_)
    rw [sm_rm_set _ (fun j => sm_fv z (sm_kd a j) o j μ1) _ hb1 hxv.symm (fun j hj => by
      have q := hs.2.2 o j (Or.inr hj)
      unfold sm_fv
      rw [q.1, q.2.1, q.2.2])] at hP1
    exact h z E D p l0 e R s m args below meth c Q' H1 locs1 cells slots cA ls hF (hY.set ho hs (by rw [hy]; exact hP1) hS1) hL
  · simp only [decide_eq_true_eq] at hfin
    refine va_put hx hb hts (sm_cls_w ha1) (sm_ty a) (sm_cls_ty ha1) (sm_cls_nm ha1) hown hK hP hD hS o hcell (sm_cls_at ha1) b hb1 (hts _ (sm_wd_all hw rfl)) (fun _ h9 => h9) hfin (sm_cls_ty ha1 b hb1) hna hfi (by simpa using hb1) hd (fun H1 locs1 hP1 hD1 hS1 => ?_)
    rw [sm_rm_set _ (fun j => sm_fv z (sm_kd a j) o j μ1) _ hb1 hxv.symm (fun j hj => by
      have q := hs.2.2 o j (Or.inr hj)
      unfold sm_fv
      rw [q.1, q.2.1, q.2.2])] at hP1
    exact h z E D p l0 e R s m args below meth c Q' H1 locs1 cells slots cA ls hF (hY.set ho hs (by rw [hy]; exact hP1) hS1) hL
set_option maxHeartbeats 1000000 in
theorem sm_in_getstatic {ex : sm_O} {d bc bs k pc : Nat} {l : List (Option Value)} {st : List Value} {μ : sm_Mem} {Q : sm_Q} {i : Nat} {n a b c0 pl : Nat} {v : Value} (hc : sm_ck k pc (.getstatic i, n, a, b, c0, pl, v) = true) (h : sm_i ex (sm_W ex) d bc bs k pc l st μ Q (.getstatic i) a b c0 v) : sm_W ex d bc bs k pc l st μ Q := by
  intro z E D p l0 e R s m args below meth c Q' H locs cells slots cA ls hF hY hL
  have hF0 := hF
  obtain ⟨hx, hb, hml, hnm, hown, hts, hfr, hlo, hz, hK, hEx, hret⟩ := hF0
  have hY0 := hY
  obtain ⟨⟨hA, hP, hyn, hz0⟩, hcb, hsb, hn, hS⟩ := hY0
  have hD := sm_ws_D z cA μ
  simp only [sm_ck, Bool.and_eq_true, decide_eq_true_eq] at hc
  obtain ⟨hd, ⟨rfl, rfl⟩, hw⟩ := hc
  split at hw
  · refine va_getsN hx hb hEx.2.2.2.2.2.1 hS hown (va_Nw.use rfl (hEx.1 _ (List.mem_filter.mpr ⟨sm_wd_tb hw, rfl⟩))) (fun _ h9 => h9) hd ?_
    exact h z E D p l0 e R s m args below meth c Q' H locs cells slots cA ls hF hY hL
  · refine va_gets hx hb hEx.2.2.2.2.2.1 hS hown (hts _ (sm_wd_all hw rfl)) (fun _ h9 => h9) hd ?_
    exact h z E D p l0 e R s m args below meth c Q' H locs cells slots cA ls hF hY hL
set_option maxHeartbeats 1000000 in
theorem sm_in_iaload {ex : sm_O} {d bc bs k pc : Nat} {l : List (Option Value)} {st : List Value} {μ : sm_Mem} {Q : sm_Q} {n a b c0 pl : Nat} {v : Value} (hc : sm_ck k pc (.iaload, n, a, b, c0, pl, v) = true) (h : sm_i ex (sm_W ex) d bc bs k pc l st μ Q (.iaload) a b c0 v) : sm_W ex d bc bs k pc l st μ Q := by
  intro z E D p l0 e R s m args below meth c Q' H locs cells slots cA ls hF hY hL
  have hF0 := hF
  obtain ⟨hx, hb, hml, hnm, hown, hts, hfr, hlo, hz, hK, hEx, hret⟩ := hF0
  have hY0 := hY
  obtain ⟨⟨hA, hP, hyn, hz0⟩, hcb, hsb, hn, hS⟩ := hY0
  have hD := sm_ws_D z cA μ
  simp only [sm_ck, Bool.and_eq_true, decide_eq_true_eq] at hc
  obtain ⟨hd, rfl⟩ := hc
  obtain ⟨i, t, rfl, h⟩ := sm_p1_e h
  rcases sm_pe_e h with ⟨o, t, rfl, N, hy, hi, h⟩ | ⟨o, t, rfl, ho2, hi, h⟩
  · have ho : o < μ.1 := (hyn o).mp (by rw [hy]; simp)
    have hcell := sm_ws_get (z := z) (cA := cA) ho
    rw [hy] at hcell
    refine va_iald hx hb (sm_K1 hK (hA o _ _ hy)) hP o 0 hcell rfl hi hd ?_
    exact h z E D p l0 e R s m args below meth c Q' H locs cells slots cA ls hF hY hL
  · obtain ⟨hEz, cell, c1, c2, c3, c4, c5⟩ := hEx.2.2.2.2.2.2 o ho2
    have hlt : i.toNatClampNeg < (ex.1 o).1 := Nat.not_le.mp fun q => hi (Or.inr q)
    refine W.iald hx hb (cell := cell) (by rw [hS.2.1 (E o) (by omega) (by omega)]; exact c1) c2 c3 (by rw [c4]; exact hi) (c5 _ hlt) rfl rfl hd ?_
    exact h z E D p l0 e R s m args below meth c Q' H locs cells slots cA ls hF hY hL
set_option maxHeartbeats 1000000 in
theorem sm_in_baload {ex : sm_O} {d bc bs k pc : Nat} {l : List (Option Value)} {st : List Value} {μ : sm_Mem} {Q : sm_Q} {n a b c0 pl : Nat} {v : Value} (hc : sm_ck k pc (.baload, n, a, b, c0, pl, v) = true) (h : sm_i ex (sm_W ex) d bc bs k pc l st μ Q (.baload) a b c0 v) : sm_W ex d bc bs k pc l st μ Q := by
  intro z E D p l0 e R s m args below meth c Q' H locs cells slots cA ls hF hY hL
  have hF0 := hF
  obtain ⟨hx, hb, hml, hnm, hown, hts, hfr, hlo, hz, hK, hEx, hret⟩ := hF0
  have hY0 := hY
  obtain ⟨⟨hA, hP, hyn, hz0⟩, hcb, hsb, hn, hS⟩ := hY0
  have hD := sm_ws_D z cA μ
  simp only [sm_ck, Bool.and_eq_true, decide_eq_true_eq] at hc
  obtain ⟨hd, rfl⟩ := hc
  obtain ⟨i, t, rfl, h⟩ := sm_p1_e h
  obtain ⟨o, t, rfl, N, hy, hi, h⟩ := sm_pr_e h
  have ho : o < μ.1 := (hyn o).mp (by rw [hy]; simp)
  have hcell := sm_ws_get (z := z) (cA := cA) ho
  rw [hy] at hcell
  have hK1 := sm_K1 hK (hA o _ _ hy)
  refine va_zald hx hb hK1 hP o 0 hcell rfl hi hd ?_
  exact h z E D p l0 e R s m args below meth c Q' H locs cells slots cA ls hF hY hL
set_option maxHeartbeats 1000000 in
theorem sm_in_laload {ex : sm_O} {d bc bs k pc : Nat} {l : List (Option Value)} {st : List Value} {μ : sm_Mem} {Q : sm_Q} {n a b c0 pl : Nat} {v : Value} (hc : sm_ck k pc (.laload, n, a, b, c0, pl, v) = true) (h : sm_i ex (sm_W ex) d bc bs k pc l st μ Q (.laload) a b c0 v) : sm_W ex d bc bs k pc l st μ Q := by
  intro z E D p l0 e R s m args below meth c Q' H locs cells slots cA ls hF hY hL
  have hF0 := hF
  obtain ⟨hx, hb, hml, hnm, hown, hts, hfr, hlo, hz, hK, hEx, hret⟩ := hF0
  have hY0 := hY
  obtain ⟨⟨hA, hP, hyn, hz0⟩, hcb, hsb, hn, hS⟩ := hY0
  have hD := sm_ws_D z cA μ
  simp only [sm_ck, Bool.and_eq_true, decide_eq_true_eq] at hc
  obtain ⟨hd, rfl⟩ := hc
  obtain ⟨i, t, rfl, h⟩ := sm_p1_e h
  obtain ⟨o, t, rfl, N, hy, hi, h⟩ := sm_pr_e h
  have ho : o < μ.1 := (hyn o).mp (by rw [hy]; simp)
  have hcell := sm_ws_get (z := z) (cA := cA) ho
  rw [hy] at hcell
  have hK1 := sm_K1 hK (hA o _ _ hy)
  refine va_lald hx hb hK1 hP o 0 hcell rfl hi hd ?_
  exact h z E D p l0 e R s m args below meth c Q' H locs cells slots cA ls hF hY hL
set_option maxHeartbeats 1000000 in
theorem sm_in_aaload {ex : sm_O} {d bc bs k pc : Nat} {l : List (Option Value)} {st : List Value} {μ : sm_Mem} {Q : sm_Q} {n a b c0 pl : Nat} {v : Value} (hc : sm_ck k pc (.aaload, n, a, b, c0, pl, v) = true) (h : sm_i ex (sm_W ex) d bc bs k pc l st μ Q (.aaload) a b c0 v) : sm_W ex d bc bs k pc l st μ Q := by
  intro z E D p l0 e R s m args below meth c Q' H locs cells slots cA ls hF hY hL
  have hF0 := hF
  obtain ⟨hx, hb, hml, hnm, hown, hts, hfr, hlo, hz, hK, hEx, hret⟩ := hF0
  have hY0 := hY
  obtain ⟨⟨hA, hP, hyn, hz0⟩, hcb, hsb, hn, hS⟩ := hY0
  have hD := sm_ws_D z cA μ
  simp only [sm_ck, Bool.and_eq_true, decide_eq_true_eq] at hc
  obtain ⟨hd, rfl⟩ := hc
  obtain ⟨i, t, rfl, h⟩ := sm_p1_e h
  obtain ⟨o, t, rfl, N, q, hy, hi, h⟩ := sm_pr_e h
  have ho : o < μ.1 := (hyn o).mp (by rw [hy]; simp)
  have hcell := sm_ws_get (z := z) (cA := cA) ho
  rw [hy] at hcell
  have hK1 := sm_K1 hK (hA o _ _ hy)
  obtain ⟨x, h, hxv⟩ := sm_rr_e (z := z) (E := E) h
  refine va_aldq hx hb hK1 hP o 0 hcell rfl hi hd ?_
  have h9 := h z E D p l0 e R s m args below meth c Q' H locs cells slots cA ls hF hY hL
  simp only [List.map_cons, hxv] at h9
  exact h9
set_option maxHeartbeats 1000000 in
theorem sm_in_iastore {ex : sm_O} {d bc bs k pc : Nat} {l : List (Option Value)} {st : List Value} {μ : sm_Mem} {Q : sm_Q} {n a b c0 pl : Nat} {v : Value} (hc : sm_ck k pc (.iastore, n, a, b, c0, pl, v) = true) (h : sm_i ex (sm_W ex) d bc bs k pc l st μ Q (.iastore) a b c0 v) : sm_W ex d bc bs k pc l st μ Q := by
  intro z E D p l0 e R s m args below meth c Q' H locs cells slots cA ls hF hY hL
  have hF0 := hF
  obtain ⟨hx, hb, hml, hnm, hown, hts, hfr, hlo, hz, hK, hEx, hret⟩ := hF0
  have hY0 := hY
  obtain ⟨⟨hA, hP, hyn, hz0⟩, hcb, hsb, hn, hS⟩ := hY0
  have hD := sm_ws_D z cA μ
  simp only [sm_ck, Bool.and_eq_true, decide_eq_true_eq] at hc
  obtain ⟨hd, rfl⟩ := hc
  obtain ⟨x, t, rfl, h⟩ := sm_p1_e h
  obtain ⟨i, t, rfl, h⟩ := sm_p1_e h
  obtain ⟨o, t, rfl, N, hy, hi, h⟩ := sm_pr_e h
  have ho : o < μ.1 := (hyn o).mp (by rw [hy]; simp)
  have hcell := sm_ws_get (z := z) (cA := cA) ho
  rw [hy] at hcell
  have hK1 := sm_K1 hK (hA o _ _ hy)
  refine va_iast hx hb hK1 hP hD hS o 0 hcell rfl hi hd (fun H1 locs1 hP1 hD1 hS1 => ?_)
  exact h z E D p l0 e R s m args below meth c Q' H1 locs1 cells slots cA ls hF (hY.set ho (P := (· = i.toNatClampNeg)) ⟨rfl, rfl, fun k j hj => ⟨sm_st_or _ _ hj, rfl, rfl⟩⟩ (by rw [hy]; show va_P _ _ (List.set _ _ (_, .inl (_, _, .inl (sm_st μ.2.2.1 o i.toNatClampNeg x o)))) _; rw [sm_st_upd]; exact hP1) hS1) hL
set_option maxHeartbeats 1000000 in
theorem sm_in_bastore {ex : sm_O} {d bc bs k pc : Nat} {l : List (Option Value)} {st : List Value} {μ : sm_Mem} {Q : sm_Q} {n a b c0 pl : Nat} {v : Value} (hc : sm_ck k pc (.bastore, n, a, b, c0, pl, v) = true) (h : sm_i ex (sm_W ex) d bc bs k pc l st μ Q (.bastore) a b c0 v) : sm_W ex d bc bs k pc l st μ Q := by
  intro z E D p l0 e R s m args below meth c Q' H locs cells slots cA ls hF hY hL
  have hF0 := hF
  obtain ⟨hx, hb, hml, hnm, hown, hts, hfr, hlo, hz, hK, hEx, hret⟩ := hF0
  have hY0 := hY
  obtain ⟨⟨hA, hP, hyn, hz0⟩, hcb, hsb, hn, hS⟩ := hY0
  have hD := sm_ws_D z cA μ
  simp only [sm_ck, Bool.and_eq_true, decide_eq_true_eq] at hc
  obtain ⟨hd, rfl⟩ := hc
  obtain ⟨x, t, rfl, h⟩ := sm_p1_e h
  obtain ⟨i, t, rfl, h⟩ := sm_p1_e h
  obtain ⟨o, t, rfl, N, hy, hi, h01, h⟩ := sm_pr_e h
  have ho : o < μ.1 := (hyn o).mp (by rw [hy]; simp)
  have hcell := sm_ws_get (z := z) (cA := cA) ho
  rw [hy] at hcell
  have hK1 := sm_K1 hK (hA o _ _ hy)
  refine va_zast hx hb hK1 hP hD hS o 0 hcell rfl hi hd (fun H1 locs1 hP1 hD1 hS1 => ?_)
  have hnz : vp_nar .boolean x = x := by rcases h01 with rfl | rfl <;> rfl
  rw [hnz] at hP1
  exact h z E D p l0 e R s m args below meth c Q' H1 locs1 cells slots cA ls hF (hY.set ho (P := (· = i.toNatClampNeg)) ⟨rfl, rfl, fun k j hj => ⟨sm_st_or _ _ hj, rfl, rfl⟩⟩ (by rw [hy]; show va_P _ _ (List.set _ _ (_, .inl (_, _, .inl (sm_st μ.2.2.1 o i.toNatClampNeg x o)))) _; rw [sm_st_upd]; exact hP1) hS1) hL
set_option maxHeartbeats 1000000 in
theorem sm_in_lastore {ex : sm_O} {d bc bs k pc : Nat} {l : List (Option Value)} {st : List Value} {μ : sm_Mem} {Q : sm_Q} {n a b c0 pl : Nat} {v : Value} (hc : sm_ck k pc (.lastore, n, a, b, c0, pl, v) = true) (h : sm_i ex (sm_W ex) d bc bs k pc l st μ Q (.lastore) a b c0 v) : sm_W ex d bc bs k pc l st μ Q := by
  intro z E D p l0 e R s m args below meth c Q' H locs cells slots cA ls hF hY hL
  have hF0 := hF
  obtain ⟨hx, hb, hml, hnm, hown, hts, hfr, hlo, hz, hK, hEx, hret⟩ := hF0
  have hY0 := hY
  obtain ⟨⟨hA, hP, hyn, hz0⟩, hcb, hsb, hn, hS⟩ := hY0
  have hD := sm_ws_D z cA μ
  simp only [sm_ck, Bool.and_eq_true, decide_eq_true_eq] at hc
  obtain ⟨hd, rfl⟩ := hc
  obtain ⟨x, t, rfl, h⟩ := sm_q1_e h
  obtain ⟨i, t, rfl, h⟩ := sm_p1_e h
  obtain ⟨o, t, rfl, N, hy, hi, h⟩ := sm_pr_e h
  have ho : o < μ.1 := (hyn o).mp (by rw [hy]; simp)
  have hcell := sm_ws_get (z := z) (cA := cA) ho
  rw [hy] at hcell
  have hK1 := sm_K1 hK (hA o _ _ hy)
  refine va_last hx hb hK1 hP hD hS o 0 hcell rfl hi hd (fun H1 locs1 hP1 hD1 hS1 => ?_)
  exact h z E D p l0 e R s m args below meth c Q' H1 locs1 cells slots cA ls hF (hY.set ho (P := (· = i.toNatClampNeg)) ⟨rfl, rfl, fun k j hj => ⟨rfl, sm_st_or _ _ hj, rfl⟩⟩ (by rw [hy]; show va_P _ _ (List.set _ _ (_, .inl (_, _, .inr (.inl (sm_st μ.2.2.2.1 o i.toNatClampNeg x o))))) _; rw [sm_st_updL]; exact hP1) hS1) hL
set_option maxHeartbeats 1000000 in
theorem sm_in_aastore {ex : sm_O} {d bc bs k pc : Nat} {l : List (Option Value)} {st : List Value} {μ : sm_Mem} {Q : sm_Q} {n a b c0 pl : Nat} {v : Value} (hc : sm_ck k pc (.aastore, n, a, b, c0, pl, v) = true) (h : sm_i ex (sm_W ex) d bc bs k pc l st μ Q (.aastore) a b c0 v) : sm_W ex d bc bs k pc l st μ Q := by
  intro z E D p l0 e R s m args below meth c Q' H locs cells slots cA ls hF hY hL
  have hF0 := hF
  obtain ⟨hx, hb, hml, hnm, hown, hts, hfr, hlo, hz, hK, hEx, hret⟩ := hF0
  have hY0 := hY
  obtain ⟨⟨hA, hP, hyn, hz0⟩, hcb, hsb, hn, hS⟩ := hY0
  have hD := sm_ws_D z cA μ
  simp only [sm_ck, Bool.and_eq_true, decide_eq_true_eq] at hc
  obtain ⟨hd, rfl⟩ := hc
  obtain ⟨x, t, rfl, h⟩ := sm_pr_e h
  obtain ⟨i, t, rfl, h⟩ := sm_p1_e h
  obtain ⟨o, t, rfl, N, q, hy, hyx, hi, h⟩ := sm_pr_e h
  have ho : o < μ.1 := (hyn o).mp (by rw [hy]; simp)
  have hcell := sm_ws_get (z := z) (cA := cA) ho
  rw [hy] at hcell
  have hK1 := sm_K1 hK (hA o _ _ hy)
  have hxl : x < μ.1 := (hyn x).mp (by rw [hyx]; simp)
  have hcx := sm_ws_get (z := z) (cA := cA) hxl
  rw [hyx] at hcx
  obtain ⟨r, hr, -⟩ := hP x _ hcx
  obtain ⟨hq12, rfl⟩ := sm_cls_of hr
  refine va_astq hx hb hK1 hP hD hS o 0 x q hcell rfl hcx hr hi hd (fun H1 locs1 hP1 hD1 hS1 => ?_)
  exact h z E D p l0 e R s m args below meth c Q' H1 locs1 cells slots cA ls hF (hY.set ho (P := (· = i.toNatClampNeg)) ⟨rfl, rfl, fun k j hj => ⟨rfl, rfl, sm_st_or _ _ hj⟩⟩ (by rw [hy]; show va_P _ _ (List.set _ _ (_, .inl (_, _, .inr (.inr (.inr (.inr fun j => sm_rz z (sm_st μ.2.2.2.2 o i.toNatClampNeg (some x) o j))))))) _; rw [sm_st_upr]; exact hP1) hS1) hL
set_option maxHeartbeats 1000000 in
theorem sm_in_arraylength {ex : sm_O} {d bc bs k pc : Nat} {l : List (Option Value)} {st : List Value} {μ : sm_Mem} {Q : sm_Q} {n a b c0 pl : Nat} {v : Value} (hc : sm_ck k pc (.arraylength, n, a, b, c0, pl, v) = true) (h : sm_i ex (sm_W ex) d bc bs k pc l st μ Q (.arraylength) a b c0 v) : sm_W ex d bc bs k pc l st μ Q := by
  intro z E D p l0 e R s m args below meth c Q' H locs cells slots cA ls hF hY hL
  have hF0 := hF
  obtain ⟨hx, hb, hml, hnm, hown, hts, hfr, hlo, hz, hK, hEx, hret⟩ := hF0
  have hY0 := hY
  obtain ⟨⟨hA, hP, hyn, hz0⟩, hcb, hsb, hn, hS⟩ := hY0
  have hD := sm_ws_D z cA μ
  simp only [sm_ck, Bool.and_eq_true, decide_eq_true_eq] at hc
  obtain ⟨hd, rfl⟩ := hc
  rcases sm_pe_e h with ⟨o, t, rfl, N, q, hy, h⟩ | ⟨o, t, rfl, ho2, h⟩
  · have ho : o < μ.1 := (hyn o).mp (by rw [hy]; simp)
    have hcell := sm_ws_get (z := z) (cA := cA) ho
    rw [hy] at hcell
    obtain ⟨w, hw⟩ := sm_ce_arr z (cA o) q N o μ
    rw [hw] at hcell
    refine va_alen hx hb (sm_K1 hK (hA o _ _ hy)) hP o 0 hcell rfl rfl hd ?_
    exact h z E D p l0 e R s m args below meth c Q' H locs cells slots cA ls hF hY hL
  · obtain ⟨hEz, cell, c1, c2, c3, c4, c5⟩ := hEx.2.2.2.2.2.2 o ho2
    refine W.alen hx hb (cell := cell) (by rw [hS.2.1 (E o) (by omega) (by omega)]; exact c1) c2 (n := nI (ex.1 o).1) (by rw [c4]; rfl) rfl rfl hd ?_
    exact h z E D p l0 e R s m args below meth c Q' H locs cells slots cA ls hF hY hL
end
section
theorem sm_Dyn.lo {z : Nat} {D : va_G} {R : Room} {s : State} {μ : sm_Mem} {H : Heap} {locs : List Loc} {cells slots : Nat} {cA : Nat → ClassId} {bc bs : Nat} (hz : z ≤ s.heap.size) (h : sm_Dyn z D R s μ H locs cells slots cA bc bs) : z + μ.1 ≤ H.size := by
  obtain ⟨⟨-, hP, -, -⟩, -, -, hn, hS⟩ := h
  by_cases h0 : μ.1 = 0
  · have := hS.1
    omega
  · have := (hP (μ.1 - 1) _ (sm_ws_get (by omega))).lt
    simp only at this
    omega
theorem sm_size {z : Nat} {D : va_G} {p : Program} {l0 : Launch} {e : Env} {R : Room} {s : State} {m : MethodId} {args : Array Value} {below : List Frame} {meth : Method} {c : Code} {μ : sm_Mem} {H : Heap} {locs : List Loc} {cells slots : Nat} {cA : Nat → ClassId} {bc bs : Nat} {Q' : State → Prop} {g : JFrame} (hz : z ≤ s.heap.size) (h : sm_Dyn z D R s μ H locs cells slots cA bc bs)
    (k : H.size = z + μ.1 → W p l0 e R s m args below meth c H locs cells slots Q' g) : W p l0 e R s m args below meth c H locs cells slots Q' g := by
  intro T hT X
  have h1 : T.heap.size ≤ s.heap.size + cells := X.same.2.2.1
  have h2 := h.lo hz
  have hn := h.2.2.2.1
  rw [hT] at h1
  exact k (by omega) T hT X
theorem sm_Dyn.push {z : Nat} {D : va_G} {R : Room} {s : State} {μ : sm_Mem} {H H1 : Heap} {locs : List Loc} {cells slots : Nat} {cA : Nat → ClassId} {bc bs N : Nat} {c0 : ClassId} {y : Nat ⊕ (Nat × Nat)} (h : sm_Dyn z D R s μ H locs cells slots cA bc bs) (hb : 1 ≤ bc) (hN : N ≤ bs) (hH : H.size = z + μ.1) (z1 : H1.size = z + μ.1 + 1) (o1 : ∀ q : Nat, q < z + μ.1 → H1[q]? = H[q]?)
    (ha : va_at D vwCl (z + μ.1, sm_ce z c0 (some y) μ.1 (μ.1 + 1, sm_up μ.2.1 μ.1 (some y), μ.2.2)) H1) (hr : ∀ t n : Nat, y = .inr (t, n) → ArrOfT s c0 (sm_aty t) ∧ va_RA s c0 (sm_aty t)) : sm_Dyn z D R s (μ.1 + 1, sm_up μ.2.1 μ.1 (some y), μ.2.2) H1 locs (cells + 1) (slots + N) (sm_up cA μ.1 c0) (bc - 1) (bs - N) := by
  obtain ⟨⟨hA, hP, hyn, hz0⟩, hcb, hsb, hn, hS⟩ := h
  have hk : ∀ (k : Nat) (x : Nat × va_E), (sm_ws z cA μ)[k]? = some x → H1[x.1]? = H[x.1]? := fun k x hx => o1 x.1 (by have := (hP k x hx).lt; omega)
  refine ⟨⟨fun o t n hq => ?_, ?_, fun o => ?_, fun o j ho => hz0 o j (by show μ.1 ≤ o; have : μ.1 + 1 ≤ o := ho; omega)⟩, by omega, by omega, by show s.heap.size + (cells + 1) = z + (μ.1 + 1); omega, ⟨by have := hS.1; omega, fun q h1 h2 => (o1 q (by have := hS.1; omega)).trans (hS.2.1 q h1 h2), hS.2.2⟩⟩
  · by_cases e : o = μ.1
    · subst e
      have hq : sm_up μ.2.1 μ.1 (some y) μ.1 = some (.inr (t, n)) := hq
      simp only [sm_up, if_true] at hq ⊢
      exact hr t n (Option.some.inj hq)
    · have hq : sm_up μ.2.1 μ.1 (some y) o = some (.inr (t, n)) := hq
      simp only [sm_up, if_neg e] at hq ⊢
      exact hA o t n hq
  · rw [← sm_ws_push (c0 := c0) (μ := μ) (μ' := (μ.1 + 1, sm_up μ.2.1 μ.1 (some y), μ.2.2)) rfl (fun k hk => by show sm_up _ _ _ _ = _; simp [sm_up, Nat.ne_of_lt hk]) rfl]
    refine (hP.kept hk).app (fun k x hx => ?_)
    cases k with
    | zero =>
      cases hx
      have e : (sm_up μ.2.1 μ.1 (some y)) μ.1 = some y := by simp [sm_up]
      show va_at D vwCl (z + μ.1, sm_ce z c0 ((sm_up μ.2.1 μ.1 (some y)) μ.1) μ.1 _) H1
      rw [e]
      exact ha
    | succ k => cases hx
  · show sm_up μ.2.1 μ.1 (some y) o ≠ none ↔ o < μ.1 + 1
    by_cases e : o = μ.1
    · subst e
      simp [sm_up]
    · simp only [sm_up, if_neg e]
      rw [hyn o]
      omega
theorem sm_arr_i : Cond.arrayClass .int ∈ sm_all := sm_wd_all (pl := 104) (by decide +kernel) rfl
theorem sm_arr_l : Cond.arrayClass .long ∈ sm_all := sm_wd_all (pl := 431) (by decide +kernel) rfl
theorem sm_arr_z : Cond.arrayClass .boolean ∈ sm_all := sm_wd_all (pl := 1204) (by decide +kernel) rfl
set_option maxHeartbeats 1000000 in
theorem sm_in_new {ex : sm_O} {d bc bs k pc : Nat} {l : List (Option Value)} {st : List Value} {μ : sm_Mem} {Q : sm_Q} {i : Nat} {n a b c0 pl : Nat} {v : Value} (hc : sm_ck k pc (.new i, n, a, b, c0, pl, v) = true) (h : sm_i ex (sm_W ex) d bc bs k pc l st μ Q (.new i) a b c0 v) : sm_W ex d bc bs k pc l st μ Q := by
  intro z E D p l0 e R s m args below meth c Q' H locs cells slots cA ls hF hY hL
  have hF0 := hF
  obtain ⟨hx, hb, hml, hnm, hown, hts, hfr, hlo, hz, hK, hEx, hret⟩ := hF0
  have hY0 := hY
  obtain ⟨⟨hA, hP, hyn, hz0⟩, hcb, hsb, hn, hS⟩ := hY0
  have hD := sm_ws_D z cA μ
  simp only [sm_ck, Bool.and_eq_true, decide_eq_true_eq] at hc
  obtain ⟨hd, ⟨rfl, rfl, ha1⟩, hw⟩ := hc
  obtain ⟨h1, h2, h⟩ := h
  refine sm_size hz hY fun hH => ?_
  have hKn := hK.1 a _ (sm_cls_at ha1)
  have hci := sm_cls_i ha1
  refine W.newcK hx hb hown (hts _ (sm_wd_all hw rfl)) (hts _ hci.1) (hts _ hci.2) rfl hd (by omega) (by omega) hKn.2.1 hH fun H1 kC hkC e1 z1 o1 => ?_
  have hob := u_born (sm_ty a) hts (sm_cls_w ha1) hKn hkC e1 (sm_cls_ty ha1)
  refine h z E D p l0 e R s m args below meth c Q' H1 locs (cells + 1) (slots + sm_nf a) (sm_up cA μ.1 (cA μ.1)) ls hF (?_) hL
  refine hY.push (y := .inl a) h1 h2 hH z1 o1 ⟨_, sm_cls_at ha1, hob.to fun j hj => ?_⟩ (fun t n hq => by cases hq)
  have hk := sm_cls_kd ha1 hj
  obtain ⟨q1, q2, q3⟩ := hz0 μ.1 j (Nat.le_refl _)
  show defaultValue (sm_ty a j) = vp_V ((List.range (sm_nf a)).map fun j => sm_fv z (sm_kd a j) μ.1 j (μ.1 + 1, sm_up μ.2.1 μ.1 (some (.inl a)), μ.2.2)) j
  unfold vp_V
  rw [List.getD_eq_getElem?_getD, sm_rm_get _ hj]
  show defaultValue (sm_ty a j) = sm_fv z (sm_kd a j) μ.1 j _
  generalize sm_ty a j = ty at hk ⊢
  generalize sm_kd a j = kd at hk ⊢
  unfold sm_kt at hk
  split at hk <;> first | (cases hk; done) | simp [defaultValue, sm_fv, q1, q2, q3, sm_rz, va_rf]
set_option maxHeartbeats 1000000 in
theorem sm_in_newarray {ex : sm_O} {d bc bs k pc : Nat} {l : List (Option Value)} {st : List Value} {μ : sm_Mem} {Q : sm_Q} {i : ArrayType} {n a b c0 pl : Nat} {v : Value} (hc : sm_ck k pc (.newarray i, n, a, b, c0, pl, v) = true) (h : sm_i ex (sm_W ex) d bc bs k pc l st μ Q (.newarray i) a b c0 v) : sm_W ex d bc bs k pc l st μ Q := by
  intro z E D p l0 e R s m args below meth c Q' H locs cells slots cA ls hF hY hL
  have hF0 := hF
  obtain ⟨hx, hb, hml, hnm, hown, hts, hfr, hlo, hz, hK, hEx, hret⟩ := hF0
  have hY0 := hY
  obtain ⟨⟨hA, hP, hyn, hz0⟩, hcb, hsb, hn, hS⟩ := hY0
  have hD := sm_ws_D z cA μ
  simp only [sm_ck, Bool.and_eq_true, decide_eq_true_eq] at hc
  obtain ⟨hd, rfl, hat⟩ := hc
  obtain ⟨x, t, rfl, hx0, hx1, h1, h2, hh⟩ := sm_p1_e h
  refine sm_size hz hY fun hH => ?_
  rcases hat with ⟨rfl, rfl⟩ | ⟨rfl, rfl⟩ | ⟨rfl, rfl⟩
  · refine va_newaK (atype := .int) hx hb (hts _ (sm_arr_i)) rfl hd rfl hx0 rfl (by show _ * 4 ≤ _; omega) (by omega) (by omega) hH fun H1 cN e1 z1 o1 hAr hfc => ?_
    refine hh z E D p l0 e R s m args below meth c Q' H1 locs (cells + 1) (slots + x.toNatClampNeg) (sm_up cA μ.1 cN) ls hF (?_) hL
    refine hY.push (y := .inr (0, x.toNatClampNeg)) h1 h2 hH z1 o1 ?_ (fun t n hq => by cases hq; exact ⟨hAr, hfc⟩)
    show H1[z + μ.1]? = some (vp_cell cN (x.toNatClampNeg, .inl (μ.2.2.1 μ.1)))
    rw [e1]
    rw [vp_cell_i]
    congr 2
    funext j
    have q := hz0 μ.1 j (Nat.le_refl _)
    show _ = Value.int (μ.2.2.1 μ.1 j)
    rw [q.1]
    rfl
  · refine va_newaK (atype := .long) hx hb (hts _ (sm_arr_l)) rfl hd rfl hx0 rfl (by show _ * 8 ≤ _; omega) (by omega) (by omega) hH fun H1 cN e1 z1 o1 hAr hfc => ?_
    refine hh z E D p l0 e R s m args below meth c Q' H1 locs (cells + 1) (slots + x.toNatClampNeg) (sm_up cA μ.1 cN) ls hF (?_) hL
    refine hY.push (y := .inr (1, x.toNatClampNeg)) h1 h2 hH z1 o1 ?_ (fun t n hq => by cases hq; exact ⟨hAr, hfc⟩)
    show H1[z + μ.1]? = some (vp_cell cN (x.toNatClampNeg, .inr (.inl (μ.2.2.2.1 μ.1))))
    rw [e1]
    rw [vp_cell_l]
    congr 2
    funext j
    have q := hz0 μ.1 j (Nat.le_refl _)
    show _ = Value.long (μ.2.2.2.1 μ.1 j)
    rw [q.2.1]
    rfl
  · refine va_newaK (atype := .boolean) hx hb (hts _ (sm_arr_z)) rfl hd rfl hx0 rfl (by show _ * 1 ≤ _; omega) (by omega) (by omega) hH fun H1 cN e1 z1 o1 hAr hfc => ?_
    refine hh z E D p l0 e R s m args below meth c Q' H1 locs (cells + 1) (slots + x.toNatClampNeg) (sm_up cA μ.1 cN) ls hF (?_) hL
    refine hY.push (y := .inr (2, x.toNatClampNeg)) h1 h2 hH z1 o1 ?_ (fun t n hq => by cases hq; exact ⟨hAr, hfc⟩)
    show H1[z + μ.1]? = some (vp_cell cN (x.toNatClampNeg, .inl (μ.2.2.1 μ.1)))
    rw [e1]
    rw [vp_cell_i]
    congr 2
    funext j
    have q := hz0 μ.1 j (Nat.le_refl _)
    show _ = Value.int (μ.2.2.1 μ.1 j)
    rw [q.1]
    rfl
set_option maxHeartbeats 1000000 in
theorem sm_in_anewarray {ex : sm_O} {d bc bs k pc : Nat} {l : List (Option Value)} {st : List Value} {μ : sm_Mem} {Q : sm_Q} {i : Nat} {n a b c0 pl : Nat} {v : Value} (hc : sm_ck k pc (.anewarray i, n, a, b, c0, pl, v) = true) (h : sm_i ex (sm_W ex) d bc bs k pc l st μ Q (.anewarray i) a b c0 v) : sm_W ex d bc bs k pc l st μ Q := by
  intro z E D p l0 e R s m args below meth c Q' H locs cells slots cA ls hF hY hL
  have hF0 := hF
  obtain ⟨hx, hb, hml, hnm, hown, hts, hfr, hlo, hz, hK, hEx, hret⟩ := hF0
  have hY0 := hY
  obtain ⟨⟨hA, hP, hyn, hz0⟩, hcb, hsb, hn, hS⟩ := hY0
  have hD := sm_ws_D z cA μ
  simp only [sm_ck, Bool.and_eq_true, decide_eq_true_eq] at hc
  obtain ⟨hd, ⟨rfl, hat⟩, hw⟩ := hc
  obtain ⟨x, t, rfl, hx0, hx1, h1, h2, h⟩ := sm_p1_e h
  refine sm_size hz hY fun hH => ?_
  have hover : va_AO (sm_cn a) s := by
    rcases hat with rfl | rfl | rfl
    · exact hEx.2.1
    · exact hEx.2.2.1
    · exact hEx.2.2.2.1
  refine W.anew hx hb hown (hts _ (sm_wd_all hw rfl)) (va_AO.use hover) rfl hd rfl hx0 (by omega) (by omega) (by omega) fun cN kA comp f1 f2 f3 f4 => ?_
  generalize hH1 : H.push ({ cls := cN, slots := Array.replicate x.toNatClampNeg .null, vm := .none } : Cell) = H1
  have z1 : H1.size = z + μ.1 + 1 := by rw [← hH1, Array.size_push, hH]
  have e1 : H1[z + μ.1]? = some (arrV cN x.toNatClampNeg (fun _ => .null)) := by rw [← hH1, ← hH, Array.getElem?_push_size, ← arrV_new]
  have o1 : ∀ q : Nat, q < z + μ.1 → H1[q]? = H[q]? := fun q hq => by rw [← hH1, Array.getElem?_push, if_neg (by omega)]
  have hAr : ArrOfT s cN (.object (sm_cn a)) := fun N z => ⟨(fun k h => by cases h), kA, f2, comp, f3⟩
  rw [hH]
  refine h z E D p l0 e R s m args below meth c Q' H1 locs (cells + 1) (slots + x.toNatClampNeg) (sm_up cA μ.1 cN) ls hF (?_) hL
  refine hY.push (y := .inr (a + 3, x.toNatClampNeg)) h1 h2 hH z1 o1 ?_ (fun t n hq => by cases hq; exact ⟨hAr, kA, comp, f2, f3, f4, f1⟩)
  show H1[z + μ.1]? = some (vp_cell cN (x.toNatClampNeg, .inr (.inr (.inr (.inr fun j => sm_rz z (μ.2.2.2.2 μ.1 j))))))
  rw [e1]
  rw [vp_cell_q]
  congr 2
  funext j
  have q := hz0 μ.1 j (Nat.le_refl _)
  show _ = va_rf (sm_rz z (μ.2.2.2.2 μ.1 j))
  rw [q.2.2]
  rfl
set_option maxHeartbeats 1000000 in
theorem sm_in_ireturn {ex : sm_O} {d bc bs k pc : Nat} {l : List (Option Value)} {st : List Value} {μ : sm_Mem} {Q : sm_Q} {n a b c0 pl : Nat} {v : Value} (hc : sm_ck k pc (.ireturn, n, a, b, c0, pl, v) = true) (h : sm_i ex (sm_W ex) d bc bs k pc l st μ Q (.ireturn) a b c0 v) : sm_W ex d bc bs k pc l st μ Q := by
  intro z E D p l0 e R s m args below meth c Q' H locs cells slots cA ls hF hY hL
  have hF0 := hF
  obtain ⟨hx, hb, hml, hnm, hown, hts, hfr, hlo, hz, hK, hEx, hret⟩ := hF0
  have hY0 := hY
  obtain ⟨⟨hA, hP, hyn, hz0⟩, hcb, hsb, hn, hS⟩ := hY0
  have hD := sm_ws_D z cA μ
  simp only [sm_ck, Bool.and_eq_true, decide_eq_true_eq] at hc
  obtain ⟨hd, hc⟩ := hc
  obtain ⟨x, rfl, h⟩ := sm_rt1_e h
  obtain ⟨x, t, he, hh⟩ := sm_p1_e h
  cases he
  split at hc
  · simp only [decide_eq_true_eq] at hc
    obtain ⟨rfl, hrt⟩ := hc
    exact hret (some (.int x)) μ H locs cells slots cA bc bs pc ls hY (Or.inl hh.1) hh.2 (Or.inl ⟨x, .int, rfl, hd, hrt, rfl⟩)
  · simp only [decide_eq_true_eq] at hc
    obtain ⟨rfl, hrt⟩ := hc
    exact hret (some (.int x)) μ H locs cells slots cA bc bs pc ls hY (Or.inl hh.1) hh.2.2 (Or.inl ⟨x, .boolean, rfl, hd, hrt, by rcases hh.2.1 with rfl | rfl <;> rfl⟩)
  · simp only [decide_eq_true_eq] at hc
    obtain ⟨rfl, hk, hrt⟩ := hc
    rename_i h0 h1
    have h : (x = 0 ∨ x = 1) ∧ Q (some (.int x)) μ := by
      match c0, hh, h0, h1 with
      | 0, _, h0, _ => exact (h0 rfl).elim
      | 1, _, _, h1 => exact (h1 rfl).elim
      | _ + 2, h, _, _ => exact h
    exact hret (some (.int x)) μ H locs cells slots cA bc bs pc ls hY (Or.inr hk) h.2 (Or.inl ⟨x, .boolean, rfl, hd, hrt, by rcases h.1 with rfl | rfl <;> rfl⟩)
set_option maxHeartbeats 1000000 in
theorem sm_in_lreturn {ex : sm_O} {d bc bs k pc : Nat} {l : List (Option Value)} {st : List Value} {μ : sm_Mem} {Q : sm_Q} {n a b c0 pl : Nat} {v : Value} (hc : sm_ck k pc (.lreturn, n, a, b, c0, pl, v) = true) (h : sm_i ex (sm_W ex) d bc bs k pc l st μ Q (.lreturn) a b c0 v) : sm_W ex d bc bs k pc l st μ Q := by
  intro z E D p l0 e R s m args below meth c Q' H locs cells slots cA ls hF hY hL
  have hF0 := hF
  obtain ⟨hx, hb, hml, hnm, hown, hts, hfr, hlo, hz, hK, hEx, hret⟩ := hF0
  have hY0 := hY
  obtain ⟨⟨hA, hP, hyn, hz0⟩, hcb, hsb, hn, hS⟩ := hY0
  have hD := sm_ws_D z cA μ
  simp only [sm_ck, Bool.and_eq_true, decide_eq_true_eq] at hc
  obtain ⟨hd, rfl, hrt⟩ := hc
  obtain ⟨x, rfl, h⟩ := sm_rt1_e h
  obtain ⟨x, t, he, h⟩ := sm_q1_e h
  cases he
  exact hret (some (.long x)) μ H locs cells slots cA bc bs pc ls hY (Or.inl h.1) h.2 (Or.inr (Or.inl ⟨x, rfl, hd, hrt⟩))
set_option maxHeartbeats 1000000 in
theorem sm_in_areturn {ex : sm_O} {d bc bs k pc : Nat} {l : List (Option Value)} {st : List Value} {μ : sm_Mem} {Q : sm_Q} {n a b c0 pl : Nat} {v : Value} (hc : sm_ck k pc (.areturn, n, a, b, c0, pl, v) = true) (h : sm_i ex (sm_W ex) d bc bs k pc l st μ Q (.areturn) a b c0 v) : sm_W ex d bc bs k pc l st μ Q := by
  intro z E D p l0 e R s m args below meth c Q' H locs cells slots cA ls hF hY hL
  have hF0 := hF
  obtain ⟨hx, hb, hml, hnm, hown, hts, hfr, hlo, hz, hK, hEx, hret⟩ := hF0
  have hY0 := hY
  obtain ⟨⟨hA, hP, hyn, hz0⟩, hcb, hsb, hn, hS⟩ := hY0
  have hD := sm_ws_D z cA μ
  simp only [sm_ck, Bool.and_eq_true, decide_eq_true_eq] at hc
  obtain ⟨hd, rfl, hrt⟩ := hc
  obtain ⟨x, rfl, h⟩ := sm_rt1_e h
  obtain ⟨x, t, he, h⟩ := sm_pr_e h
  cases he
  exact hret (some (.ref x)) μ H locs cells slots cA bc bs pc ls hY (Or.inl h.1) h.2 (Or.inr (Or.inr (Or.inl ⟨x, _, rfl, hd, hrt⟩)))
set_option maxHeartbeats 1000000 in
theorem sm_in_return {ex : sm_O} {d bc bs k pc : Nat} {l : List (Option Value)} {st : List Value} {μ : sm_Mem} {Q : sm_Q} {n a b c0 pl : Nat} {v : Value} (hc : sm_ck k pc (.return_, n, a, b, c0, pl, v) = true) (h : sm_i ex (sm_W ex) d bc bs k pc l st μ Q (.return_) a b c0 v) : sm_W ex d bc bs k pc l st μ Q := by
  intro z E D p l0 e R s m args below meth c Q' H locs cells slots cA ls hF hY hL
  have hF0 := hF
  obtain ⟨hx, hb, hml, hnm, hown, hts, hfr, hlo, hz, hK, hEx, hret⟩ := hF0
  have hY0 := hY
  obtain ⟨⟨hA, hP, hyn, hz0⟩, hcb, hsb, hn, hS⟩ := hY0
  have hD := sm_ws_D z cA μ
  simp only [sm_ck, Bool.and_eq_true, decide_eq_true_eq] at hc
  obtain ⟨hd, rfl, hrt⟩ := hc
  obtain ⟨h0, rfl, h⟩ := h
  exact hret none μ H locs cells slots cA bc bs pc ls hY (Or.inl h0) h (Or.inr (Or.inr (Or.inr ⟨rfl, hd, hrt⟩)))
set_option maxHeartbeats 1000000 in
theorem sm_in_sw {ex : sm_O} {d bc bs k pc : Nat} {l : List (Option Value)} {st : List Value} {μ : sm_Mem} {Q : sm_Q} {off lo hi : Int} {offs : Array Int} {n a b c0 pl : Nat} {v : Value} (hc : sm_ck k pc (.tableswitch off lo hi offs, n, a, b, c0, pl, v) = true) (h : sm_i ex (sm_W ex) d bc bs k pc l st μ Q (.tableswitch off lo hi offs) a b c0 v) : sm_W ex d bc bs k pc l st μ Q := by
  intro z E D p l0 e R s m args below meth c Q' H locs cells slots cA ls hF hY hL
  have hF0 := hF
  obtain ⟨hx, hb, hml, hnm, hown, hts, hfr, hlo, hz, hK, hEx, hret⟩ := hF0
  have hY0 := hY
  obtain ⟨⟨hA, hP, hyn, hz0⟩, hcb, hsb, hn, hS⟩ := hY0
  have hD := sm_ws_D z cA μ
  simp only [sm_ck, Bool.and_eq_true, decide_eq_true_eq] at hc
  obtain ⟨hd, ⟨ht, hall⟩, hsz⟩ := hc
  obtain ⟨x, t, rfl, h1, h2⟩ := sm_p1_e h
  by_cases h3 : x.toInt < lo ∨ hi < x.toInt
  · exact lv_tableOut hx hb hd h3 ht (h1 h3 z E D p l0 e R s m args below meth c Q' H locs cells slots cA ls hF hY hL)
  · have hj : x.toInt = lo + ((x.toInt - lo).toNat : Int) := by omega
    have hlt : (x.toInt - lo).toNat < offs.size := by omega
    have ho : offs[(x.toInt - lo).toNat]? = some offs[(x.toInt - lo).toNat] := Array.getElem?_eq_getElem hlt
    have hp : 0 ≤ (pc : Int) + offs[(x.toInt - lo).toNat] := of_decide_eq_true (List.all_eq_true.mp hall _ (by simp))
    exact lv_tableIn hx hb hd (fun q => h3 (Or.inl q)) (fun q => h3 (Or.inr q)) ho (by omega) (h2 _ _ ho hj z E D p l0 e R s m args below meth c Q' H locs cells slots cA ls hF hY hL)
end
section
-- SOUNDNESS: calls
noncomputable def sm_wk (k : Nat) : List Cond := .code (sm_y k) (sm_by k) (sm_ml k) (sm_rt k) :: sm_all
theorem sm_goodIn {ws : List Cond} (h : ∀ w ∈ ws, w ∈ sm_all) : GoodIn sm_all ws := fun w hw => ⟨h w hw, good_of_word (List.mem_filter.mp (h w hw)).2⟩
theorem sm_mk_f {k : Nat} (h : k < sm_klaw) : Cond.code (sm_y k) (sm_by k) (sm_ml k) (sm_rt k) ∈ sm_all ∧ Cond.initialized (sm_y k).cls ∈ sm_all ∧ plainName (sm_y k).cls = true ∧ sm_ml k ≤ 22 ∧
    ((sm_y k).cls ≠ "java/lang/invoke/MethodHandle" ∧ (sm_y k).cls ≠ "java/lang/invoke/VarHandle" ∧ (parseMethodDescriptor (sm_y k).desc).map (fun d => d.parameters.length) = some (sm_nth (0, 0, 0, 0, 0, 0) sm_mkl k).2.2.2.2.2) ∧
    ((sm_nth (0, 0, 0, 0, 0, 0) sm_mkl k).1 = 0 → Cond.instanceMethod (sm_y k) ∈ sm_all ∧ Cond.selects (sm_y k).cls (sm_y k) (sm_y k) ∈ sm_all) ∧
    ((sm_nth (0, 0, 0, 0, 0, 0) sm_mkl k).1 = 1 → Cond.static (sm_y k) ∈ sm_all) ∧
    ((sm_nth (0, 0, 0, 0, 0, 0) sm_mkl k).1 = 2 → Cond.instanceMethod (sm_y k) ∈ sm_all ∧ (sm_y k).name = "<init>") := by
  have q := sm_mk_at h
  generalize sm_nth (0, 0, 0, 0, 0, 0) sm_mkl k = r at q ⊢
  obtain ⟨kd, p1, p2, p3, p4, n⟩ := r
  simp only [sm_mk, Bool.and_eq_true, decide_eq_true_eq] at q
  obtain ⟨⟨⟨⟨⟨q1, q2⟩, q3⟩, q4⟩, q5⟩, q6⟩ := q
  refine ⟨sm_wd_all q1 rfl, sm_wd_all q2 rfl, q3, q4, q5, fun e => ?_, fun e => ?_, fun e => ?_⟩
  · have e : kd = 0 := e
    subst e
    simp only [Bool.and_eq_true] at q6
    refine ⟨sm_wd_all q6.1 rfl, ?_⟩
    obtain ⟨-, q6⟩ := q6
    split at q6
    · have q7 := List.mem_of_getElem? (of_decide_eq_true q6)
      obtain ⟨y, hy, hy2⟩ := List.mem_map.mp q7
      refine List.mem_filter.mpr ⟨List.mem_append_left _ (List.mem_map.mpr ⟨y, hy, by rw [hy2]⟩), rfl⟩
    · exact sm_wd_all q6 rfl
  · have e : kd = 1 := e
    subst e
    exact sm_wd_all q6 rfl
  · have e : kd = 2 := e
    subst e
    simp only [Bool.and_eq_true, decide_eq_true_eq] at q6
    exact ⟨sm_wd_all q6.1 rfl, q6.2⟩
theorem sm_Rep.moved {z : Nat} {D : va_G} {cA : Nat → ClassId} {μ : sm_Mem} {u U : State} {H : Heap} (hvm : u.vm.Alike U.vm) (h : sm_Rep z D cA μ u H) : sm_Rep z D cA μ U H :=
  ⟨fun o t n hq => ⟨arrOfT_moved hvm (h.1 o t n hq).1, (h.1 o t n hq).2.moved hvm⟩, h.2⟩
theorem sm_nest_warm {s U : State} (hW : s.WarmedH U.vm) : ∀ w ∈ sm_nests, va_Nw w s → va_Nw w U := by
  intro w hw h
  have := (List.mem_filter.mp hw).2
  cases w <;> first | exact va_Nw.warmF hW h | exact va_Nw.warmM hW h | (cases this; done)
theorem sm_nest_same {s U : State} (hv : s.vm = U.vm) : ∀ w ∈ sm_nests, va_Nw w s → va_Nw w U := by
  intro w hw h
  have := (List.mem_filter.mp hw).2
  cases w <;> first | exact va_Nw.same rfl hv h | (cases this; done)
theorem sm_Ex.warm {z : Nat} {E : Nat → Nat} {ex : sm_O} {s U : State} (hW : s.WarmedH U.vm) (hq : ∀ a : Nat, a < s.heap.size → ¬ z ≤ a → U.heap[a]? = s.heap[a]?) (h : sm_Ex z E ex s) : sm_Ex z E ex U := by
  obtain ⟨h1, h2, h3, h4, ⟨⟨adV, g1⟩, g2, g3⟩, h6, h7⟩ := h
  have hA := hW.alike
  refine ⟨fun w hw => sm_nest_warm hW w hw (h1 w hw), h2.moved hA, h3.moved hA, h4.moved hA, ⟨⟨adV, (g1.moved hA).kept hq⟩, fun i hi => (g2 i hi).warm hW, g3⟩, (h6.moved hA).kept hq, fun o ho => ?_⟩
  obtain ⟨e1, cell, c1, c2, c3⟩ := h7 o ho
  exact ⟨e1, cell, by rw [hq _ (Array.getElem?_eq_some_iff.mp c1).1 (by omega)]; exact c1, State.isArrayOf_alike hA c2, c3⟩
theorem sm_Ex.same {z : Nat} {E : Nat → Nat} {ex : sm_O} {s U : State} (hv : s.vm = U.vm) (hh : U.heap = s.heap) (h : sm_Ex z E ex s) : sm_Ex z E ex U := by
  obtain ⟨h1, h2, h3, h4, ⟨⟨adV, g1⟩, g2, g3⟩, h6, h7⟩ := h
  have hA : s.vm.Alike U.vm := by rw [hv]; exact Vm.Alike.refl _
  refine ⟨fun w hw => sm_nest_same hv w hw (h1 w hw), h2.moved hA, h3.moved hA, h4.moved hA, ⟨⟨adV, by rw [hh]; exact g1.moved hA⟩, fun i hi => (g2 i hi).same hv.symm, g3⟩, by rw [hh]; exact h6.moved hA, fun o ho => ?_⟩
  obtain ⟨e1, cell, c1, c2, c3⟩ := h7 o ho
  exact ⟨e1, cell, by rw [hh]; exact c1, State.isArrayOf_alike hA c2, c3⟩
/-- a method's start -/
def sm_Pre (z : Nat) (E : Nat → Nat) (D : va_G) (ex : sm_O) (μ : sm_Mem) (U : State) : Prop := U.heap.size = z + μ.1 ∧ va_K D vwCl [] U ∧ sm_Ex z E ex U ∧ ∃ cA, sm_Rep z D cA μ U U.heap
theorem sm_Pre.same {z : Nat} {E : Nat → Nat} {D : va_G} {ex : sm_O} {μ : sm_Mem} {s U : State} (hv : s.vm = U.vm) (hh : U.heap = s.heap) (h : sm_Pre z E D ex μ s) : sm_Pre z E D ex μ U := by
  obtain ⟨h1, h2, h3, cA, h4⟩ := h
  have hA : s.vm.Alike U.vm := by rw [hv]; exact Vm.Alike.refl _
  exact ⟨by rw [hh]; exact h1, va_K.moved hA h2, h3.same hv hh, cA, by rw [hh]; exact h4.moved hA⟩
def sm_Pc (z : Nat) (E : Nat → Nat) (D : va_G) (ex : sm_O) (μ : sm_Mem) (as : List Value) : Array Value → State → Prop := fun a U => a = (as.map (sm_v z E)).toArray ∧ sm_Pre z E D ex μ U
def sm_Qc (z : Nat) (E : Nat → Nat) (D : va_G) (mc : Nat) (μ : sm_Mem) (Q : sm_Q) : Array Value → State → Outcome → State → Prop := fun _ st o t => (∃ (r : Option Value) (μ1 : sm_Mem) (cA : Nat → ClassId), o = .returned (r.map (sm_v z E)) ∧ Q r μ1 ∧ μ1.1 = μ.1 + mc ∧ sm_Rep z D cA μ1 t t.heap) ∧ va_F (z ≤ ·) st t
theorem sm_blind {z : Nat} {E : Nat → Nat} {D : va_G} {ex : sm_O} {μ : sm_Mem} {as : List Value} : FrameBlind (sm_Pc z E D ex μ as) := fun _ U _ _ q => ⟨q.1, sm_Pre.same (s := U) rfl rfl q.2⟩
set_option maxHeartbeats 1000000 in
theorem sm_met {ex : sm_O} {d mc ms k : Nat} {as : List Value} {μ : sm_Mem} {Q : sm_Q} (hk : k < sm_klaw) (has : sm_ct as ≤ sm_ml k) (hW : sm_W ex d mc ms k 0 (sm_en as (sm_ml k)) [] μ Q) (l0 : Launch) (z : Nat) (E : Nat → Nat) (D : va_G) :
    Met l0 (sm_y k) (sm_wk k) ({ frames := d, cells := mc, slots := ms, locals := 41 * d }) (sm_Pc z E D ex μ as) (sm_Qc z E D mc μ Q) mc ms (z ≤ ·) := by
  have hmk := sm_mk_f hk
  refine Met.ofW (cc := sm_by k) (maxL := sm_ml k) (ret := sm_rt k) hmk.2.2.1 rfl ?_
  intro p e s m args below meth c s₁ B hml hv
  obtain ⟨rfl, hsz, hK, hEx, cA, hR⟩ := hv
  have hts := atoms_spec (ws := sm_wk k) B.pre
  have hl := sm_L_entry z E as (sm_ml k) has
  rw [lg_entry_eq]
  generalize (lg_sl (as.map (sm_v z E)) ++ List.replicate (sm_ml k - (lg_sl (as.map (sm_v z E))).length) Slot.unset).toArray = ls at hl ⊢
  refine hW z E D p l0 e _ s m _ below meth c _ s.heap [] 0 0 cA ls ⟨B.exec, B.bytes, hml, (name_of_methodNamed B.named B.method).1, findClass_of_methodNamed B.named, fun w h => hts w (List.mem_cons_of_mem _ h), Nat.le_refl _, Nat.le_refl _, by omega, hK, hEx, ?_⟩ ⟨hR, by show 0 + mc = mc; omega, by show 0 + ms ≤ ms; omega, by omega, va_S.rf⟩ hl
  intro r μ1 H locs cells slots cA1 bc bs pc ls hY hbc hQ hri
  have hlocks := B.notSynchronized
  obtain ⟨hR1, hcb, hsb, hn, hS⟩ := hY
  have hbc : bc = 0 := hbc.elim id (fun q => absurd q (Nat.ne_of_lt hk))
  subst hbc
  have hce : cells = mc := hcb
  have hsl : slots ≤ ms := by have : slots + bs ≤ ms := hsb; omega
  subst hce
  have hpost : ∀ t : State, t.heap = H → s.WarmedH t.vm → sm_Qc z E D cells μ Q (as.map (sm_v z E)).toArray s (.returned (r.map (sm_v z E))) t := fun t ht hw => ⟨⟨r, μ1, cA1, rfl, hQ, by omega, by rw [ht]; exact hR1.moved hw.alike⟩, hS.F ht⟩
  refine W.widen (k := cells) (n := ms) (Nat.le_refl _) hsl ?_
  rcases hri with ⟨x, ty, rfl, hd, hrt, hna⟩ | ⟨x, rfl, hd, hrt⟩ | ⟨x, n, rfl, hd, hrt⟩ | ⟨rfl, hd, hrt⟩
  · exact W.zret (v := x) B.exec B.bytes (B.returns.trans hrt) hna hpost hS.2.2 hd
  · exact W.lret (v := x) B.exec B.bytes (B.returns.trans hrt) hpost hS.2.2 hd
  · exact W.aret (v := .ref (z + x)) B.exec B.bytes (B.returns.trans hrt) (Or.inl ⟨_, rfl⟩) (Or.inr ⟨_, rfl⟩) hpost hS.2.2 hd
  · exact W.vret B.exec B.bytes (B.returns.trans hrt) hpost hS.2.2 hd
/-- behind a call -/
theorem sm_callK {z : Nat} {E : Nat → Nat} {D : va_G} {ex : sm_O} {d bc bs k pc : Nat} {l : List (Option Value)} {μ : sm_Mem} {Q : sm_Q} {p : Program} {l0 : Launch} {e : Env} {R : Room} {s : State} {m : MethodId} {args : Array Value} {below : List Frame} {meth : Method} {c : Code} {Q' : State → Prop} {H : Heap} {locs : List Loc} {cells slots : Nat} {cA : Nat → ClassId} {ls : Array Slot} {c1 s1 : Nat} {st0 : List Value} {rest : List Value} {P : sm_Q} {a0 : Array Value}
    (hF : sm_Fix z E D ex d k Q p l0 e R s m args below meth c Q') (hY : sm_Dyn z D R s μ H locs cells slots cA bc bs) (hL : sm_L z E ls (sm_ml k) l) (h1 : c1 ≤ bc) (h2 : s1 ≤ bs)
    (hr : va_Run p l0 e R s m args below meth c H locs cells slots c1 s1 (F0 m pc ls st0) (rest.map (sm_v z E)) (sm_Qc z E D c1 μ P a0) (z ≤ ·))
    (hk : ∀ (r : Option Value) (μ1 : sm_Mem), P r μ1 → sm_W ex d (bc - c1) (bs - s1) k (pc + 3) l (r.toList ++ rest) μ1 Q) : W p l0 e R s m args below meth c H locs cells slots Q' (F0 m pc ls st0) := by
  intro T hT X
  obtain ⟨v, st₀, t, T', L, h0, X', hL', e1, e2, ⟨⟨r, μ1, cA1, hv, hP, hn1, hR1⟩, hz', hk'⟩, st⟩ := hr T hT X
  cases hv
  rw [h0] at hz' hk'
  obtain ⟨hR, hcb, hsb, hn, hS⟩ := hY
  have hal : s.vm.Alike t.vm := by rw [← e2]; exact X'.warmed.alike
  have hY1 : sm_Dyn z D R s μ1 T'.heap (locs ++ L) (cells + c1) (slots + s1) cA1 (bc - c1) (bs - s1) := by
    refine ⟨by rw [e1]; exact hR1.moved hal.symm, by omega, by omega, by omega, Nat.le_trans hS.1 (by rw [e1]; exact hz'), fun q g1 g2 => by rw [e1, hk' q (Nat.lt_of_lt_of_le g1 hS.1) g2]; exact hS.2.1 q g1 g2, fun q hq => ?_⟩
    rcases List.mem_append.mp hq with h | h
    · exact hS.2.2 q h
    · exact hL' q h
  have hw := hk r μ1 hP z E D p l0 e R s m args below meth c Q' T'.heap (locs ++ L) (cells + c1) (slots + s1) cA1 ls hF hY1 hL
  obtain ⟨t2, a1, b1⟩ := hw T' rfl X'
  refine ⟨t2, st t2 ?_, b1⟩
  rw [List.map_append] at a1
  cases r <;> exact a1
theorem sm_pre_at {z : Nat} {E : Nat → Nat} {D : va_G} {ex : sm_O} {d bc bs k : Nat} {μ : sm_Mem} {Q : sm_Q} {p : Program} {l0 : Launch} {e : Env} {R : Room} {s : State} {m : MethodId} {args : Array Value} {below : List Frame} {meth : Method} {c : Code} {Q' : State → Prop} {H : Heap} {locs : List Loc} {cells slots : Nat} {cA : Nat → ClassId}
    (hF : sm_Fix z E D ex d k Q p l0 e R s m args below meth c Q') (hY : sm_Dyn z D R s μ H locs cells slots cA bc bs) (hH : H.size = z + μ.1) (as : List Value) : ∀ U : State, U.heap = H → s.WarmedH U.vm → sm_Pc z E D ex μ as (as.map (sm_v z E)).toArray U := by
  intro U hU hW
  obtain ⟨hR, hcb, hsb, hn, hS⟩ := hY
  obtain ⟨hx, hb, hml, hnm, hown, hts, hfr, hlo, hz, hK, hEx, hret⟩ := hF
  exact ⟨rfl, by rw [hU]; exact hH, va_K.moved hW.alike hK, hEx.warm hW (fun a h1 h2 => by rw [hU]; exact hS.2.1 a h1 h2), cA, by rw [hU]; exact hR.moved hW.alike⟩
end
section
theorem sm_nfw : nativeFrameWords "java/lang/System" "arraycopy" 5 ≤ 20 := by decide +kernel
theorem sm_cp_at (I : Nat → Nat → Int32) (o sp q dp n : Nat) : sm_cp I o sp q dp n q = va_cpy (I o) (I q) sp dp n := by
  funext j
  simp [sm_cp, va_cpy]
theorem sm_init_rt : ((List.range sm_klaw).all fun k => !(Nat.beq (sm_nth (0, 0, 0, 0, 0, 0) sm_mkl k).1 2) || decide (sm_rt k = none)) = true := by decide +kernel
theorem sm_wk_none {k : Nat} (h : k < sm_klaw) (hk : (sm_nth (0, 0, 0, 0, 0, 0) sm_mkl k).1 = 2) : sm_wk k = Cond.code (sm_y k) (sm_by k) (sm_ml k) none :: sm_all := by
  have q := List.all_eq_true.mp sm_init_rt k (List.mem_range.mpr h)
  rw [hk] at q
  have q : sm_rt k = none := by simpa using q
  unfold sm_wk
  rw [q]
theorem sm_oi_i : Cond.instanceMethod objectInit ∈ sm_all := sm_wd_all (pl := 26) (by decide +kernel) rfl
theorem sm_oi_c : Cond.code objectInit ⟨#[0xb1]⟩ 1 none ∈ sm_all := sm_wd_all (pl := 27) (by decide +kernel) rfl
theorem sm_mm_1 : Cond.static Lib.Math.min.name ∈ sm_all := sm_wd_all (pl := 510) (by decide +kernel) rfl
theorem sm_mm_2 : Cond.initialized "java/lang/Math" ∈ sm_all := sm_wd_all (pl := 14) (by decide +kernel) rfl
theorem sm_mm_3 : Cond.code Lib.Math.min.name Lib.Math.min.code 2 (some .int) ∈ sm_all := sm_wd_all (pl := 511) (by decide +kernel) rfl
theorem sm_mm_4 : Cond.static Lib.Math.max.name ∈ sm_all := sm_wd_all (pl := 501) (by decide +kernel) rfl
theorem sm_mm_5 : Cond.code Lib.Math.max.name Lib.Math.max.code 2 (some .int) ∈ sm_all := sm_wd_all (pl := 502) (by decide +kernel) rfl
theorem sm_ac_1 : Cond.native arraycopyName ∈ sm_all := sm_wd_all (pl := 705) (by decide +kernel) rfl
theorem sm_ac_2 : Cond.static arraycopyName ∈ sm_all := sm_wd_all (pl := 704) (by decide +kernel) rfl
theorem sm_ac_3 : Cond.initialized "java/lang/System" ∈ sm_all := sm_wd_all (pl := 19) (by decide +kernel) rfl
theorem sm_strlen {ex : sm_O} {d bc bs k pc : Nat} {l : List (Option Value)} {st : List Value} {μ : sm_Mem} {Q : sm_Q} {i n a b pl : Nat} {v : Value} (hc : (decide (n = 3) && sm_wd pl (.methodLink (sm_y k).cls i yJ0_length_8abf5)) = true) (hd : decode (sm_by k) pc = .ok (.invokevirtual i, n)) (h : sm_i ex (sm_W ex) d bc bs k pc l st μ Q (.invokevirtual i) a b 1 v) : sm_W ex d bc bs k pc l st μ Q := sorry
theorem sm_strchar {ex : sm_O} {d bc bs k pc : Nat} {l : List (Option Value)} {st : List Value} {μ : sm_Mem} {Q : sm_Q} {i n a b c0 pl : Nat} {v : Value} (hc : (decide (n = 3 ∧ c0 = 2) && sm_wd pl (.methodLink (sm_y k).cls i yJ0_charAt_5068e)) = true) (hd : decode (sm_by k) pc = .ok (.invokevirtual i, n)) (h : sm_i ex (sm_W ex) d bc bs k pc l st μ Q (.invokevirtual i) a b c0 v) : sm_W ex d bc bs k pc l st μ Q := sorry
theorem sm_ldcS {z : Nat} {E : Nat → Nat} {ex : sm_O} {p : Program} {l0 : Launch} {e : Env} {R : Room} {s : State} {m : MethodId} {args : Array Value} {below : List Frame} {meth : Method} {c : Code} {Q' : State → Prop} {H : Heap} {locs : List Loc} {cells slots : Nat} {ls : Array Slot} {cc : ByteArray} {pc i j pl : Nat} {rest : List Value} (hx : p.tables.exec = Jvm.exec) (hb : c.code = cc) (hown : s.vm.findClass "StatueRelief$Reader" = some m.cls) (hEx : sm_Ex z E ex s) (h2 : 2 ≤ j) (h11 : j < 11) (hw : sm_wd pl (.stringRef "StatueRelief$Reader" i (sm_nth "" sm_str (j - 2))) = true) (hd : decode cc pc = .ok (.ldc i, 2))
    (k : W p l0 e R s m args below meth c H locs cells slots Q' (F0 m (pc + 2) ls (.ref (E j) :: rest))) : W p l0 e R s m args below meth c H locs cells slots Q' (F0 m pc ls rest) := sorry
set_option maxHeartbeats 1000000 in
theorem sm_in_invokespecial {ex : sm_O} {d bc bs k pc : Nat} {l : List (Option Value)} {st : List Value} {μ : sm_Mem} {Q : sm_Q} {i : Nat} {n a b c0 pl : Nat} {v : Value} (hc : sm_ck k pc (.invokespecial i, n, a, b, c0, pl, v) = true) (h : sm_i ex (sm_W ex) d bc bs k pc l st μ Q (.invokespecial i) a b c0 v) : sm_W ex d bc bs k pc l st μ Q := by
  intro z E D p l0 e R s m args below meth c Q' H locs cells slots cA ls hF hY hL
  have hF0 := hF
  obtain ⟨hx, hb, hml, hnm, hown, hts, hfr, hlo, hz, hK, hEx, hret⟩ := hF0
  have hY0 := hY
  obtain ⟨⟨hA, hP, hyn, hz0⟩, hcb, hsb, hn, hS⟩ := hY0
  have hD := sm_ws_D z cA μ
  simp only [sm_ck, Bool.and_eq_true, decide_eq_true_eq] at hc
  obtain ⟨hd, hc⟩ := hc
  split at hc
  · simp only [Bool.and_eq_true, decide_eq_true_eq] at hc
    obtain ⟨⟨rfl, hak, rfl, hkd, hnb⟩, hw⟩ := hc
    obtain ⟨o, t, hst, hh⟩ := sm_pr_e h
    obtain ⟨w, t0, hw0, hh⟩ := sm_pr_e hh
    cases hw0
    obtain ⟨d1, c1, s1, P, hd1, hc1, hs1, hr8, has, hX, hkk⟩ := hh
    have hmk := sm_mk_f hak
    have hlen : (st.take b).length = b := by
      rw [List.length_take]
      have : b < st.length := by
        rcases Nat.lt_or_ge b st.length with q | q
        · exact q
        · rw [List.drop_eq_nil_of_le q] at hst; cases hst
      omega
    have hstk : st.map (sm_v z E) = (((st.take b).reverse.map (sm_v z E))).reverse ++ .ref (z + o) :: t.map (sm_v z E) := by
      conv => lhs; rw [← List.take_append_drop b st, hst]
      simp [sm_v]
    refine sm_size hz hY fun hH => ?_
    have hM := sm_met hak has hX l0 z E D
    have hrm : d1 + 1 ≤ R.frames ∧ 8 + (sm_ml a + 11) + 41 * d1 ≤ R.locals := ⟨by omega, by have := hmk.2.2.2.1; omega⟩
    split at hw
    · refine sm_callK hF hY hL hc1 hs1 (va_runIN (As := (st.take b).reverse.map (sm_v z E)) (b := z + o) ⟨hx, hb, hml, hown, hts⟩ hM ⟨va_cnB b hts (sm_goodIn fun w hw => by rcases List.mem_cons.mp hw with rfl | hw; exact hmk.1; exact hw) (sm_wk_none hak hkd) rfl rfl (hEx.1 _ (List.mem_filter.mpr ⟨sm_wd_tb hw, rfl⟩)) (hts _ hmk.2.1) (hnb ▸ hmk.2.2.2.2.1) hrm, (hmk.2.2.2.2.2.2.2 hkd).2, hts _ (hmk.2.2.2.2.2.2.2 hkd).1⟩ ⟨sm_blind, sm_pre_at hF hY hH (.ref o :: (st.take b).reverse)⟩ rfl (by rw [List.length_map, List.length_reverse]; exact hlen) hL.2.1 hstk (lv_room (by rw [sm_ct_sum, sm_ct_map]; exact hr8)) hd ⟨by omega, by omega⟩) hkk
    · refine sm_callK hF hY hL hc1 hs1 (va_runI (As := (st.take b).reverse.map (sm_v z E)) (b := z + o) ⟨hx, hb, hml, hown, hts⟩ hM (cwI b hts (sm_goodIn fun w hw => by rcases List.mem_cons.mp hw with rfl | hw; exact hmk.1; exact hw) (sm_wk_none hak hkd) rfl rfl (hts _ hmk.2.1) (hts _ (sm_wd_all hw rfl)) (hts _ (hmk.2.2.2.2.2.2.2 hkd).1) (hmk.2.2.2.2.2.2.2 hkd).2 (hnb ▸ hmk.2.2.2.2.1) hrm) ⟨sm_blind, sm_pre_at hF hY hH (.ref o :: (st.take b).reverse)⟩ rfl (by rw [List.length_map, List.length_reverse]; exact hlen) hL.2.1 hstk (lv_room (by rw [sm_ct_sum, sm_ct_map]; exact hr8)) hd ⟨by omega, by omega⟩) hkk
  · simp only [Bool.and_eq_true, decide_eq_true_eq] at hc
    obtain ⟨⟨rfl, rfl⟩, hw⟩ := hc
    obtain ⟨o, t, rfl, h1, h8, hh⟩ := sm_pr_e h
    refine W.objInit hx hb hown (hts _ (sm_wd_all hw rfl)) (hts _ sm_oi_i) (hts _ sm_oi_c) rfl (by rw [hml]; exact hL.2.1) rfl hd (by omega) (by rw [sm_ct_sum, sm_ct_map]; show 2 * 0 + _ + 12 ≤ _; omega) ?_
    exact hh z E D p l0 e R s m args below meth c Q' H locs cells slots cA ls hF hY hL
set_option maxHeartbeats 1000000 in
theorem sm_in_invokevirtual {ex : sm_O} {d bc bs k pc : Nat} {l : List (Option Value)} {st : List Value} {μ : sm_Mem} {Q : sm_Q} {i : Nat} {n a b c0 pl : Nat} {v : Value} (hc : sm_ck k pc (.invokevirtual i, n, a, b, c0, pl, v) = true) (h : sm_i ex (sm_W ex) d bc bs k pc l st μ Q (.invokevirtual i) a b c0 v) : sm_W ex d bc bs k pc l st μ Q := by
  intro z E D p l0 e R s m args below meth c Q' H locs cells slots cA ls hF hY hL
  have hF0 := hF
  obtain ⟨hx, hb, hml, hnm, hown, hts, hfr, hlo, hz, hK, hEx, hret⟩ := hF0
  have hY0 := hY
  obtain ⟨⟨hA, hP, hyn, hz0⟩, hcb, hsb, hn, hS⟩ := hY0
  have hD := sm_ws_D z cA μ
  simp only [sm_ck, Bool.and_eq_true, decide_eq_true_eq] at hc
  obtain ⟨hd, hc⟩ := hc
  split at hc
  · simp only [Bool.and_eq_true, decide_eq_true_eq] at hc
    obtain ⟨⟨rfl, hak, rfl, hkd, hnb⟩, hw⟩ := hc
    obtain ⟨o, t, hst, q, hy, hcn, hh⟩ := sm_pr_e h
    obtain ⟨w, t0, hw0, hh⟩ := sm_pr_e hh
    cases hw0
    obtain ⟨d1, c1, s1, P, hd1, hc1, hs1, hr8, has, hX, hkk⟩ := hh
    have hmk := sm_mk_f hak
    have ho : o < μ.1 := (hyn o).mp (by rw [hy]; simp)
    have hcell := sm_ws_get (z := z) (cA := cA) ho
    rw [hy] at hcell
    obtain ⟨r, hr, -⟩ := hP o _ hcell
    obtain ⟨hq12, rfl⟩ := sm_cls_of hr
    have hlen : (st.take b).length = b := by
      rw [List.length_take]
      have : b < st.length := by
        rcases Nat.lt_or_ge b st.length with q | q
        · exact q
        · rw [List.drop_eq_nil_of_le q] at hst; cases hst
      omega
    have hstk : st.map (sm_v z E) = (((st.take b).reverse.map (sm_v z E))).reverse ++ .ref (z + o) :: t.map (sm_v z E) := by
      conv => lhs; rw [← List.take_append_drop b st, hst]
      simp [sm_v]
    refine sm_size hz hY fun hH => ?_
    have hM := sm_met hak has hX l0 z E D
    have hrm : d1 + 1 ≤ R.frames ∧ 8 + (sm_ml a + 11) + 41 * d1 ≤ R.locals := ⟨by omega, by have := hmk.2.2.2.1; omega⟩
    have hsel := hmk.2.2.2.2.2.1 hkd
    refine sm_callK hF hY hL hc1 hs1 (va_runV (As := (st.take b).reverse.map (sm_v z E)) (b := z + o) (C := (sm_y a).cls) ⟨hx, hb, hml, hown, hts⟩ hM (cwV b hts (sm_goodIn fun w hw1 => by
      unfold wsV at hw1
      rcases List.mem_append.mp hw1 with hw1 | hw1
      · simp only [List.mem_cons, List.not_mem_nil, or_false] at hw1
        rcases hw1 with rfl | rfl | rfl | rfl
        · exact sm_wd_all hw rfl
        · exact hsel.1
        · exact hsel.2
        · exact hmk.2.1
      · rcases List.mem_cons.mp hw1 with rfl | hw1
        · exact hmk.1
        · exact hw1) rfl rfl rfl ⟨rfl, hnb ▸ hmk.2.2.2.2.1⟩ hrm) ⟨sm_blind, by rw [← hcn]; exact va_recv hK hP hr hcell, sm_pre_at hF hY hH (.ref o :: (st.take b).reverse)⟩ rfl (by rw [List.length_map, List.length_reverse]; exact hlen) hL.2.1 hstk (lv_room (by rw [sm_ct_sum, sm_ct_map]; exact hr8)) hd ⟨by omega, by omega⟩) hkk
  · exact sm_strlen hc hd h z E D p l0 e R s m args below meth c Q' H locs cells slots cA ls hF hY hL
  · exact sm_strchar hc hd h z E D p l0 e R s m args below meth c Q' H locs cells slots cA ls hF hY hL
set_option maxHeartbeats 1000000 in
theorem sm_in_invokestatic {ex : sm_O} {d bc bs k pc : Nat} {l : List (Option Value)} {st : List Value} {μ : sm_Mem} {Q : sm_Q} {i : Nat} {n a b c0 pl : Nat} {v : Value} (hc : sm_ck k pc (.invokestatic i, n, a, b, c0, pl, v) = true) (h : sm_i ex (sm_W ex) d bc bs k pc l st μ Q (.invokestatic i) a b c0 v) : sm_W ex d bc bs k pc l st μ Q := by
  intro z E D p l0 e R s m args below meth c Q' H locs cells slots cA ls hF hY hL
  have hF0 := hF
  obtain ⟨hx, hb, hml, hnm, hown, hts, hfr, hlo, hz, hK, hEx, hret⟩ := hF0
  have hY0 := hY
  obtain ⟨⟨hA, hP, hyn, hz0⟩, hcb, hsb, hn, hS⟩ := hY0
  have hD := sm_ws_D z cA μ
  simp only [sm_ck, Bool.and_eq_true, decide_eq_true_eq] at hc
  obtain ⟨hd, hc⟩ := hc
  split at hc
  · simp only [Bool.and_eq_true, decide_eq_true_eq] at hc
    obtain ⟨⟨rfl, hak, rfl, hkd, hnb⟩, hw⟩ := hc
    obtain ⟨hbl, hh⟩ := h
    obtain ⟨w, t0, hw0, hh⟩ := sm_pr_e hh
    cases hw0
    obtain ⟨d1, c1, s1, P, hd1, hc1, hs1, hr8, has, hX, hkk⟩ := hh
    have hmk := sm_mk_f hak
    have hlen : (st.take b).length = b := by rw [List.length_take]; omega
    have hstk : st.map (sm_v z E) = (((st.take b).reverse.map (sm_v z E))).reverse ++ (st.drop b).map (sm_v z E) := by
      conv => lhs; rw [← List.take_append_drop b st]
      simp
    refine sm_size hz hY fun hH => ?_
    have hM := sm_met hak has hX l0 z E D
    have hrm : d1 + 1 ≤ R.frames ∧ 8 + (sm_ml a + 11) + 41 * d1 ≤ R.locals := ⟨by omega, by have := hmk.2.2.2.1; omega⟩
    refine sm_callK hF hY hL hc1 hs1 (va_runS (As := (st.take b).reverse.map (sm_v z E)) ⟨hx, hb, hml, hown, hts⟩ hM (va_cwS b hts (sm_goodIn fun w hw1 => by
      unfold va_wsS at hw1
      rcases List.mem_append.mp hw1 with hw1 | hw1
      · simp only [List.mem_cons, List.not_mem_nil, or_false] at hw1
        rcases hw1 with rfl | rfl | rfl
        · exact sm_wd_all hw rfl
        · exact hmk.2.2.2.2.2.2.1 hkd
        · exact hmk.2.1
      · rcases List.mem_cons.mp hw1 with rfl | hw1
        · exact hmk.1
        · exact hw1) rfl rfl rfl (hnb ▸ hmk.2.2.2.2.1) hrm) ⟨sm_blind, sm_pre_at hF hY hH (st.take b).reverse⟩ rfl (by rw [List.length_map, List.length_reverse]; exact hlen) hL.2.1 hstk (lv_room (by rw [sm_ct_sum, sm_ct_map]; exact hr8)) hd ⟨by omega, by omega⟩) hkk
  · simp only [Bool.and_eq_true, decide_eq_true_eq] at hc
    obtain ⟨rfl, hw⟩ := hc
    obtain ⟨x, y, t, rfl, h1, h8, hh⟩ := sm_p2_e h
    refine va_mmin hx hb (by rw [hml]; exact hL.2.1.symm) hown (hts _ (sm_wd_all hw rfl)) (hts _ sm_mm_1) (hts _ sm_mm_2) (hts _ sm_mm_3) (by omega) (by rw [sm_ct_sum, sm_ct_map]; omega) (by omega) (by omega) hd ?_
    exact hh z E D p l0 e R s m args below meth c Q' H locs cells slots cA ls hF hY hL
  · simp only [Bool.and_eq_true, decide_eq_true_eq] at hc
    obtain ⟨rfl, hw⟩ := hc
    obtain ⟨x, y, t, rfl, h1, h8, hh⟩ := sm_p2_e h
    refine va_mmax hx hb (by rw [hml]; exact hL.2.1.symm) hown (hts _ (sm_wd_all hw rfl)) (hts _ sm_mm_4) (hts _ sm_mm_2) (hts _ sm_mm_5) (by omega) (by rw [sm_ct_sum, sm_ct_map]; omega) (by omega) (by omega) hd ?_
    exact hh z E D p l0 e R s m args below meth c Q' H locs cells slots cA ls hF hY hL
  · simp only [Bool.and_eq_true, decide_eq_true_eq] at hc
    obtain ⟨⟨rfl, rfl⟩, hw⟩ := hc
    obtain ⟨dp, n, t1, rfl, k1⟩ := sm_p2_e h
    obtain ⟨q, t2, rfl, k2⟩ := sm_pr_e k1
    obtain ⟨sp, t3, rfl, k3⟩ := sm_p1_e k2
    obtain ⟨o, t, rfl, h1, h8, n0, n1, hy0, hy1, g1, g2, g3, g4, g5, hh⟩ := sm_pr_e k3
    have ho : o < μ.1 := (hyn o).mp (by rw [hy0]; simp)
    have hq : q < μ.1 := (hyn q).mp (by rw [hy1]; simp)
    have hcell := sm_ws_get (z := z) (cA := cA) ho
    rw [hy0] at hcell
    have hcell1 := sm_ws_get (z := z) (cA := cA) hq
    rw [hy1] at hcell1
    have hK2 : va_K D vwCl [(cA o, .int), (cA q, .int)] s := ⟨hK.1, fun k r hr => by
      match k, hr with
      | 0, hr => cases hr; exact hA o _ _ hy0
      | 1, hr => cases hr; exact hA q _ _ hy1⟩
    refine va_copyi hx hb (by rw [hml]; exact hL.2.1.symm) hown (hts _ (sm_wd_all hw rfl)) (hts _ sm_ac_1) (hts _ sm_ac_2) (hts _ sm_ac_3) hK2 hP hD hS o q 0 1 (ty := .int) hcell hcell1 rfl rfl rfl g1 g2 g3 g4 g5 (fun _ _ => rfl) (by omega) (by rw [sm_ct_sum, sm_ct_map]; exact Nat.le_trans (Nat.add_le_add h8 (Nat.add_le_add_right sm_nfw 11)) (by omega)) hd (fun H1 locs1 hP1 hD1 hS1 => ?_)
    refine hh z E D p l0 e R s m args below meth c Q' H1 locs1 cells slots cA ls hF (hY.set hq (P := fun j => dp.toNatClampNeg ≤ j ∧ j < dp.toNatClampNeg + n.toNatClampNeg) ⟨rfl, rfl, fun k j hj => ⟨?_, rfl, rfl⟩⟩ (by rw [hy1]; show va_P _ _ (List.set _ _ (_, .inl (_, _, .inl (sm_cp μ.2.2.1 o sp.toNatClampNeg q dp.toNatClampNeg n.toNatClampNeg q)))) _; rw [sm_cp_at]; exact hP1) hS1) hL
    show sm_cp _ _ _ _ _ _ _ _ = _
    unfold sm_cp
    rw [if_neg]
    intro hc
    rcases hj with hj | hj
    · exact hj hc.1
    · exact hj hc.2
end
section
set_option maxHeartbeats 4000000 in
theorem sm_in1 {ex : sm_O} {d bc bs k pc : Nat} {l : List (Option Value)} {st : List Value} {μ : sm_Mem} {Q : sm_Q} {ins : Instr} {n a b c0 pl : Nat} {v : Value} (hc : sm_ck k pc (ins, n, a, b, c0, pl, v) = true) (h : sm_i ex (sm_W ex) d bc bs k pc l st μ Q ins a b c0 v) : sm_W ex d bc bs k pc l st μ Q := by
  intro z E D p l0 e R s m args below meth c Q' H locs cells slots cA ls hF hY hL
  have hF0 := hF
  obtain ⟨hx, hb, hml, hnm, hown, hts, hfr, hlo, hz, hK, hEx, hret⟩ := hF0
  cases ins
  case iconst i =>
    simp only [sm_ck, Bool.and_eq_true, decide_eq_true_eq] at hc
    obtain ⟨hd, rfl, rfl⟩ := hc
    exact lv_iconst hx hb hd rfl (h z E D p l0 e R s m args below meth c Q' H locs cells slots cA ls hF hY hL)
  case lconst i =>
    simp only [sm_ck, Bool.and_eq_true, decide_eq_true_eq] at hc
    obtain ⟨hd, rfl, rfl⟩ := hc
    exact lv_lconst hx hb hd rfl (h z E D p l0 e R s m args below meth c Q' H locs cells slots cA ls hF hY hL)
  case bipush i =>
    simp only [sm_ck, Bool.and_eq_true, decide_eq_true_eq] at hc
    obtain ⟨hd, rfl, rfl⟩ := hc
    exact lv_bipush hx hb hd rfl (h z E D p l0 e R s m args below meth c Q' H locs cells slots cA ls hF hY hL)
  case sipush i =>
    simp only [sm_ck, Bool.and_eq_true, decide_eq_true_eq] at hc
    obtain ⟨hd, rfl, rfl⟩ := hc
    exact lv_sipush hx hb hd rfl (h z E D p l0 e R s m args below meth c Q' H locs cells slots cA ls hF hY hL)
  case ldc i =>
    simp only [sm_ck, Bool.and_eq_true, decide_eq_true_eq] at hc
    obtain ⟨hd, hc⟩ := hc
    split at hc
    · split at hc
      · rename_i x
        simp only [Bool.and_eq_true, decide_eq_true_eq] at hc
        obtain ⟨rfl, hw⟩ := hc
        exact lv_ldc hx hb hown (hts _ (sm_wd_all hw rfl)) hd (h z E D p l0 e R s m args below meth c Q' H locs cells slots cA ls hF hY hL)
      · cases hc
    · split at hc
      · rename_i j
        simp only [decide_eq_true_eq] at hc
        obtain ⟨rfl, h2, h11, hw, hcl⟩ := hc
        rw [hcl] at hown
        exact sm_ldcS hx hb hown hEx h2 h11 (hcl ▸ hw) hd (h z E D p l0 e R s m args below meth c Q' H locs cells slots cA ls hF hY hL)
      · cases hc
  case ldc_w i =>
    simp only [sm_ck, Bool.and_eq_true, decide_eq_true_eq] at hc
    obtain ⟨hd, hc⟩ := hc
    split at hc
    · rename_i x
      simp only [Bool.and_eq_true, decide_eq_true_eq] at hc
      obtain ⟨rfl, hw⟩ := hc
      exact lv_ldcw hx hb hown (hts _ (sm_wd_all hw rfl)) hd (h z E D p l0 e R s m args below meth c Q' H locs cells slots cA ls hF hY hL)
    · cases hc
  case ldc2_w i =>
    simp only [sm_ck, Bool.and_eq_true, decide_eq_true_eq] at hc
    obtain ⟨hd, hc⟩ := hc
    split at hc
    · rename_i x
      simp only [Bool.and_eq_true, decide_eq_true_eq] at hc
      obtain ⟨rfl, hw⟩ := hc
      exact lv_ldc2 hx hb hown (hts _ (sm_wd_all hw rfl)) hd (h z E D p l0 e R s m args below meth c Q' H locs cells slots cA ls hF hY hL)
    · cases hc
  case iload i =>
    simp only [sm_ck, Bool.and_eq_true, decide_eq_true_eq] at hc
    obtain ⟨hd, rfl⟩ := hc
    obtain ⟨x, hi, h⟩ := sm_li_e h
    exact lv_iload hx hb hd (hL.2.2.2 i _ hi) (h z E D p l0 e R s m args below meth c Q' H locs cells slots cA ls hF hY hL)
  case iload_n i =>
    simp only [sm_ck, Bool.and_eq_true, decide_eq_true_eq] at hc
    obtain ⟨hd, rfl⟩ := hc
    obtain ⟨x, hi, h⟩ := sm_li_e h
    exact lv_iload_n hx hb hd rfl (hL.2.2.2 i.val _ hi) (h z E D p l0 e R s m args below meth c Q' H locs cells slots cA ls hF hY hL)
  case lload i =>
    simp only [sm_ck, Bool.and_eq_true, decide_eq_true_eq] at hc
    obtain ⟨hd, rfl⟩ := hc
    obtain ⟨x, hi, h⟩ := sm_ll_e h
    exact lv_lload hx hb hd (hL.2.2.2 i _ hi) (h z E D p l0 e R s m args below meth c Q' H locs cells slots cA ls hF hY hL)
  case lload_n i =>
    simp only [sm_ck, Bool.and_eq_true, decide_eq_true_eq] at hc
    obtain ⟨hd, rfl⟩ := hc
    obtain ⟨x, hi, h⟩ := sm_ll_e h
    exact lv_lload_n hx hb hd rfl (hL.2.2.2 i.val _ hi) (h z E D p l0 e R s m args below meth c Q' H locs cells slots cA ls hF hY hL)
  case aload i =>
    simp only [sm_ck, Bool.and_eq_true, decide_eq_true_eq] at hc
    obtain ⟨hd, rfl⟩ := hc
    have h9 : sm_la l i (fun x => sm_W ex d bc bs k (pc + 2) l (x :: st) μ Q) := h
    rcases sm_la_e h9 with ⟨x, hi, h⟩ | ⟨x, hi, h⟩
    · exact lv_aload hx hb hd (hL.2.2.2 i _ hi) (h z E D p l0 e R s m args below meth c Q' H locs cells slots cA ls hF hY hL)
    · exact lv_aload hx hb hd (hL.2.2.2 i _ hi) (h z E D p l0 e R s m args below meth c Q' H locs cells slots cA ls hF hY hL)
  case aload_n i =>
    simp only [sm_ck, Bool.and_eq_true, decide_eq_true_eq] at hc
    obtain ⟨hd, rfl⟩ := hc
    have h9 : sm_la l i.val (fun x => sm_W ex d bc bs k (pc + 1) l (x :: st) μ Q) := h
    rcases sm_la_e h9 with ⟨x, hi, h⟩ | ⟨x, hi, h⟩
    · exact lv_aload_n hx hb hd rfl (hL.2.2.2 i.val _ hi) (h z E D p l0 e R s m args below meth c Q' H locs cells slots cA ls hF hY hL)
    · exact lv_aload_n hx hb hd rfl (hL.2.2.2 i.val _ hi) (h z E D p l0 e R s m args below meth c Q' H locs cells slots cA ls hF hY hL)
  case istore i =>
    simp only [sm_ck, Bool.and_eq_true, decide_eq_true_eq] at hc
    obtain ⟨hd, rfl⟩ := hc
    obtain ⟨x, t, rfl, hi, h⟩ := sm_p1_e h
    exact lv_istore hx hb hd hL.has (by rw [← hL.1]; exact hi) rfl (fun ls' hl' => (h z E D p l0 e R s m args below meth c Q' H locs cells slots cA ls' hF hY (sm_L.st1 (v := .int x) hL hi hl')))
  case istore_n i =>
    simp only [sm_ck, Bool.and_eq_true, decide_eq_true_eq] at hc
    obtain ⟨hd, rfl⟩ := hc
    obtain ⟨x, t, rfl, hi, h⟩ := sm_p1_e h
    exact lv_istore_n hx hb hd rfl hL.has (by rw [← hL.1]; exact hi) rfl (fun ls' hl' => (h z E D p l0 e R s m args below meth c Q' H locs cells slots cA ls' hF hY (sm_L.st1 (v := .int x) hL hi hl')))
  case lstore i =>
    simp only [sm_ck, Bool.and_eq_true, decide_eq_true_eq] at hc
    obtain ⟨hd, rfl⟩ := hc
    obtain ⟨x, t, rfl, hi, h⟩ := sm_q1_e h
    exact lv_lstore hx hb hd hL.has (by rw [← hL.1]; exact hi) rfl (fun ls' hl' => (h z E D p l0 e R s m args below meth c Q' H locs cells slots cA ls' hF hY (sm_L.st2 (v := .long x) hL hi hl')))
  case lstore_n i =>
    simp only [sm_ck, Bool.and_eq_true, decide_eq_true_eq] at hc
    obtain ⟨hd, rfl⟩ := hc
    obtain ⟨x, t, rfl, hi, h⟩ := sm_q1_e h
    exact lv_lstore_n hx hb hd rfl hL.has (by rw [← hL.1]; exact hi) rfl (fun ls' hl' => (h z E D p l0 e R s m args below meth c Q' H locs cells slots cA ls' hF hY (sm_L.st2 (v := .long x) hL hi hl')))
  case astore i =>
    simp only [sm_ck, Bool.and_eq_true, decide_eq_true_eq] at hc
    obtain ⟨hd, rfl⟩ := hc
    obtain ⟨x, t, rfl, hi, h⟩ := sm_pr_e h
    exact lv_astore hx hb hd hL.has (by rw [← hL.1]; exact hi) rfl (fun ls' hl' => (h z E D p l0 e R s m args below meth c Q' H locs cells slots cA ls' hF hY (sm_L.st1 (v := .ref x) hL hi hl')))
  case astore_n i =>
    simp only [sm_ck, Bool.and_eq_true, decide_eq_true_eq] at hc
    obtain ⟨hd, rfl⟩ := hc
    obtain ⟨x, t, rfl, hi, h⟩ := sm_pr_e h
    exact lv_astore_n hx hb hd rfl hL.has (by rw [← hL.1]; exact hi) rfl (fun ls' hl' => (h z E D p l0 e R s m args below meth c Q' H locs cells slots cA ls' hF hY (sm_L.st1 (v := .ref x) hL hi hl')))
  case iinc i w0 =>
    simp only [sm_ck, Bool.and_eq_true, decide_eq_true_eq] at hc
    obtain ⟨hd, rfl, rfl⟩ := hc
    have h9 : sm_li l i fun x => i < l.length ∧ sm_W ex d bc bs k (pc + 3) (sm_se l i (some (.int (x + Int32.ofInt w0)))) st μ Q := h
    obtain ⟨x, hx1, hi, h⟩ := sm_li_e h9
    obtain ⟨q, hq⟩ := List.getElem?_of_mem (sm_lv_mem (z := z) (E := E) hx1)
    exact lv_iinc hx hb hd hL.has hq rfl (by rw [← hL.1]; exact hi) rfl (fun ls' hl' => (h z E D p l0 e R s m args below meth c Q' H locs cells slots cA ls' hF hY (sm_L.st1 (v := .int (x + Int32.ofInt w0)) hL hi hl')))
  case iadd =>
    simp only [sm_ck, Bool.and_eq_true, decide_eq_true_eq] at hc
    obtain ⟨hd, rfl⟩ := hc
    obtain ⟨x, y, t, rfl, h⟩ := sm_p2_e h
    exact lv_iadd hx hb hd (h z E D p l0 e R s m args below meth c Q' H locs cells slots cA ls hF hY hL)
  case isub =>
    simp only [sm_ck, Bool.and_eq_true, decide_eq_true_eq] at hc
    obtain ⟨hd, rfl⟩ := hc
    obtain ⟨x, y, t, rfl, h⟩ := sm_p2_e h
    exact lv_isub hx hb hd (h z E D p l0 e R s m args below meth c Q' H locs cells slots cA ls hF hY hL)
  case imul =>
    simp only [sm_ck, Bool.and_eq_true, decide_eq_true_eq] at hc
    obtain ⟨hd, rfl⟩ := hc
    obtain ⟨x, y, t, rfl, h⟩ := sm_p2_e h
    exact lv_imul hx hb hd (h z E D p l0 e R s m args below meth c Q' H locs cells slots cA ls hF hY hL)
  case iand =>
    simp only [sm_ck, Bool.and_eq_true, decide_eq_true_eq] at hc
    obtain ⟨hd, rfl⟩ := hc
    obtain ⟨x, y, t, rfl, h⟩ := sm_p2_e h
    exact lv_iand hx hb hd (h z E D p l0 e R s m args below meth c Q' H locs cells slots cA ls hF hY hL)
  case ior =>
    simp only [sm_ck, Bool.and_eq_true, decide_eq_true_eq] at hc
    obtain ⟨hd, rfl⟩ := hc
    obtain ⟨x, y, t, rfl, h⟩ := sm_p2_e h
    exact lv_ior hx hb hd (h z E D p l0 e R s m args below meth c Q' H locs cells slots cA ls hF hY hL)
  case ixor =>
    simp only [sm_ck, Bool.and_eq_true, decide_eq_true_eq] at hc
    obtain ⟨hd, rfl⟩ := hc
    obtain ⟨x, y, t, rfl, h⟩ := sm_p2_e h
    exact lv_ixor hx hb hd (h z E D p l0 e R s m args below meth c Q' H locs cells slots cA ls hF hY hL)
  case ishl =>
    simp only [sm_ck, Bool.and_eq_true, decide_eq_true_eq] at hc
    obtain ⟨hd, rfl⟩ := hc
    obtain ⟨x, y, t, rfl, h⟩ := sm_p2_e h
    exact lv_ishl hx hb hd (h z E D p l0 e R s m args below meth c Q' H locs cells slots cA ls hF hY hL)
  case ishr =>
    simp only [sm_ck, Bool.and_eq_true, decide_eq_true_eq] at hc
    obtain ⟨hd, rfl⟩ := hc
    obtain ⟨x, y, t, rfl, h⟩ := sm_p2_e h
    exact lv_ishr hx hb hd (h z E D p l0 e R s m args below meth c Q' H locs cells slots cA ls hF hY hL)
  case iushr =>
    simp only [sm_ck, Bool.and_eq_true, decide_eq_true_eq] at hc
    obtain ⟨hd, rfl⟩ := hc
    obtain ⟨x, y, t, rfl, h⟩ := sm_p2_e h
    exact lv_iushr hx hb hd rfl (h z E D p l0 e R s m args below meth c Q' H locs cells slots cA ls hF hY hL)
  case ineg =>
    simp only [sm_ck, Bool.and_eq_true, decide_eq_true_eq] at hc
    obtain ⟨hd, rfl⟩ := hc
    obtain ⟨x, t, rfl, h⟩ := sm_p1_e h
    exact lv_ineg hx hb hd (h z E D p l0 e R s m args below meth c Q' H locs cells slots cA ls hF hY hL)
  case irem =>
    simp only [sm_ck, Bool.and_eq_true, decide_eq_true_eq] at hc
    obtain ⟨hd, rfl⟩ := hc
    obtain ⟨x, y, t, rfl, h0, h⟩ := sm_p2_e h
    exact lv_irem hx hb hd h0 (h z E D p l0 e R s m args below meth c Q' H locs cells slots cA ls hF hY hL)
  case ladd =>
    simp only [sm_ck, Bool.and_eq_true, decide_eq_true_eq] at hc
    obtain ⟨hd, rfl⟩ := hc
    obtain ⟨x, y, t, rfl, h⟩ := sm_q2_e h
    exact lv_ladd hx hb hd (h z E D p l0 e R s m args below meth c Q' H locs cells slots cA ls hF hY hL)
  case lsub =>
    simp only [sm_ck, Bool.and_eq_true, decide_eq_true_eq] at hc
    obtain ⟨hd, rfl⟩ := hc
    obtain ⟨x, y, t, rfl, h⟩ := sm_q2_e h
    exact lv_lsub hx hb hd (h z E D p l0 e R s m args below meth c Q' H locs cells slots cA ls hF hY hL)
  case lmul =>
    simp only [sm_ck, Bool.and_eq_true, decide_eq_true_eq] at hc
    obtain ⟨hd, rfl⟩ := hc
    obtain ⟨x, y, t, rfl, h⟩ := sm_q2_e h
    exact lv_lmul hx hb hd (h z E D p l0 e R s m args below meth c Q' H locs cells slots cA ls hF hY hL)
  case ldiv =>
    simp only [sm_ck, Bool.and_eq_true, decide_eq_true_eq] at hc
    obtain ⟨hd, rfl⟩ := hc
    obtain ⟨x, y, t, rfl, h0, h⟩ := sm_q2_e h
    exact lv_ldiv hx hb hd h0 (h z E D p l0 e R s m args below meth c Q' H locs cells slots cA ls hF hY hL)
  case lrem =>
    simp only [sm_ck, Bool.and_eq_true, decide_eq_true_eq] at hc
    obtain ⟨hd, rfl⟩ := hc
    obtain ⟨x, y, t, rfl, h0, h⟩ := sm_q2_e h
    exact lv_lrem hx hb hd h0 (h z E D p l0 e R s m args below meth c Q' H locs cells slots cA ls hF hY hL)
  case lcmp =>
    simp only [sm_ck, Bool.and_eq_true, decide_eq_true_eq] at hc
    obtain ⟨hd, rfl⟩ := hc
    obtain ⟨x, y, t, rfl, h⟩ := sm_q2_e h
    exact W.lcmp hx hb hd (h z E D p l0 e R s m args below meth c Q' H locs cells slots cA ls hF hY hL)
  case i2l =>
    simp only [sm_ck, Bool.and_eq_true, decide_eq_true_eq] at hc
    obtain ⟨hd, rfl⟩ := hc
    obtain ⟨x, t, rfl, h⟩ := sm_p1_e h
    exact lv_i2l hx hb hd rfl (h z E D p l0 e R s m args below meth c Q' H locs cells slots cA ls hF hY hL)
  case l2i =>
    simp only [sm_ck, Bool.and_eq_true, decide_eq_true_eq] at hc
    obtain ⟨hd, rfl⟩ := hc
    obtain ⟨x, t, rfl, h⟩ := sm_q1_e h
    exact lv_l2i hx hb hd rfl (h z E D p l0 e R s m args below meth c Q' H locs cells slots cA ls hF hY hL)
  case dup =>
    simp only [sm_ck, Bool.and_eq_true, decide_eq_true_eq] at hc
    obtain ⟨hd, rfl⟩ := hc
    obtain ⟨x, t, rfl, h1, h⟩ := sm_ph_e h
    exact lv_dup hx hb hd ((sm_v_cat z E x).trans h1) (h z E D p l0 e R s m args below meth c Q' H locs cells slots cA ls hF hY hL)
  case pop =>
    simp only [sm_ck, Bool.and_eq_true, decide_eq_true_eq] at hc
    obtain ⟨hd, rfl⟩ := hc
    obtain ⟨x, t, rfl, h1, h⟩ := sm_ph_e h
    exact lv_pop hx hb hd ((sm_v_cat z E x).trans h1) (h z E D p l0 e R s m args below meth c Q' H locs cells slots cA ls hF hY hL)
  case dup2 =>
    simp only [sm_ck, Bool.and_eq_true, decide_eq_true_eq] at hc
    obtain ⟨hd, rfl⟩ := hc
    obtain ⟨x, t, rfl, h⟩ := sm_ph_e h
    obtain ⟨y, t, rfl, h1, h2, h⟩ := sm_ph_e h
    exact lv_dup2_11 hx hb hd ((sm_v_cat z E x).trans h1) ((sm_v_cat z E y).trans h2) (h z E D p l0 e R s m args below meth c Q' H locs cells slots cA ls hF hY hL)
  case goto off =>
    simp only [sm_ck, Bool.and_eq_true, decide_eq_true_eq] at hc
    obtain ⟨hd, rfl, ht⟩ := hc
    exact lv_goto hx hb hd ht (h z E D p l0 e R s m args below meth c Q' H locs cells slots cA ls hF hY hL)
  case ifCond q off =>
    simp only [sm_ck, Bool.and_eq_true, decide_eq_true_eq] at hc
    obtain ⟨hd, rfl, ht⟩ := hc
    obtain ⟨x, t, rfl, h⟩ := sm_p1_e h
    cases q
    case eq => exact lv_if_eq hx hb hd ht (fun q => (h.1 q z E D p l0 e R s m args below meth c Q' H locs cells slots cA ls hF hY hL)) (fun q => (h.2 q z E D p l0 e R s m args below meth c Q' H locs cells slots cA ls hF hY hL))
    case ne => exact lv_if_ne hx hb hd ht (fun q => (h.1 q z E D p l0 e R s m args below meth c Q' H locs cells slots cA ls hF hY hL)) (fun q => (h.2 q z E D p l0 e R s m args below meth c Q' H locs cells slots cA ls hF hY hL))
    case lt => exact lv_if_lt hx hb hd ht (fun q => (h.1 q z E D p l0 e R s m args below meth c Q' H locs cells slots cA ls hF hY hL)) (fun q => (h.2 q z E D p l0 e R s m args below meth c Q' H locs cells slots cA ls hF hY hL))
    case ge => exact lv_if_ge hx hb hd ht (fun q => (h.1 q z E D p l0 e R s m args below meth c Q' H locs cells slots cA ls hF hY hL)) (fun q => (h.2 q z E D p l0 e R s m args below meth c Q' H locs cells slots cA ls hF hY hL))
    case gt => exact lv_if_gt hx hb hd ht (fun q => (h.1 q z E D p l0 e R s m args below meth c Q' H locs cells slots cA ls hF hY hL)) (fun q => (h.2 q z E D p l0 e R s m args below meth c Q' H locs cells slots cA ls hF hY hL))
    case le => exact lv_if_le hx hb hd ht (fun q => (h.1 q z E D p l0 e R s m args below meth c Q' H locs cells slots cA ls hF hY hL)) (fun q => (h.2 q z E D p l0 e R s m args below meth c Q' H locs cells slots cA ls hF hY hL))
  case if_icmp q off =>
    simp only [sm_ck, Bool.and_eq_true, decide_eq_true_eq] at hc
    obtain ⟨hd, rfl, ht⟩ := hc
    obtain ⟨x, y, t, rfl, h⟩ := sm_p2_e h
    cases q
    case eq => exact lv_icmp_eq hx hb hd ht (fun q => (h.1 q z E D p l0 e R s m args below meth c Q' H locs cells slots cA ls hF hY hL)) (fun q => (h.2 q z E D p l0 e R s m args below meth c Q' H locs cells slots cA ls hF hY hL))
    case ne => exact lv_icmp_ne hx hb hd ht (fun q => (h.1 q z E D p l0 e R s m args below meth c Q' H locs cells slots cA ls hF hY hL)) (fun q => (h.2 q z E D p l0 e R s m args below meth c Q' H locs cells slots cA ls hF hY hL))
    case lt => exact lv_icmp_lt hx hb hd ht (fun q => (h.1 q z E D p l0 e R s m args below meth c Q' H locs cells slots cA ls hF hY hL)) (fun q => (h.2 q z E D p l0 e R s m args below meth c Q' H locs cells slots cA ls hF hY hL))
    case ge => exact lv_icmp_ge hx hb hd ht (fun q => (h.1 q z E D p l0 e R s m args below meth c Q' H locs cells slots cA ls hF hY hL)) (fun q => (h.2 q z E D p l0 e R s m args below meth c Q' H locs cells slots cA ls hF hY hL))
    case gt => exact lv_icmp_gt hx hb hd ht (fun q => (h.1 q z E D p l0 e R s m args below meth c Q' H locs cells slots cA ls hF hY hL)) (fun q => (h.2 q z E D p l0 e R s m args below meth c Q' H locs cells slots cA ls hF hY hL))
    case le => exact lv_icmp_le hx hb hd ht (fun q => (h.1 q z E D p l0 e R s m args below meth c Q' H locs cells slots cA ls hF hY hL)) (fun q => (h.2 q z E D p l0 e R s m args below meth c Q' H locs cells slots cA ls hF hY hL))
  case ifnull off =>
    simp only [sm_ck, Bool.and_eq_true, decide_eq_true_eq] at hc
    obtain ⟨hd, rfl, ht⟩ := hc
    obtain ⟨x, t, rfl, hh⟩ := sm_ph_e h
    clear h
    have h := hh
    split at h
    · exact lv_ifnullN hx hb hd ht (h z E D p l0 e R s m args below meth c Q' H locs cells slots cA ls hF hY hL)
    · exact lv_ifnull hx hb hd (h z E D p l0 e R s m args below meth c Q' H locs cells slots cA ls hF hY hL)
    · exact h.elim
  case ifnonnull off =>
    simp only [sm_ck, Bool.and_eq_true, decide_eq_true_eq] at hc
    obtain ⟨hd, rfl, ht⟩ := hc
    obtain ⟨x, t, rfl, hh⟩ := sm_ph_e h
    clear h
    have h := hh
    split at h
    · exact lv_ifnonnullN hx hb hd (h z E D p l0 e R s m args below meth c Q' H locs cells slots cA ls hF hY hL)
    · exact lv_ifnonnull hx hb hd ht (h z E D p l0 e R s m args below meth c Q' H locs cells slots cA ls hF hY hL)
    · exact h.elim
  case tableswitch off lo hi offs =>
    exact sm_in_sw hc h z E D p l0 e R s m args below meth c Q' H locs cells slots cA ls hF hY hL
  case getfield i =>
    exact sm_in_getfield hc h z E D p l0 e R s m args below meth c Q' H locs cells slots cA ls hF hY hL
  case putfield i =>
    exact sm_in_putfield hc h z E D p l0 e R s m args below meth c Q' H locs cells slots cA ls hF hY hL
  case getstatic i =>
    exact sm_in_getstatic hc h z E D p l0 e R s m args below meth c Q' H locs cells slots cA ls hF hY hL
  case iaload =>
    exact sm_in_iaload hc h z E D p l0 e R s m args below meth c Q' H locs cells slots cA ls hF hY hL
  case baload =>
    exact sm_in_baload hc h z E D p l0 e R s m args below meth c Q' H locs cells slots cA ls hF hY hL
  case laload =>
    exact sm_in_laload hc h z E D p l0 e R s m args below meth c Q' H locs cells slots cA ls hF hY hL
  case aaload =>
    exact sm_in_aaload hc h z E D p l0 e R s m args below meth c Q' H locs cells slots cA ls hF hY hL
  case iastore =>
    exact sm_in_iastore hc h z E D p l0 e R s m args below meth c Q' H locs cells slots cA ls hF hY hL
  case bastore =>
    exact sm_in_bastore hc h z E D p l0 e R s m args below meth c Q' H locs cells slots cA ls hF hY hL
  case lastore =>
    exact sm_in_lastore hc h z E D p l0 e R s m args below meth c Q' H locs cells slots cA ls hF hY hL
  case aastore =>
    exact sm_in_aastore hc h z E D p l0 e R s m args below meth c Q' H locs cells slots cA ls hF hY hL
  case arraylength =>
    exact sm_in_arraylength hc h z E D p l0 e R s m args below meth c Q' H locs cells slots cA ls hF hY hL
  case new i =>
    exact sm_in_new hc h z E D p l0 e R s m args below meth c Q' H locs cells slots cA ls hF hY hL
  case newarray i =>
    exact sm_in_newarray hc h z E D p l0 e R s m args below meth c Q' H locs cells slots cA ls hF hY hL
  case anewarray i =>
    exact sm_in_anewarray hc h z E D p l0 e R s m args below meth c Q' H locs cells slots cA ls hF hY hL
  case ireturn =>
    exact sm_in_ireturn hc h z E D p l0 e R s m args below meth c Q' H locs cells slots cA ls hF hY hL
  case lreturn =>
    exact sm_in_lreturn hc h z E D p l0 e R s m args below meth c Q' H locs cells slots cA ls hF hY hL
  case areturn =>
    exact sm_in_areturn hc h z E D p l0 e R s m args below meth c Q' H locs cells slots cA ls hF hY hL
  case return_ =>
    exact sm_in_return hc h z E D p l0 e R s m args below meth c Q' H locs cells slots cA ls hF hY hL
  case invokevirtual i =>
    exact sm_in_invokevirtual hc h z E D p l0 e R s m args below meth c Q' H locs cells slots cA ls hF hY hL
  case invokespecial i =>
    exact sm_in_invokespecial hc h z E D p l0 e R s m args below meth c Q' H locs cells slots cA ls hF hY hL
  case invokestatic i =>
    exact sm_in_invokestatic hc h z E D p l0 e R s m args below meth c Q' H locs cells slots cA ls hF hY hL
  all_goals exact (show False from h).elim
/-- THE RULE: a step of the plain machine is one of the real machine -/
theorem sm_in {ex : sm_O} {d bc bs k pc : Nat} {l : List (Option Value)} {st : List Value} {μ : sm_Mem} {Q : sm_Q} (h : sm_F ex (sm_W ex) d bc bs k pc l st μ Q) : sm_W ex d bc bs k pc l st μ Q := by
  unfold sm_F at h
  split at h
  · exact h.elim
  · rename_i e hlk
    exact sm_in1 (sm_ck_at hlk) h
end
section
-- THE GRAPH of cells behind the two constructors
def sm_yl0 : List (Nat ⊕ (Nat × Nat)) := [.inl 10, .inl 9, .inr (0, 7), .inr (0, 7), .inr (0, 7), .inr (0, 4), .inl 0, .inr (9, 6), .inl 6, .inr (0, 0), .inr (0, 0), .inr (0, 0), .inr (0, 0), .inr (0, 0), .inl 6, .inr (0, 200), .inr (0, 12), .inr (0, 12), .inr (0, 12), .inr (0, 12), .inl 6, .inr (0, 200), .inr (0, 12), .inr (0, 12), .inr (0, 12), .inr (0, 12), .inl 6, .inr (0, 200), .inr (0, 12), .inr (0, 12), .inr (0, 12), .inr (0, 12), .inl 6, .inr (0, 200), .inr (0, 12), .inr (0, 12), .inr (0, 12), .inr (0, 12), .inl 6, .inr (0, 200), .inr (0, 12), .inr (0, 12), .inr (0, 12), .inr (0, 12), .inl 6, .inr (0, 200), .inr (0, 12), .inr (0, 12), .inr (0, 12), .inr (0, 12), .inl 5, .inl 2, .inr (0, 13), .inr (0, 40), .inl 1, .inl 2, .inr (0, 13), .inr (0, 40), .inl 9, .inr (0, 7), .inr (0, 7), .inr (0, 7), .inr (0, 4), .inl 4, .inr (0, 192), .inl 4, .inr (0, 192), .inl 6, .inr (0, 200), .inr (0, 12), .inr (0, 12), .inr (0, 12), .inr (0, 12), .inl 8, .inr (12, 5), .inr (0, 5), .inr (0, 5), .inl 9, .inr (0, 7), .inr (0, 7), .inr (0, 7), .inr (0, 4), .inl 9, .inr (0, 7), .inr (0, 7), .inr (0, 7), .inr (0, 4), .inl 9, .inr (0, 7), .inr (0, 7), .inr (0, 7), .inr (0, 4), .inl 9, .inr (0, 7), .inr (0, 7), .inr (0, 7), .inr (0, 4), .inl 9, .inr (0, 7), .inr (0, 7), .inr (0, 7), .inr (0, 4), .inl 3, .inr (0, 49), .inr (0, 7), .inr (0, 7), .inr (0, 7), .inl 9, .inr (0, 7), .inr (0, 7), .inr (0, 7), .inr (0, 4), .inl 9, .inr (0, 7), .inr (0, 7), .inr (0, 7), .inr (0, 4), .inr (12, 2), .inr (3, 2), .inr (0, 400), .inl 7, .inr (1, 20), .inr (0, 7), .inl 11, .inr (0, 7), .inr (0, 5450), .inr (0, 10900), .inr (2, 2), .inr (0, 360), .inr (0, 16), .inr (0, 320), .inr (0, 16), .inr (0, 400), .inr (0, 96), .inr (0, 400), .inr (0, 400), .inr (0, 400), .inr (0, 400), .inr (1, 8), .inr (1, 7), .inr (1, 4), .inr (1, 13), .inr (1, 13), .inr (1, 400), .inr (0, 7), .inr (0, 120), .inr (0, 6), .inr (0, 6), .inr (0, 6), .inr (0, 49), .inr (0, 896), .inr (0, 7), .inr (1, 21), .inr (1, 4), .inr (0, 96), .inr (0, 20)]
def sm_y0 (o : Nat) : Option (Nat ⊕ (Nat × Nat)) := some (sm_nth (.inl 0) sm_yl0 o)
def sm_rl0 : List (List Nat) := [[1, 6, 50, 54, 73, 102, 107, 112, 1000, 117, 118, 119, 1000, 120, 121, 1000, 1000, 122], [2, 3, 4, 5], [], [], [], [], [7, 8], [14, 20, 26, 32, 38, 44], [9, 10, 11, 12, 13], [], [], [], [], [], [15, 16, 17, 18, 19], [], [], [], [], [], [21, 22, 23, 24, 25], [], [], [], [], [], [27, 28, 29, 30, 31], [], [], [], [], [], [33, 34, 35, 36, 37], [], [], [], [], [], [39, 40, 41, 42, 43], [], [], [], [], [], [45, 46, 47, 48, 49], [], [], [], [], [], [6, 51], [52, 53], [], [], [1, 50, 55, 58, 63, 65, 67], [56, 57], [], [], [59, 60, 61, 62], [], [], [], [], [64], [], [66], [], [68, 69, 70, 71, 72], [], [], [], [], [], [50, 74, 75, 76], [77, 82, 87, 92, 97], [], [], [78, 79, 80, 81], [], [], [], [], [83, 84, 85, 86], [], [], [], [], [88, 89, 90, 91], [], [], [], [], [93, 94, 95, 96], [], [], [], [], [98, 99, 100, 101], [], [], [], [], [50, 103, 1000, 104, 105, 1000, 1000, 106], [], [], [], [], [108, 109, 110, 111], [], [], [], [], [113, 114, 115, 116], [], [], [], [], [], [], [], [119], [], [], [1000, 1000, 124, 125, 126, 127, 128, 129, 1000, 130, 131, 1000, 132, 1000, 1000, 1000, 1000, 1000, 1000, 1000, 1000, 1000, 133, 1000, 134, 135, 1000, 136, 137, 1000, 1000, 138, 139, 140, 1000, 141, 142, 143, 1000, 1000, 1000, 144, 145, 146, 147, 148, 1000, 149, 150, 151, 152, 153, 154, 1000, 1000, 1000, 1000, 1000, 155], [], [], [], [], [], [], [], [], [], [], [], [], [], [], [], [], [], [], [], [], [], [], [], [], [], [], [], [], [], [], [], []]
def sm_r0 (o j : Nat) : Nat := sm_nth 1000 (sm_nth [] sm_rl0 o) j
/-- the cells that are there from the start, and the references among them that stay -/
def sm_G (y : sm_Y) (R : Nat → Nat → Option Nat) : Prop := (∀ o, o < 156 → y o = sm_y0 o) ∧ ∀ o j, Nat.ble 1000 (sm_r0 o j) = false → R o j = some (sm_r0 o j)
def ok9 (y : sm_Y) (R : Nat → Nat → Option Nat) (o : Nat) : Prop := y o = some (.inl 9) ∧ R o 0 = some (o + 1) ∧ R o 1 = some (o + 2) ∧ R o 2 = some (o + 3) ∧ R o 3 = some (o + 4) ∧ y (o + 1) = some (.inr (0, 7)) ∧ y (o + 2) = some (.inr (0, 7)) ∧ y (o + 3) = some (.inr (0, 7)) ∧ y (o + 4) = some (.inr (0, 4))
theorem ok9_y0 {y : sm_Y} {R : Nat → Nat → Option Nat} {o : Nat} (h : ok9 y R o) : y o = some (.inl 9) := h.1
theorem ok9_r0 {y : sm_Y} {R : Nat → Nat → Option Nat} {o : Nat} (h : ok9 y R o) : R o 0 = some (o + 1) := h.2.1
theorem ok9_r1 {y : sm_Y} {R : Nat → Nat → Option Nat} {o : Nat} (h : ok9 y R o) : R o 1 = some (o + 2) := h.2.2.1
theorem ok9_r2 {y : sm_Y} {R : Nat → Nat → Option Nat} {o : Nat} (h : ok9 y R o) : R o 2 = some (o + 3) := h.2.2.2.1
theorem ok9_r3 {y : sm_Y} {R : Nat → Nat → Option Nat} {o : Nat} (h : ok9 y R o) : R o 3 = some (o + 4) := h.2.2.2.2.1
theorem ok9_a1 {y : sm_Y} {R : Nat → Nat → Option Nat} {o : Nat} (h : ok9 y R o) : y (o + 1) = some (.inr (0, 7)) := h.2.2.2.2.2.1
theorem ok9_a2 {y : sm_Y} {R : Nat → Nat → Option Nat} {o : Nat} (h : ok9 y R o) : y (o + 2) = some (.inr (0, 7)) := h.2.2.2.2.2.2.1
theorem ok9_a3 {y : sm_Y} {R : Nat → Nat → Option Nat} {o : Nat} (h : ok9 y R o) : y (o + 3) = some (.inr (0, 7)) := h.2.2.2.2.2.2.2.1
theorem ok9_a4 {y : sm_Y} {R : Nat → Nat → Option Nat} {o : Nat} (h : ok9 y R o) : y (o + 4) = some (.inr (0, 4)) := h.2.2.2.2.2.2.2.2
def ok6 (y : sm_Y) (R : Nat → Nat → Option Nat) (o : Nat) (ns nc : Nat) : Prop := y o = some (.inl 6) ∧ R o 0 = some (o + 1) ∧ R o 1 = some (o + 2) ∧ R o 2 = some (o + 3) ∧ R o 3 = some (o + 4) ∧ R o 4 = some (o + 5) ∧ y (o + 1) = some (.inr (0, ns)) ∧ y (o + 2) = some (.inr (0, nc)) ∧ y (o + 3) = some (.inr (0, nc)) ∧ y (o + 4) = some (.inr (0, nc)) ∧ y (o + 5) = some (.inr (0, nc))
theorem ok6_y0 {y : sm_Y} {R : Nat → Nat → Option Nat} {o ns nc : Nat} (h : ok6 y R o ns nc) : y o = some (.inl 6) := h.1
theorem ok6_r0 {y : sm_Y} {R : Nat → Nat → Option Nat} {o ns nc : Nat} (h : ok6 y R o ns nc) : R o 0 = some (o + 1) := h.2.1
theorem ok6_r1 {y : sm_Y} {R : Nat → Nat → Option Nat} {o ns nc : Nat} (h : ok6 y R o ns nc) : R o 1 = some (o + 2) := h.2.2.1
theorem ok6_r2 {y : sm_Y} {R : Nat → Nat → Option Nat} {o ns nc : Nat} (h : ok6 y R o ns nc) : R o 2 = some (o + 3) := h.2.2.2.1
theorem ok6_r3 {y : sm_Y} {R : Nat → Nat → Option Nat} {o ns nc : Nat} (h : ok6 y R o ns nc) : R o 3 = some (o + 4) := h.2.2.2.2.1
theorem ok6_r4 {y : sm_Y} {R : Nat → Nat → Option Nat} {o ns nc : Nat} (h : ok6 y R o ns nc) : R o 4 = some (o + 5) := h.2.2.2.2.2.1
theorem ok6_a1 {y : sm_Y} {R : Nat → Nat → Option Nat} {o ns nc : Nat} (h : ok6 y R o ns nc) : y (o + 1) = some (.inr (0, ns)) := h.2.2.2.2.2.2.1
theorem ok6_a2 {y : sm_Y} {R : Nat → Nat → Option Nat} {o ns nc : Nat} (h : ok6 y R o ns nc) : y (o + 2) = some (.inr (0, nc)) := h.2.2.2.2.2.2.2.1
theorem ok6_a3 {y : sm_Y} {R : Nat → Nat → Option Nat} {o ns nc : Nat} (h : ok6 y R o ns nc) : y (o + 3) = some (.inr (0, nc)) := h.2.2.2.2.2.2.2.2.1
theorem ok6_a4 {y : sm_Y} {R : Nat → Nat → Option Nat} {o ns nc : Nat} (h : ok6 y R o ns nc) : y (o + 4) = some (.inr (0, nc)) := h.2.2.2.2.2.2.2.2.2.1
theorem ok6_a5 {y : sm_Y} {R : Nat → Nat → Option Nat} {o ns nc : Nat} (h : ok6 y R o ns nc) : y (o + 5) = some (.inr (0, nc)) := h.2.2.2.2.2.2.2.2.2.2
def ok2 (y : sm_Y) (R : Nat → Nat → Option Nat) (o : Nat) : Prop := y o = some (.inl 2) ∧ R o 0 = some (o + 1) ∧ R o 1 = some (o + 2) ∧ y (o + 1) = some (.inr (0, 13)) ∧ y (o + 2) = some (.inr (0, 40))
theorem ok2_y0 {y : sm_Y} {R : Nat → Nat → Option Nat} {o : Nat} (h : ok2 y R o) : y o = some (.inl 2) := h.1
theorem ok2_r0 {y : sm_Y} {R : Nat → Nat → Option Nat} {o : Nat} (h : ok2 y R o) : R o 0 = some (o + 1) := h.2.1
theorem ok2_r1 {y : sm_Y} {R : Nat → Nat → Option Nat} {o : Nat} (h : ok2 y R o) : R o 1 = some (o + 2) := h.2.2.1
theorem ok2_a1 {y : sm_Y} {R : Nat → Nat → Option Nat} {o : Nat} (h : ok2 y R o) : y (o + 1) = some (.inr (0, 13)) := h.2.2.2.1
theorem ok2_a2 {y : sm_Y} {R : Nat → Nat → Option Nat} {o : Nat} (h : ok2 y R o) : y (o + 2) = some (.inr (0, 40)) := h.2.2.2.2
def ok4 (y : sm_Y) (R : Nat → Nat → Option Nat) (o : Nat) : Prop := y o = some (.inl 4) ∧ R o 0 = some (o + 1) ∧ y (o + 1) = some (.inr (0, 192))
theorem ok4_y0 {y : sm_Y} {R : Nat → Nat → Option Nat} {o : Nat} (h : ok4 y R o) : y o = some (.inl 4) := h.1
theorem ok4_r0 {y : sm_Y} {R : Nat → Nat → Option Nat} {o : Nat} (h : ok4 y R o) : R o 0 = some (o + 1) := h.2.1
theorem ok4_a1 {y : sm_Y} {R : Nat → Nat → Option Nat} {o : Nat} (h : ok4 y R o) : y (o + 1) = some (.inr (0, 192)) := h.2.2
def ok0 (y : sm_Y) (R : Nat → Nat → Option Nat) (o : Nat) : Prop := y o = some (.inl 0) ∧ R o 0 = some (o + 1) ∧ R o 1 = some (o + 2) ∧ y (o + 1) = some (.inr (9, 6)) ∧ ok6 y R (o + 2) 0 0 ∧ (∀ i, i < 6 → R (o + 1) i = some (o + (8 + 6 * i)) ∧ ok6 y R (o + (8 + 6 * i)) 200 12)
theorem ok0_y0 {y : sm_Y} {R : Nat → Nat → Option Nat} {o : Nat} (h : ok0 y R o) : y o = some (.inl 0) := h.1
theorem ok0_r0 {y : sm_Y} {R : Nat → Nat → Option Nat} {o : Nat} (h : ok0 y R o) : R o 0 = some (o + 1) := h.2.1
theorem ok0_r1 {y : sm_Y} {R : Nat → Nat → Option Nat} {o : Nat} (h : ok0 y R o) : R o 1 = some (o + 2) := h.2.2.1
theorem ok0_a1 {y : sm_Y} {R : Nat → Nat → Option Nat} {o : Nat} (h : ok0 y R o) : y (o + 1) = some (.inr (9, 6)) := h.2.2.2.1
theorem ok0_w {y : sm_Y} {R : Nat → Nat → Option Nat} {o : Nat} (h : ok0 y R o) : ok6 y R (o + 2) 0 0 := h.2.2.2.2.1
theorem ok0_l {y : sm_Y} {R : Nat → Nat → Option Nat} {o : Nat} (h : ok0 y R o) : (∀ i, i < 6 → R (o + 1) i = some (o + (8 + 6 * i)) ∧ ok6 y R (o + (8 + 6 * i)) 200 12) := h.2.2.2.2.2
theorem sm_rrs {r : Option Nat} {q : Nat} {f : Value → Prop} (h : r = some q) (k : f (.ref q)) : sm_rr r f := ⟨fun h0 => absurd (h.symm.trans h0) (by simp), fun q' hq => (Option.some.inj (h.symm.trans hq)) ▸ k⟩
theorem sm_gfr {kd o b q : Nat} {μ : sm_Mem} {f : Value → Prop} (hk : kd = 2) (h : μ.2.2.2.2 o b = some q) (k : f (.ref q)) : sm_gf kd o b μ f := by
  subst hk
  exact sm_rrs h k
theorem sm_calln {X : sm_X} {d d1 k pc k2 ml : Nat} {l : List (Option Value)} {μ : sm_Mem} {Q : sm_Q} {as rest : List Value} (h1 : d1 < d) (h8 : sm_ct rest ≤ 8) (has : sm_ct as ≤ ml) (hX : X d1 0 0 k2 0 (sm_en as ml) [] μ (fun r μ1 => X d 0 0 k (pc + 3) l (r.toList ++ rest) μ1 Q)) : sm_callN X d 0 0 k pc l μ Q k2 ml as rest := ⟨d1, 0, 0, _, h1, Nat.le_refl 0, Nat.le_refl 0, h8, has, hX, fun _ _ h => h⟩
/-- a call, from its start -/
abbrev sm_C (ex : sm_O) (d k : Nat) (as : List Value) (μ : sm_Mem) (Q : sm_Q) : Prop := sm_W ex d 0 0 k 0 (sm_en as (sm_ml k)) [] μ Q
theorem sm_tc {i : Nat} : True := trivial
theorem sm_lin {i : Int32} {n : Nat} (h : decide (¬ (i < 0 ∨ n ≤ i.toNatClampNeg)) = true) : vp_in i n := by
  have := of_decide_eq_true h
  exact this
theorem sm_lt_in {i : Int32} {n : Nat} (h : vp_in i n) : i.toNatClampNeg < n := Nat.not_le.mp fun q => h (Or.inr q)
theorem sm_G74 {y : sm_Y} {R : Nat → Nat → Option Nat} {i : Int32} (hG : sm_G y R) (h : vp_in i 5) : R 74 i.toNatClampNeg = some (77 + 5 * i.toNatClampNeg) := by
  have hl := sm_lt_in h
  generalize i.toNatClampNeg = j at hl ⊢
  match j, hl with
  | 0, _ => exact hG.2 74 0 rfl
  | 1, _ => exact hG.2 74 1 rfl
  | 2, _ => exact hG.2 74 2 rfl
  | 3, _ => exact hG.2 74 3 rfl
  | 4, _ => exact hG.2 74 4 rfl
theorem sm_G7 {y : sm_Y} {R : Nat → Nat → Option Nat} {i : Int32} (hG : sm_G y R) (h : vp_in i 6) : R 7 i.toNatClampNeg = some (14 + 6 * i.toNatClampNeg) := by
  have hl := sm_lt_in h
  generalize i.toNatClampNeg = j at hl ⊢
  match j, hl with
  | 0, _ => exact hG.2 7 0 rfl
  | 1, _ => exact hG.2 7 1 rfl
  | 2, _ => exact hG.2 7 2 rfl
  | 3, _ => exact hG.2 7 3 rfl
  | 4, _ => exact hG.2 7 4 rfl
  | 5, _ => exact hG.2 7 5 rfl
end
section
-- SMALL CONTRACTS
def sm_b (p : Prop) [Decidable p] : Int32 := if p then 1 else 0
theorem sm_b_0 {p : Prop} [Decidable p] : sm_b p = 0 ↔ ¬ p := by
  unfold sm_b
  by_cases h : p <;> simp [h]
theorem sm_b_n {p : Prop} [Decidable p] : ¬ sm_b p = 0 ↔ p := by
  unfold sm_b
  by_cases h : p <;> simp [h]
theorem sm_b_01 (p : Prop) [Decidable p] : sm_b p = 0 ∨ sm_b p = 1 := by
  unfold sm_b
  by_cases h : p <;> simp [h]
theorem sm_b_t {p : Prop} [Decidable p] (h : p) : sm_b p = 1 := if_pos h
theorem sm_b_f {p : Prop} [Decidable p] (h : ¬ p) : sm_b p = 0 := if_neg h
theorem sm_cmp_lt {x y : Int64} : lg_cmp x y < 0 ↔ x < y := by
  unfold lg_cmp
  split
  · rename_i h
    exact ⟨fun q => absurd q (by decide), fun q => absurd q (Int64.not_lt.mpr (Int64.le_of_lt h))⟩
  · split
    · rename_i h
      subst h
      exact ⟨fun q => absurd q (by decide), fun q => absurd q (Int64.lt_irrefl)⟩
    · rename_i h1 h2
      exact ⟨fun _ => (Int64.lt_or_eq_of_le (Int64.not_lt.mp h1)).resolve_right h2, fun _ => by decide⟩
theorem sm_cmp_gt {x y : Int64} : 0 < lg_cmp x y ↔ y < x := by
  unfold lg_cmp
  split
  · rename_i h
    exact ⟨fun _ => h, fun _ => by decide⟩
  · rename_i h
    refine ⟨fun q => ?_, fun q => absurd q h⟩
    split at q <;> exact absurd q (by decide)
theorem sm_cmp_eq {x y : Int64} : lg_cmp x y = 0 ↔ x = y := by
  unfold lg_cmp
  split
  · rename_i h
    exact ⟨fun q => absurd q (by decide), fun q => absurd (q ▸ h) (Int64.lt_irrefl)⟩
  · split
    · rename_i h
      exact ⟨fun _ => h, fun _ => rfl⟩
    · rename_i h
      exact ⟨fun q => absurd q (by decide), fun q => absurd q h⟩

set_option maxRecDepth 10000 in
theorem w_X11_in {ex : sm_O} {d n : Nat} {y : sm_Y} {I : Nat → Nat → Int32} {L : Nat → Nat → Int64} {R : Nat → Nat → Option Nat} {Q : sm_Q} {w1 : Option Value} {w3 : Option Value} {w5 : Option Value} {a0 : Int64} {a2 : Int64} {a4 : Int64} (k : if (lg_cmp a0 a2) < 0 then (Q (some (.int 0)) (n, y, I, L, R)) else (if 0 < (lg_cmp a0 a4) then (Q (some (.int 0)) (n, y, I, L, R)) else (Q (some (.int 1)) (n, y, I, L, R)))) : sm_W ex d 0 0 124 0 [some (.long a0), w1, some (.long a2), w3, some (.long a4), w5] [] (n, y, I, L, R) Q := sm_in (sm_in (sm_in (sm_in (And.intro (fun c1 => have k1t := Eq.mp (if_pos c1) k; sm_in (sm_in (And.intro rfl (And.intro (Or.inl rfl) k1t)))) (fun c1 => have k1f := Eq.mp (if_neg c1) k; sm_in (sm_in (sm_in (sm_in (And.intro (fun c2 => have k2t := Eq.mp (if_pos c2) k1f; sm_in (sm_in (And.intro rfl (And.intro (Or.inl rfl) k2t)))) (fun c2 => have k2f := Eq.mp (if_neg c2) k1f; sm_in (sm_in (sm_in (And.intro rfl (And.intro (Or.inr rfl) k2f))))))))))))))
theorem c_X11_in {ex : sm_O} {n : Nat} {y : sm_Y} {I : Nat → Nat → Int32} {L : Nat → Nat → Int64} {R : Nat → Nat → Option Nat} {Q : sm_Q} {w1 w3 w5 : Option Value} {a0 a2 a4 : Int64} (k : Q (some (.int (sm_b (a2 ≤ a0 ∧ a0 ≤ a4)))) (n, y, I, L, R)) : sm_W ex 0 0 0 124 0 [some (.long a0), w1, some (.long a2), w3, some (.long a4), w5] [] (n, y, I, L, R) Q := by
  refine w_X11_in ?_
  simp only [sm_cmp_lt, sm_cmp_gt]
  split
  · rename_i h
    rw [sm_b_f (fun q => absurd h (Int64.not_lt.mpr q.1))] at k
    exact k
  · rename_i h
    split
    · rename_i h2
      rw [sm_b_f (fun q => absurd h2 (Int64.not_lt.mpr q.2))] at k
      exact k
    · rename_i h2
      rw [sm_b_t ⟨Int64.not_lt.mp h, Int64.not_lt.mp h2⟩] at k
      exact k

set_option maxRecDepth 10000 in
theorem w_X11_is {ex : sm_O} {d n : Nat} {y : sm_Y} {I : Nat → Nat → Int32} {L : Nat → Nat → Int64} {R : Nat → Nat → Option Nat} {Q : sm_Q} {a0 : Int32} {a1 : Int32} (k : if ((a0 >>> (a1 &&& 31)) &&& 1) = 1 then (Q (some (.int 1)) (n, y, I, L, R)) else (Q (some (.int 0)) (n, y, I, L, R))) : sm_W ex d 0 0 125 0 [some (.int a0), some (.int a1)] [] (n, y, I, L, R) Q := sm_in (sm_in (sm_in (sm_in (sm_in (sm_in (sm_in (And.intro (fun c1 => have k1f := Eq.mp (if_neg c1) k; sm_in (sm_in (And.intro rfl (And.intro (Or.inl rfl) k1f)))) (fun c1 => have k1t := Eq.mp (if_pos c1) k; sm_in (sm_in (sm_in (And.intro rfl (And.intro (Or.inr rfl) k1t))))))))))))
theorem c_X11_is {ex : sm_O} {n : Nat} {y : sm_Y} {I : Nat → Nat → Int32} {L : Nat → Nat → Int64} {R : Nat → Nat → Option Nat} {Q : sm_Q} {a0 a1 : Int32} (k : Q (some (.int (sm_b ((a0 >>> (a1 &&& 31)) &&& 1 = 1)))) (n, y, I, L, R)) : sm_W ex 0 0 0 125 0 [some (.int a0), some (.int a1)] [] (n, y, I, L, R) Q := by
  refine w_X11_is ?_
  split
  · rename_i h
    rw [sm_b_t h] at k
    exact k
  · rename_i h
    rw [sm_b_f h] at k
    exact k

set_option maxRecDepth 10000 in
theorem w_X11_isMan {ex : sm_O} {d n : Nat} {y : sm_Y} {I : Nat → Nat → Int32} {L : Nat → Nat → Int64} {R : Nat → Nat → Option Nat} {Q : sm_Q} {a1 : Int32} (hG : sm_G y R) (hdep : 1 ≤ d) (k : Q (some (.int (sm_b ((0 : Int64) ≤ a1.toInt64 ∧ a1.toInt64 ≤ (((I 125 0).toInt64) - 1))))) (n, y, I, L, R)) : sm_W ex d 0 0 137 0 [some (.ref 123), some (.int a1)] [] (n, y, I, L, R) Q := sm_in (sm_in (sm_in (sm_in (sm_in (And.intro (hG.1 123 (Nat.le_of_ble_eq_true rfl)) (sm_gfr rfl (hG.2 123 3 rfl) (sm_in (sm_in (Exists.intro 5450 (And.intro (hG.1 125 (Nat.le_of_ble_eq_true rfl)) (And.intro (sm_lin (by decide)) (sm_in (sm_in (sm_in (sm_in (And.intro (Nat.le_of_ble_eq_true rfl) (sm_calln (d1 := 0) (Nat.lt_of_lt_of_le (Nat.lt_succ_self 0) (Nat.le_trans (Nat.le_of_ble_eq_true rfl) hdep)) (Nat.le_of_ble_eq_true rfl) (Nat.le_of_ble_eq_true rfl) (c_X11_in  (sm_in (And.intro rfl (And.intro (sm_b_01 _) k)))))))))))))))))))))
theorem sm_l64 {a b : Int32} : (0 : Int64) ≤ a.toInt64 ∧ a.toInt64 ≤ b.toInt64 - 1 ↔ 0 ≤ a ∧ a < b := by
  have ha := Int32.le_toInt a
  have ha2 := Int32.toInt_lt a
  have hb := Int32.le_toInt b
  have hb2 := Int32.toInt_lt b
  have e : (b.toInt64 - 1).toInt = b.toInt - 1 := by
    rw [Int64.toInt_sub, Int32.toInt_toInt64]
    show (b.toInt - 1).bmod (2 ^ 64) = _
    apply Int.bmod_eq_of_le <;> omega
  rw [Int64.le_iff_toInt_le, Int64.le_iff_toInt_le, e, Int32.toInt_toInt64, Int32.le_iff_toInt_le, Int32.lt_iff_toInt_lt]
  show (0 : Int) ≤ _ ∧ _ ↔ (0 : Int) ≤ _ ∧ _
  omega
theorem c_X11_isMan {ex : sm_O} {n : Nat} {y : sm_Y} {I : Nat → Nat → Int32} {L : Nat → Nat → Int64} {R : Nat → Nat → Option Nat} {Q : sm_Q} {a1 : Int32} (hG : sm_G y R) (k : Q (some (.int (sm_b (0 ≤ a1 ∧ a1 < I 125 0)))) (n, y, I, L, R)) : sm_W ex 1 0 0 137 0 [some (.ref 123), some (.int a1)] [] (n, y, I, L, R) Q := by
  refine w_X11_isMan hG (Nat.le_refl 1) ?_
  have e : sm_b ((0 : Int64) ≤ a1.toInt64 ∧ a1.toInt64 ≤ (I 125 0).toInt64 - 1) = sm_b (0 ≤ a1 ∧ a1 < I 125 0) := by
    unfold sm_b
    simp only [sm_l64]
  rw [e]
  exact k
end
section
-- BITS AND NUMBERS; THE MODEL'S FIRST LOOPS
theorem sm_of (c : Nat) : (OfNat.ofNat c : Int32) = nI c := rfl
theorem sm_ofl (c : Nat) : (OfNat.ofNat c : Int64) = lN c := rfl
theorem sm_cx2 {m : Nat} (h : m < 10000) : ((2 : Int32) + nI m).toNatClampNeg = 2 + m := by rw [show (2 : Int32) = nI 2 from rfl, nI_add, nI_clamp (by omega)]
theorem sm_ci2 {m N : Nat} (h : 2 + m < N) (hN : N < 2 ^ 31) : vp_in ((2 : Int32) + nI m) N := by rw [show (2 : Int32) = nI 2 from rfl, nI_add]; exact vp_in_nI h hN
theorem sm_cx4 {m : Nat} (h : m < 10000) : ((4 : Int32) + nI m).toNatClampNeg = 4 + m := by rw [show (4 : Int32) = nI 4 from rfl, nI_add, nI_clamp (by omega)]
theorem sm_ci4 {m N : Nat} (h : 4 + m < N) (hN : N < 2 ^ 31) : vp_in ((4 : Int32) + nI m) N := by rw [show (4 : Int32) = nI 4 from rfl, nI_add]; exact vp_in_nI h hN
theorem sm_cx8 {m : Nat} (h : m < 10000) : ((8 : Int32) + nI m).toNatClampNeg = 8 + m := by rw [show (8 : Int32) = nI 8 from rfl, nI_add, nI_clamp (by omega)]
theorem sm_ci8 {m N : Nat} (h : 8 + m < N) (hN : N < 2 ^ 31) : vp_in ((8 : Int32) + nI m) N := by rw [show (8 : Int32) = nI 8 from rfl, nI_add]; exact vp_in_nI h hN
theorem sm_cx10 {m : Nat} (h : m < 10000) : ((10 : Int32) + nI m).toNatClampNeg = 10 + m := by rw [show (10 : Int32) = nI 10 from rfl, nI_add, nI_clamp (by omega)]
theorem sm_ci10 {m N : Nat} (h : 10 + m < N) (hN : N < 2 ^ 31) : vp_in ((10 : Int32) + nI m) N := by rw [show (10 : Int32) = nI 10 from rfl, nI_add]; exact vp_in_nI h hN
theorem sm_cx17 {m : Nat} (h : m < 10000) : ((17 : Int32) + nI m).toNatClampNeg = 17 + m := by rw [show (17 : Int32) = nI 17 from rfl, nI_add, nI_clamp (by omega)]
theorem sm_ci17 {m N : Nat} (h : 17 + m < N) (hN : N < 2 ^ 31) : vp_in ((17 : Int32) + nI m) N := by rw [show (17 : Int32) = nI 17 from rfl, nI_add]; exact vp_in_nI h hN
theorem sm_cx24 {m : Nat} (h : m < 10000) : ((24 : Int32) + nI m).toNatClampNeg = 24 + m := by rw [show (24 : Int32) = nI 24 from rfl, nI_add, nI_clamp (by omega)]
theorem sm_ci24 {m N : Nat} (h : 24 + m < N) (hN : N < 2 ^ 31) : vp_in ((24 : Int32) + nI m) N := by rw [show (24 : Int32) = nI 24 from rfl, nI_add]; exact vp_in_nI h hN
theorem sm_cx31 {m : Nat} (h : m < 10000) : ((31 : Int32) + nI m).toNatClampNeg = 31 + m := by rw [show (31 : Int32) = nI 31 from rfl, nI_add, nI_clamp (by omega)]
theorem sm_ci31 {m N : Nat} (h : 31 + m < N) (hN : N < 2 ^ 31) : vp_in ((31 : Int32) + nI m) N := by rw [show (31 : Int32) = nI 31 from rfl, nI_add]; exact vp_in_nI h hN
theorem sm_cx38 {m : Nat} (h : m < 10000) : ((38 : Int32) + nI m).toNatClampNeg = 38 + m := by rw [show (38 : Int32) = nI 38 from rfl, nI_add, nI_clamp (by omega)]
theorem sm_ci38 {m N : Nat} (h : 38 + m < N) (hN : N < 2 ^ 31) : vp_in ((38 : Int32) + nI m) N := by rw [show (38 : Int32) = nI 38 from rfl, nI_add]; exact vp_in_nI h hN

theorem sm_n1 (m : Nat) : nI m + 1 = nI (m + 1) := nI_1 m
/-- bits of a set -/
def sp_bits (p : Nat → Bool) : Nat → Nat
  | 0 => 0
  | n + 1 => sp_bits p n + if p n then 2 ^ n else 0
theorem sp_bits_lt (p : Nat → Bool) : ∀ n, sp_bits p n < 2 ^ n
  | 0 => by simp [sp_bits]
  | n + 1 => by
    have := sp_bits_lt p n
    simp only [sp_bits, Nat.pow_succ]
    split <;> omega
theorem sp_bits_tb (p : Nat → Bool) : ∀ n i, (sp_bits p n).testBit i = (decide (i < n) && p i)
  | 0, i => by simp [sp_bits]
  | n + 1, i => by
    have hl := sp_bits_lt p n
    have ih := sp_bits_tb p n i
    simp only [sp_bits]
    by_cases hp : p n
    · rw [if_pos hp, Nat.add_comm]
      rcases Nat.lt_trichotomy i n with h | h | h
      · rw [Nat.testBit_two_pow_add_gt h, ih]
        simp [h, Nat.lt_succ_of_lt h]
      · subst h
        rw [Nat.testBit_two_pow_add_eq, ih]
        simp [hp]
      · have h2 : 2 ^ n + sp_bits p n < 2 ^ i := by
          have : 2 ^ (n + 1) ≤ 2 ^ i := Nat.pow_le_pow_right (by decide) h
          rw [Nat.pow_succ] at this
          omega
        rw [Nat.testBit_lt_two_pow h2]
        simp; omega
    · rw [if_neg hp, Nat.add_zero, ih]
      by_cases h : i = n
      · subst h
        simp [hp]
      · have : (i < n + 1) = (i < n) := by
          apply propext
          omega
        simp [this]
def sp_pop (p : Nat → Bool) : Nat → Nat
  | 0 => 0
  | n + 1 => sp_pop p n + if p n then 1 else 0
theorem sp_pop_le (p : Nat → Bool) : ∀ n, sp_pop p n ≤ n
  | 0 => Nat.le_refl 0
  | n + 1 => by
    have := sp_pop_le p n
    simp only [sp_pop]
    split <;> omega
theorem sm_bit7 : ∀ s, s < 128 → ∀ k, k < 7 → ((nI s >>> (nI k &&& 31)) &&& 1) = if s.testBit k then 1 else 0 := by decide +kernel
theorem sm_or7 : ∀ s, s < 128 → ∀ t, t < 128 → nI s ||| nI t = nI (s ||| t) := by decide +kernel
theorem sm_shl7 : ∀ k, k < 7 → (1 : Int32) <<< (nI k &&& 31) = nI (2 ^ k) := by decide +kernel
theorem sm_bit64 : ∀ s, s < 64 → ∀ k, k < 6 → ((nI s >>> (nI k &&& 31)) &&& 1) = if s.testBit k then 1 else 0 := by decide +kernel
theorem sp_bits_or (p : Nat → Bool) (n : Nat) : sp_bits p n ||| (if p n then 2 ^ n else 0) = sp_bits p (n + 1) := by
  simp only [sp_bits]
  split
  · have := sp_bits_lt p n
    have q := Nat.two_pow_add_eq_or_of_lt this 1
    rw [Nat.mul_one] at q
    rw [Nat.or_comm, ← q, Nat.add_comm]
  · simp

set_option maxRecDepth 10000 in
theorem w_X11_many_0 {ex : sm_O} {d n : Nat} {y : sm_Y} {I : Nat → Nat → Int32} {L : Nat → Nat → Int64} {R : Nat → Nat → Option Nat} {Q : sm_Q} {w1 : Option Value} {w2 : Option Value} {a0 : Int32} (k : sm_W ex d 0 0 127 4 [some (.int a0), some (.int 0), some (.int 0)] [] (n, y, I, L, R) Q) : sm_W ex d 0 0 127 0 [some (.int a0), w1, w2] [] (n, y, I, L, R) Q := sm_in (sm_in (And.intro (Nat.le_of_ble_eq_true rfl) (sm_in (sm_in (And.intro (Nat.le_of_ble_eq_true rfl) (k))))))
set_option maxRecDepth 10000 in
theorem w_X11_many_4 {ex : sm_O} {d n : Nat} {y : sm_Y} {I : Nat → Nat → Int32} {L : Nat → Nat → Int64} {R : Nat → Nat → Option Nat} {Q : sm_Q} {a0 : Int32} {a1 : Int32} {a2 : Int32} (k : if 7 ≤ a2 then (Q (some (.int a1)) (n, y, I, L, R)) else (sm_W ex d 0 0 127 4 [some (.int a0), some (.int (a1 + ((a0 >>> (a2 &&& 31)) &&& 1))), some (.int (a2 + 1))] [] (n, y, I, L, R) Q)) : sm_W ex d 0 0 127 4 [some (.int a0), some (.int a1), some (.int a2)] [] (n, y, I, L, R) Q := sm_in (sm_in (sm_in (And.intro (fun c1 => have k1t := Eq.mp (if_pos c1) k; sm_in (sm_in (And.intro rfl k1t))) (fun c1 => have k1f := Eq.mp (if_neg c1) k; sm_in (sm_in (sm_in (sm_in (sm_in (sm_in (sm_in (sm_in (And.intro (Nat.le_of_ble_eq_true rfl) (sm_in (And.intro (Nat.le_of_ble_eq_true rfl) (sm_in (k1f))))))))))))))))
theorem c_X11_many {ex : sm_O} {n : Nat} {y : sm_Y} {I : Nat → Nat → Int32} {L : Nat → Nat → Int64} {R : Nat → Nat → Option Nat} {Q : sm_Q} {d : Nat} {w1 w2 : Option Value} {p : Nat → Bool} {m : Nat} (hm : m ≤ 7) (k : Q (some (.int (nI (sp_pop p m)))) (n, y, I, L, R)) : sm_W ex d 0 0 127 0 [some (.int (nI (sp_bits p m))), w1, w2] [] (n, y, I, L, R) Q := by
  have hl : sp_bits p m < 128 := Nat.lt_of_lt_of_le (sp_bits_lt p m) (Nat.pow_le_pow_right (by decide) hm)
  have key : ∀ (q j : Nat), j + q = 7 → sm_W ex d 0 0 127 4 [some (.int (nI (sp_bits p m))), some (.int (nI (sp_pop (fun i => decide (i < m) && p i) j))), some (.int (nI j))] [] (n, y, I, L, R) Q := by
    intro q
    induction q with
    | zero =>
      intro j hj
      obtain rfl : j = 7 := by omega
      refine w_X11_many_4 ?_
      rw [if_pos (by decide)]
      have e : ∀ j, m ≤ j → sp_pop (fun i => decide (i < m) && p i) j = sp_pop p m := by
        intro j hj
        have e1 : ∀ i, i ≤ m → sp_pop (fun i => decide (i < m) && p i) i = sp_pop p i := by
          intro i
          induction i with
          | zero => intro _; rfl
          | succ i ih =>
            intro hi
            simp only [sp_pop, ih (by omega)]
            have : i < m := by omega
            simp [this]
        induction j with
        | zero =>
          obtain rfl : m = 0 := by omega
          rfl
        | succ j ih =>
          by_cases h : m = j + 1
          · rw [← h]
            exact e1 m (Nat.le_refl m)
          · simp only [sp_pop, ih (by omega)]
            have : ¬ j < m := by omega
            simp [this]
      rw [e 7 hm]
      exact k
    | succ q ih =>
      intro j hj
      refine w_X11_many_4 ?_
      rw [if_neg (by rw [sm_of 7, nI_leI (by decide) (by omega)]; omega), sm_bit7 _ hl j (by omega), sp_bits_tb, sm_n1]
      have e : nI (sp_pop (fun i => decide (i < m) && p i) j) + (if (decide (j < m) && p j) = true then 1 else 0) = nI (sp_pop (fun i => decide (i < m) && p i) (j + 1)) := by
        simp only [sp_pop]
        split
        · rw [sm_n1]
        · rw [Nat.add_zero, show (0 : Int32) = nI 0 from rfl, nI_add, Nat.add_zero]
      rw [e]
      exact ih (j + 1) (by omega)
  refine w_X11_many_0 ?_
  exact key 7 0 rfl

set_option maxRecDepth 10000 in
theorem w_X11_isFit {ex : sm_O} {d n : Nat} {y : sm_Y} {I : Nat → Nat → Int32} {L : Nat → Nat → Int64} {R : Nat → Nat → Option Nat} {Q : sm_Q} {a1 : Int32} (hG : sm_G y R) (k : vp_in (17 + a1) 5450 ∧ (if (I 125 (17 + a1).toNatClampNeg) = 0 then (Q (some (.int 1)) (n, y, I, L, R)) else (Q (some (.int 0)) (n, y, I, L, R)))) : sm_W ex d 0 0 138 0 [some (.ref 123), some (.int a1)] [] (n, y, I, L, R) Q := sm_in (sm_in (And.intro (hG.1 123 (Nat.le_of_ble_eq_true rfl)) (sm_gfr rfl (hG.2 123 3 rfl) (sm_in (sm_in (sm_in ((have e1 := k.1; have k1 := k.2; sm_in (Exists.intro 5450 (And.intro (hG.1 125 (Nat.le_of_ble_eq_true rfl)) (And.intro e1 (sm_in (And.intro (fun c2 => have k2f := Eq.mp (if_neg c2) k1; sm_in (sm_in (And.intro rfl (And.intro (Or.inl rfl) k2f)))) (fun c2 => have k2t := Eq.mp (if_pos c2) k1; sm_in (sm_in (sm_in (And.intro rfl (And.intro (Or.inr rfl) k2t))))))))))))))))))
theorem c_X11_isFit {ex : sm_O} {n : Nat} {y : sm_Y} {I : Nat → Nat → Int32} {L : Nat → Nat → Int64} {R : Nat → Nat → Option Nat} {Q : sm_Q} {d : Nat} {m : Nat} (hG : sm_G y R) (hm : m < 7) (k : Q (some (.int (sm_b (I 125 (17 + m) = 0)))) (n, y, I, L, R)) : sm_W ex d 0 0 138 0 [some (.ref 123), some (.int (nI m))] [] (n, y, I, L, R) Q := by
  refine w_X11_isFit hG ?_
  refine ⟨sm_ci17 (by omega) (by decide), ?_⟩
  rw [sm_cx17 (by omega)]
  split
  · rename_i h
    rw [sm_b_t h] at k
    exact k
  · rename_i h
    rw [sm_b_f h] at k
    exact k
end
section
-- THE STATE IN WORDS
/-- men, hold, look, tired, cashiered, who is up, held, terms -/
abbrev St : Type := Nat × (Nat → Nat) × (Nat → Nat) × (Nat → Nat) × (Nat → Bool) × Option Nat × Nat × (Nat → Nat)
abbrev sMen (s : St) : Nat := s.1
abbrev sHold (s : St) : Nat → Nat := s.2.1
abbrev sLook (s : St) : Nat → Nat := s.2.2.1
abbrev sTired (s : St) : Nat → Nat := s.2.2.2.1
abbrev sCash (s : St) : Nat → Bool := s.2.2.2.2.1
abbrev sUp (s : St) : Option Nat := s.2.2.2.2.2.1
abbrev sHeld (s : St) : Nat := s.2.2.2.2.2.2.1
abbrev sTerm (s : St) : Nat → Nat := s.2.2.2.2.2.2.2
def sp_up : Option Nat → Int32
  | none => -1
  | some u => nI u
/-- what a state can be (the hour: on paper it goes on) -/
def sp_ok (s : St) : Prop := sMen s ≤ 7 ∧ (∀ i, i < sMen s → 1 ≤ sHold s i ∧ sHold s i ≤ 9 ∧ sLook s i < 64 ∧ sTired s i ≤ 99) ∧ (∀ u, sUp s = some u → u < sMen s) ∧ sHeld s ≤ 99 ∧ sTerm s 0 ≤ 100000 ∧ sTerm s 1 ≤ 10 ∧ sTerm s 2 ≤ 9 ∧ sTerm s 3 ≤ 99
/-- the model's row bears it -/
def mS (s : St) (r : Nat → Int32) : Prop := r 0 = nI (sMen s) ∧ (∀ i, i < sMen s → r (24 + i) = nI (sHold s i) ∧ r (31 + i) = nI (sLook s i) ∧ r (10 + i) = nI (sTired s i) ∧ r (17 + i) = if sCash s i then 1 else 0) ∧ r 8 = sp_up (sUp s) ∧ r 9 = nI (sHeld s) ∧ ∀ j, j < 4 → r (4 + j) = nI (sTerm s j)
/-- a Standing of the class bears it -/
def cS (s : St) (o : Nat) (I : Nat → Nat → Int32) : Prop := I o 4 = nI (sMen s) ∧ (∀ i, i < sMen s → I (o + 1) i = nI (sHold s i) ∧ I (o + 2) i = nI (sLook s i) ∧ I (o + 3) i = nI (sTired s i)) ∧ I o 5 = nI (sp_bits (sCash s) (sMen s)) ∧ I o 6 = sp_up (sUp s) ∧ I o 7 = nI (sHeld s) ∧ ∀ j, j < 4 → I (o + 4) j = nI (sTerm s j)
def sp_unlike (s : St) (a b : Nat) : Nat := sp_pop (fun f => (sLook s a).testBit f != (sLook s b).testBit f) 6
def sp_fit (s : St) : Nat := sp_pop (fun i => !sCash s i) (sMen s)
theorem sp_pop_not (p : Nat → Bool) : ∀ n, sp_pop (fun i => !p i) n + sp_pop p n = n
  | 0 => rfl
  | n + 1 => by
    have := sp_pop_not p n
    simp only [sp_pop]
    by_cases h : p n = true
    · simp only [h]
      simp
      omega
    · simp only [h]
      simp
      omega

set_option maxRecDepth 10000 in
theorem w_X11_fitBits_0 {ex : sm_O} {d n : Nat} {y : sm_Y} {I : Nat → Nat → Int32} {L : Nat → Nat → Int64} {R : Nat → Nat → Option Nat} {Q : sm_Q} {w1 : Option Value} {w2 : Option Value} (k : sm_W ex d 0 0 139 4 [some (.ref 123), some (.int 0), some (.int 0)] [] (n, y, I, L, R) Q) : sm_W ex d 0 0 139 0 [some (.ref 123), w1, w2] [] (n, y, I, L, R) Q := sm_in (sm_in (And.intro (Nat.le_of_ble_eq_true rfl) (sm_in (sm_in (And.intro (Nat.le_of_ble_eq_true rfl) (k))))))
set_option maxRecDepth 10000 in
theorem w_X11_fitBits_4 {ex : sm_O} {d n : Nat} {y : sm_Y} {I : Nat → Nat → Int32} {L : Nat → Nat → Int64} {R : Nat → Nat → Option Nat} {Q : sm_Q} {a1 : Int32} {a2 : Int32} (hG : sm_G y R) (hdep : 1 ≤ d) (k : if (I 125 0) ≤ a2 then (Q (some (.int a1)) (n, y, I, L, R)) else (vp_in (17 + a2) 5450 ∧ (if (I 125 (17 + a2).toNatClampNeg) = 0 then (sm_W ex d 0 0 139 4 [some (.ref 123), some (.int (a1 ||| ((1 : Int32) <<< (a2 &&& 31)))), some (.int (a2 + 1))] [] (n, y, I, L, R) Q) else (sm_W ex d 0 0 139 4 [some (.ref 123), some (.int (a1 ||| 0)), some (.int (a2 + 1))] [] (n, y, I, L, R) Q)))) : sm_W ex d 0 0 139 4 [some (.ref 123), some (.int a1), some (.int a2)] [] (n, y, I, L, R) Q := sm_in (sm_in (sm_in (And.intro (hG.1 123 (Nat.le_of_ble_eq_true rfl)) (sm_gfr rfl (hG.2 123 3 rfl) (sm_in (sm_in (Exists.intro 5450 (And.intro (hG.1 125 (Nat.le_of_ble_eq_true rfl)) (And.intro (sm_lin (by decide)) (sm_in (And.intro (fun c1 => have k1t := Eq.mp (if_pos c1) k; sm_in (sm_in (And.intro rfl k1t))) (fun c1 => have k1f := Eq.mp (if_neg c1) k; sm_in (sm_in (sm_in (sm_in (Exists.intro 11 (And.intro (hG.1 123 (Nat.le_of_ble_eq_true rfl)) (And.intro rfl (sm_calln (d1 := 0) (Nat.lt_of_lt_of_le (Nat.le_of_ble_eq_true rfl : 0 < 1) hdep) (Nat.le_of_ble_eq_true rfl) (Nat.le_of_ble_eq_true rfl) (sm_in (sm_in (And.intro (hG.1 123 (Nat.le_of_ble_eq_true rfl)) (sm_gfr rfl (hG.2 123 3 rfl) (sm_in (sm_in (sm_in ((have e2 := k1f.1; have k2 := k1f.2; sm_in (Exists.intro 5450 (And.intro (hG.1 125 (Nat.le_of_ble_eq_true rfl)) (And.intro e2 (sm_in (And.intro (fun c3 => have k3f := Eq.mp (if_neg c3) k2; sm_in (sm_in (And.intro rfl (And.intro (Or.inl rfl) (sm_in (And.intro (fun _ => sm_in (sm_in (sm_in (And.intro (Nat.le_of_ble_eq_true rfl) (sm_in (And.intro (Nat.le_of_ble_eq_true rfl) (sm_in (k3f)))))))) (fun c => absurd (by decide : (0 : Int32) = 0) c))))))) (fun c3 => have k3t := Eq.mp (if_pos c3) k2; sm_in (sm_in (sm_in (And.intro rfl (And.intro (Or.inr rfl) (sm_in (And.intro (fun c => absurd c (by decide : ¬ (1 : Int32) = 0)) (fun _ => sm_in (sm_in (sm_in (sm_in (sm_in (sm_in (And.intro (Nat.le_of_ble_eq_true rfl) (sm_in (And.intro (Nat.le_of_ble_eq_true rfl) (sm_in (k3t)))))))))))))))))))))))))))))))))))))))))))))))))))
theorem c_X11_fitBits {ex : sm_O} {n : Nat} {y : sm_Y} {I : Nat → Nat → Int32} {L : Nat → Nat → Int64} {R : Nat → Nat → Option Nat} {Q : sm_Q} {d : Nat} {w1 w2 : Option Value} {s : St} (hd : 1 ≤ d) (hG : sm_G y R) (hs : mS s (I 125)) (h7 : sMen s ≤ 7) (k : Q (some (.int (nI (sp_bits (fun i => !sCash s i) (sMen s))))) (n, y, I, L, R)) : sm_W ex d 0 0 139 0 [some (.ref 123), w1, w2] [] (n, y, I, L, R) Q := by
  have key : ∀ (q j : Nat), j + q = sMen s → sm_W ex d 0 0 139 4 [some (.ref 123), some (.int (nI (sp_bits (fun i => !sCash s i) j))), some (.int (nI j))] [] (n, y, I, L, R) Q := by
    intro q
    induction q with
    | zero =>
      intro j hj
      obtain rfl : j = sMen s := by omega
      refine w_X11_fitBits_4 hG hd ?_
      rw [if_pos (by rw [hs.1]; exact Int32.le_refl _)]
      exact k
    | succ q ih =>
      intro j hj
      refine w_X11_fitBits_4 hG hd ?_
      rw [if_neg (by rw [hs.1, nI_leI (by omega) (by omega)]; omega)]
      refine ⟨sm_ci17 (by omega) (by decide), ?_⟩
      have hl : sp_bits (fun i => !sCash s i) j < 128 := Nat.lt_of_lt_of_le (sp_bits_lt _ j) (show 2 ^ j ≤ 2 ^ 7 from Nat.pow_le_pow_right (by decide) (by omega))
      have hp : 2 ^ j < 128 := Nat.lt_of_lt_of_le (Nat.pow_lt_pow_right (by decide) (by omega : j < 7)) (by decide)
      have h9 := ih (j + 1) (by omega)
      rw [← sp_bits_or] at h9
      rw [sm_cx17 (by omega), (hs.2.1 j (by omega)).2.2.2]
      cases hc : sCash s j with
      | false =>
        rw [hc] at h9
        rw [if_pos (by decide), sm_shl7 j (by omega), sm_or7 _ hl _ hp, sm_n1]
        exact h9
      | true =>
        rw [hc] at h9
        rw [if_neg (by decide), sm_n1, show (0 : Int32) = nI 0 from rfl, sm_or7 _ hl 0 (by decide)]
        exact h9
  refine w_X11_fitBits_0 ?_
  exact key (sMen s) 0 (by omega)

set_option maxRecDepth 10000 in
theorem w_X11_unlike_0 {ex : sm_O} {d n : Nat} {y : sm_Y} {I : Nat → Nat → Int32} {L : Nat → Nat → Int64} {R : Nat → Nat → Option Nat} {Q : sm_Q} {w0 : Option Value} {w1 : Option Value} {w3 : Option Value} {w4 : Option Value} {a2 : Int32} (k : sm_W ex d 0 0 140 5 [w0, w1, some (.int a2), some (.int 0), some (.int 0)] [] (n, y, I, L, R) Q) : sm_W ex d 0 0 140 0 [w0, w1, some (.int a2), w3, w4] [] (n, y, I, L, R) Q := sm_in (sm_in (And.intro (Nat.le_of_ble_eq_true rfl) (sm_in (sm_in (And.intro (Nat.le_of_ble_eq_true rfl) (k))))))
set_option maxRecDepth 10000 in
theorem w_X11_unlike_5 {ex : sm_O} {d n : Nat} {y : sm_Y} {I : Nat → Nat → Int32} {L : Nat → Nat → Int64} {R : Nat → Nat → Option Nat} {Q : sm_Q} {a1 : Int32} {a2 : Int32} {a3 : Int32} {a4 : Int32} (hG : sm_G y R) (hdep : 1 ≤ d) (k : if 6 ≤ a4 then (Q (some (.int a3)) (n, y, I, L, R)) else (vp_in (31 + a1) 5450 ∧ vp_in (31 + a2) 5450 ∧ (if (sm_b (((I 125 (31 + a1).toNatClampNeg) >>> (a4 &&& 31)) &&& 1 = 1)) = (sm_b (((I 125 (31 + a2).toNatClampNeg) >>> (a4 &&& 31)) &&& 1 = 1)) then (sm_W ex d 0 0 140 5 [some (.ref 123), some (.int a1), some (.int a2), some (.int (a3 + 0)), some (.int (a4 + 1))] [] (n, y, I, L, R) Q) else (sm_W ex d 0 0 140 5 [some (.ref 123), some (.int a1), some (.int a2), some (.int (a3 + 1)), some (.int (a4 + 1))] [] (n, y, I, L, R) Q)))) : sm_W ex d 0 0 140 5 [some (.ref 123), some (.int a1), some (.int a2), some (.int a3), some (.int a4)] [] (n, y, I, L, R) Q := sm_in (sm_in (sm_in (And.intro (fun c1 => have k1t := Eq.mp (if_pos c1) k; sm_in (sm_in (And.intro rfl k1t))) (fun c1 => have k1f := Eq.mp (if_neg c1) k; sm_in (sm_in (sm_in (And.intro (hG.1 123 (Nat.le_of_ble_eq_true rfl)) (sm_gfr rfl (hG.2 123 3 rfl) (sm_in (sm_in (sm_in ((have e2 := k1f.1; have k2 := k1f.2; sm_in (Exists.intro 5450 (And.intro (hG.1 125 (Nat.le_of_ble_eq_true rfl)) (And.intro e2 (sm_in (sm_in (And.intro (Nat.le_of_ble_eq_true rfl) (sm_calln (d1 := 0) (Nat.lt_of_lt_of_le (Nat.lt_succ_self 0) (Nat.le_trans (Nat.le_of_ble_eq_true rfl) hdep)) (Nat.le_of_ble_eq_true rfl) (Nat.le_of_ble_eq_true rfl) (c_X11_is  (sm_in (sm_in (And.intro (hG.1 123 (Nat.le_of_ble_eq_true rfl)) (sm_gfr rfl (hG.2 123 3 rfl) (sm_in (sm_in (sm_in ((have e3 := k2.1; have k3 := k2.2; sm_in (Exists.intro 5450 (And.intro (hG.1 125 (Nat.le_of_ble_eq_true rfl)) (And.intro e3 (sm_in (sm_in (And.intro (Nat.le_of_ble_eq_true rfl) (sm_calln (d1 := 0) (Nat.lt_of_lt_of_le (Nat.lt_succ_self 0) (Nat.le_trans (Nat.le_of_ble_eq_true rfl) hdep)) (Nat.le_of_ble_eq_true rfl) (Nat.le_of_ble_eq_true rfl) (c_X11_is  (sm_in (And.intro (fun c4 => have k4t := Eq.mp (if_pos c4) k3; sm_in (sm_in (sm_in (And.intro (Nat.le_of_ble_eq_true rfl) (sm_in (And.intro (Nat.le_of_ble_eq_true rfl) (sm_in (k4t)))))))) (fun c4 => have k4f := Eq.mp (if_neg c4) k3; sm_in (sm_in (sm_in (sm_in (And.intro (Nat.le_of_ble_eq_true rfl) (sm_in (And.intro (Nat.le_of_ble_eq_true rfl) (sm_in (k4f)))))))))))))))))))))))))))))))))))))))))))))))))
theorem c_X11_unlike {ex : sm_O} {n : Nat} {y : sm_Y} {I : Nat → Nat → Int32} {L : Nat → Nat → Int64} {R : Nat → Nat → Option Nat} {Q : sm_Q} {d a b : Nat} {w3 w4 : Option Value} {s : St} (hd : 1 ≤ d) (hG : sm_G y R) (hs : mS s (I 125)) (hok : sp_ok s) (ha : a < sMen s) (hb : b < sMen s) (k : Q (some (.int (nI (sp_unlike s a b)))) (n, y, I, L, R)) : sm_W ex d 0 0 140 0 [some (.ref 123), some (.int (nI a)), some (.int (nI b)), w3, w4] [] (n, y, I, L, R) Q := by
  have h7 := hok.1
  have hla := (hok.2.1 a ha).2.2.1
  have hlb := (hok.2.1 b hb).2.2.1
  have key : ∀ (q j : Nat), j + q = 6 → sm_W ex d 0 0 140 5 [some (.ref 123), some (.int (nI a)), some (.int (nI b)), some (.int (nI (sp_pop (fun f => (sLook s a).testBit f != (sLook s b).testBit f) j))), some (.int (nI j))] [] (n, y, I, L, R) Q := by
    intro q
    induction q with
    | zero =>
      intro j hj
      obtain rfl : j = 6 := by omega
      refine w_X11_unlike_5 hG hd ?_
      rw [if_pos (by decide)]
      exact k
    | succ q ih =>
      intro j hj
      refine w_X11_unlike_5 hG hd ?_
      rw [if_neg (by rw [sm_of 6, nI_leI (by decide) (by omega)]; omega)]
      refine ⟨sm_ci31 (by omega) (by decide), sm_ci31 (by omega) (by decide), ?_⟩
      have h9 := ih (j + 1) (by omega)
      simp only [sm_cx31 (show a < 10000 by omega), sm_cx31 (show b < 10000 by omega), (hs.2.1 a ha).2.1, (hs.2.1 b hb).2.1, sm_bit64 _ hla j (by omega), sm_bit64 _ hlb j (by omega), sm_n1]
      simp only [sp_pop] at h9
      cases h1 : (sLook s a).testBit j <;> cases h2 : (sLook s b).testBit j <;> simp only [h1, h2] at h9 <;> first
        | (rw [if_pos (by simp [sm_b]), show (0 : Int32) = nI 0 from rfl, nI_add]; exact h9)
        | (rw [if_neg (by simp [sm_b])]; exact h9)
  refine w_X11_unlike_0 ?_
  exact key 6 0 rfl
end
section
-- THE MODEL'S SUMS AND TESTS
def rk_val (op : Int32) (a b : Int64) : Int64 := if op = 20 then a + b else if op = 21 then a - b else if op = 22 then a * b else if op = 23 then (if b = 0 then 0 else a / b) else if op = 24 then (if b = 0 then 0 else a - a / b * b) else if op = 25 then (if a < b then 1 else 0) else if op = 26 then (if b < a then 1 else 0) else if a = b then 1 else 0
def rk_mem (op : Int32) (b : Int64) (I : Nat → Nat → Int32) : Nat → Nat → Int32 := if op = 23 ∨ op = 24 then sm_st I 123 38 (if b = 0 then 1 else 0) else I
theorem sm_i32 {x : Int32} {c : Int} (y : Int32) (hy : y.toInt = c) : x.toInt = c ↔ x = y := by rw [← hy]; exact ⟨fun h => Int32.toInt_inj.mp h, fun h => by rw [h]⟩
theorem sm_i32n {x : Int32} {c : Int} (y : Int32) (hy : y.toInt = c) (h : x.toInt ≠ c) : ¬ x = y := fun e => h ((sm_i32 y hy).mpr e)

set_option maxRecDepth 100000 in
theorem w_X11_reckon {ex : sm_O} {d n : Nat} {y : sm_Y} {I : Nat → Nat → Int32} {L : Nat → Nat → Int64} {R : Nat → Nat → Option Nat} {Q : sm_Q} {w3 : Option Value} {w5 : Option Value} {a1 : Int32} {a2 : Int64} {a4 : Int64} (hG : sm_G y R) (k : ((a1.toInt < 20 ∨ 26 < a1.toInt) → (if (lg_cmp a2 a4) = 0 then (Q (some (.long 1)) (n, y, I, L, R)) else (Q (some (.long 0)) (n, y, I, L, R)))) ∧ (a1.toInt = 20 → (Q (some (.long (a2 + a4))) (n, y, I, L, R))) ∧ (a1.toInt = 21 → (Q (some (.long (a2 - a4))) (n, y, I, L, R))) ∧ (a1.toInt = 22 → (Q (some (.long (a2 * a4))) (n, y, I, L, R))) ∧ (a1.toInt = 23 → (if (lg_cmp a4 0) = 0 then (Q (some (.long 0)) (n, y, sm_st I 123 38 1, L, R)) else (¬ a4 = 0 ∧ Q (some (.long (a2 / a4))) (n, y, sm_st I 123 38 0, L, R)))) ∧ (a1.toInt = 24 → (if (lg_cmp a4 0) = 0 then (Q (some (.long 0)) (n, y, sm_st I 123 38 1, L, R)) else (¬ a4 = 0 ∧ Q (some (.long (a2 - a2 / a4 * a4))) (n, y, sm_st I 123 38 0, L, R)))) ∧ (a1.toInt = 25 → (if 0 ≤ (lg_cmp a2 a4) then (Q (some (.long 0)) (n, y, I, L, R)) else (Q (some (.long 1)) (n, y, I, L, R)))) ∧ (a1.toInt = 26 → (if (lg_cmp a2 a4) ≤ 0 then (Q (some (.long 0)) (n, y, I, L, R)) else (Q (some (.long 1)) (n, y, I, L, R))))) : sm_W ex d 0 0 181 0 [some (.ref 123), some (.int a1), some (.long a2), w3, some (.long a4), w5] [] (n, y, I, L, R) Q := sm_in (sm_in (And.intro (fun hd => have kds1_ := k.1 hd; sm_in (sm_in (sm_in (sm_in (And.intro (fun c2 => have k2f := Eq.mp (if_neg c2) kds1_; sm_in (sm_in (And.intro rfl k2f))) (fun c2 => have k2t := Eq.mp (if_pos c2) kds1_; sm_in (sm_in (sm_in (And.intro rfl k2t))))))))) (fun j off ho hj => match j, ho, hj with | 0, ho, hj => by cases ho; exact (have ks1_0 := k.2.1 hj; sm_in (sm_in (sm_in (sm_in (And.intro rfl ks1_0))))) | 1, ho, hj => by cases ho; exact (have ks1_1 := k.2.2.1 hj; sm_in (sm_in (sm_in (sm_in (And.intro rfl ks1_1))))) | 2, ho, hj => by cases ho; exact (have ks1_2 := k.2.2.2.1 hj; sm_in (sm_in (sm_in (sm_in (And.intro rfl ks1_2))))) | 3, ho, hj => by cases ho; exact (have ks1_3 := k.2.2.2.2.1 hj; sm_in (sm_in (sm_in (sm_in (sm_in (And.intro (fun c3 => have k3f := Eq.mp (if_neg c3) ks1_3; sm_in (sm_in (And.intro (hG.1 123 (Nat.le_of_ble_eq_true rfl)) (And.intro (Or.inl rfl) (sm_in (sm_in (And.intro (hG.1 123 (Nat.le_of_ble_eq_true rfl)) (sm_in (And.intro (fun _ => sm_in (sm_in ((have e4 := k3f.1; have k4 := k3f.2; sm_in (And.intro e4 (sm_in (And.intro rfl k4))))))) (fun c => absurd (by decide : (0 : Int32) = 0) c)))))))))) (fun c3 => have k3t := Eq.mp (if_pos c3) ks1_3; sm_in (sm_in (sm_in (And.intro (hG.1 123 (Nat.le_of_ble_eq_true rfl)) (And.intro (Or.inr rfl) (sm_in (sm_in (And.intro (hG.1 123 (Nat.le_of_ble_eq_true rfl)) (sm_in (And.intro (fun c => absurd c (by decide : ¬ (1 : Int32) = 0)) (fun _ => sm_in (sm_in (sm_in (And.intro rfl k3t)))))))))))))))))))) | 4, ho, hj => by cases ho; exact (have ks1_4 := k.2.2.2.2.2.1 hj; sm_in (sm_in (sm_in (sm_in (sm_in (And.intro (fun c5 => have k5f := Eq.mp (if_neg c5) ks1_4; sm_in (sm_in (And.intro (hG.1 123 (Nat.le_of_ble_eq_true rfl)) (And.intro (Or.inl rfl) (sm_in (sm_in (And.intro (hG.1 123 (Nat.le_of_ble_eq_true rfl)) (sm_in (And.intro (fun _ => sm_in (sm_in ((have e6 := k5f.1; have k6 := k5f.2; sm_in (And.intro e6 (sm_in (And.intro rfl k6))))))) (fun c => absurd (by decide : (0 : Int32) = 0) c)))))))))) (fun c5 => have k5t := Eq.mp (if_pos c5) ks1_4; sm_in (sm_in (sm_in (And.intro (hG.1 123 (Nat.le_of_ble_eq_true rfl)) (And.intro (Or.inr rfl) (sm_in (sm_in (And.intro (hG.1 123 (Nat.le_of_ble_eq_true rfl)) (sm_in (And.intro (fun c => absurd c (by decide : ¬ (1 : Int32) = 0)) (fun _ => sm_in (sm_in (sm_in (And.intro rfl k5t)))))))))))))))))))) | 5, ho, hj => by cases ho; exact (have ks1_5 := k.2.2.2.2.2.2.1 hj; sm_in (sm_in (sm_in (sm_in (And.intro (fun c7 => have k7t := Eq.mp (if_pos c7) ks1_5; sm_in (sm_in (And.intro rfl k7t))) (fun c7 => have k7f := Eq.mp (if_neg c7) ks1_5; sm_in (sm_in (sm_in (And.intro rfl k7f))))))))) | 6, ho, hj => by cases ho; exact (have ks1_6 := k.2.2.2.2.2.2.2 hj; sm_in (sm_in (sm_in (sm_in (And.intro (fun c8 => have k8t := Eq.mp (if_pos c8) ks1_6; sm_in (sm_in (And.intro rfl k8t))) (fun c8 => have k8f := Eq.mp (if_neg c8) ks1_6; sm_in (sm_in (sm_in (And.intro rfl k8f))))))))) | j + 7, ho, _ => by cases ho)))
theorem c_X11_reckon {ex : sm_O} {n : Nat} {y : sm_Y} {I : Nat → Nat → Int32} {L : Nat → Nat → Int64} {R : Nat → Nat → Option Nat} {Q : sm_Q} {w3 w5 : Option Value} {a1 : Int32} {a2 a4 : Int64} (hG : sm_G y R) (k : Q (some (.long (rk_val a1 a2 a4))) (n, y, rk_mem a1 a4 I, L, R)) : sm_W ex 0 0 0 181 0 [some (.ref 123), some (.int a1), some (.long a2), w3, some (.long a4), w5] [] (n, y, I, L, R) Q := by
  refine w_X11_reckon hG ⟨fun h => ?_, fun h => ?_, fun h => ?_, fun h => ?_, fun h => ?_, fun h => ?_, fun h => ?_, fun h => ?_⟩
  · have n0 : ¬ a1 = 20 := fun e => by subst e; revert h; decide
    have n1 : ¬ a1 = 21 := fun e => by subst e; revert h; decide
    have n2 : ¬ a1 = 22 := fun e => by subst e; revert h; decide
    have n3 : ¬ a1 = 23 := fun e => by subst e; revert h; decide
    have n4 : ¬ a1 = 24 := fun e => by subst e; revert h; decide
    have n5 : ¬ a1 = 25 := fun e => by subst e; revert h; decide
    have n6 : ¬ a1 = 26 := fun e => by subst e; revert h; decide
    simp only [rk_val, rk_mem, n0, n1, n2, n3, n4, n5, n6, if_false, or_self] at k
    simp only [sm_cmp_eq]
    split
    · rename_i h1
      rw [if_pos h1] at k
      exact k
    · rename_i h1
      rw [if_neg h1] at k
      exact k
  · obtain rfl := (sm_i32 20 rfl).mp h
    exact k
  · obtain rfl := (sm_i32 21 rfl).mp h
    exact k
  · obtain rfl := (sm_i32 22 rfl).mp h
    exact k
  · obtain rfl := (sm_i32 23 rfl).mp h
    have k : Q (some (.long (if a4 = 0 then 0 else a2 / a4))) (n, y, sm_st I 123 38 (if a4 = 0 then 1 else 0), L, R) := k
    simp only [sm_cmp_eq]
    split
    · rename_i h1
      rw [if_pos h1, if_pos h1] at k
      exact k
    · rename_i h1
      rw [if_neg h1, if_neg h1] at k
      exact ⟨h1, k⟩
  · obtain rfl := (sm_i32 24 rfl).mp h
    have k : Q (some (.long (if a4 = 0 then 0 else a2 - a2 / a4 * a4))) (n, y, sm_st I 123 38 (if a4 = 0 then 1 else 0), L, R) := k
    simp only [sm_cmp_eq]
    split
    · rename_i h1
      rw [if_pos h1, if_pos h1] at k
      exact k
    · rename_i h1
      rw [if_neg h1, if_neg h1] at k
      exact ⟨h1, k⟩
  · obtain rfl := (sm_i32 25 rfl).mp h
    have k : Q (some (.long (if a2 < a4 then 1 else 0))) (n, y, I, L, R) := k
    split
    · rename_i h1
      rw [if_neg (fun q => absurd (sm_cmp_lt.mpr q) (Int32.not_lt.mpr h1))] at k
      exact k
    · rename_i h1
      rw [if_pos (sm_cmp_lt.mp (Int32.not_le.mp h1))] at k
      exact k
  · obtain rfl := (sm_i32 26 rfl).mp h
    have k : Q (some (.long (if a4 < a2 then 1 else 0))) (n, y, I, L, R) := k
    split
    · rename_i h1
      rw [if_neg (fun q => absurd (sm_cmp_gt.mpr q) (Int32.not_lt.mpr h1))] at k
      exact k
    · rename_i h1
      rw [if_pos (sm_cmp_gt.mp (Int32.not_le.mp h1))] at k
      exact k

set_option maxRecDepth 100000 in
theorem w_X11_reckonAll_0 {ex : sm_O} {d n : Nat} {y : sm_Y} {I : Nat → Nat → Int32} {L : Nat → Nat → Int64} {R : Nat → Nat → Option Nat} {Q : sm_Q} {w3 : Option Value} {w4 : Option Value} {w5 : Option Value} {w6 : Option Value} {a1 : Int32} {a2 : Int32} (hG : sm_G y R) (k : sm_W ex d 0 0 182 10 [some (.ref 123), some (.int a1), some (.int a2), some (.int 0), some (.int a1), w5, w6] [] (n, y, sm_st I 123 38 0, L, R) Q) : sm_W ex d 0 0 182 0 [some (.ref 123), some (.int a1), some (.int a2), w3, w4, w5, w6] [] (n, y, I, L, R) Q := sm_in (sm_in (sm_in (And.intro (hG.1 123 (Nat.le_of_ble_eq_true rfl)) (And.intro (Or.inl rfl) (sm_in (sm_in (And.intro (Nat.le_of_ble_eq_true rfl) (sm_in (sm_in (And.intro (Nat.le_of_ble_eq_true rfl) (k)))))))))))
set_option maxRecDepth 100000 in
theorem w_X11_reckonAll_10 {ex : sm_O} {d n : Nat} {y : sm_Y} {I : Nat → Nat → Int32} {L : Nat → Nat → Int64} {R : Nat → Nat → Option Nat} {Q : sm_Q} {w1 : Option Value} {w3 : Option Value} {w5 : Option Value} {w6 : Option Value} {a2 : Int32} {a4 : Int32} (hG : sm_G y R) (k : if a2 ≤ a4 then (sm_W ex d 0 0 182 332 [some (.ref 123), w1, some (.int a2), w3, some (.int a4), w5, w6] [] (n, y, I, L, R) Q) else (if (I 123 38) = 0 then (if (I 123 20) = 0 then (vp_in (((I 123 34) + 98) + (2 * a4)) 5450 ∧ sm_W ex d 0 0 182 57 [some (.ref 123), w1, some (.int a2), w3, some (.int a4), w5, w6] [.int (I 125 (((I 123 34) + 98) + (2 * a4)).toNatClampNeg)] (n, y, I, L, R) Q) else (vp_in a4 400 ∧ sm_W ex d 0 0 182 57 [some (.ref 123), w1, some (.int a2), w3, some (.int a4), w5, w6] [.int (I 134 a4.toNatClampNeg)] (n, y, I, L, R) Q)) else (sm_W ex d 0 0 182 332 [some (.ref 123), w1, some (.int a2), w3, some (.int a4), w5, w6] [] (n, y, I, L, R) Q))) : sm_W ex d 0 0 182 10 [some (.ref 123), w1, some (.int a2), w3, some (.int a4), w5, w6] [] (n, y, I, L, R) Q := sm_in (sm_in (sm_in (And.intro (fun c1 => have k1t := Eq.mp (if_pos c1) k; k1t) (fun c1 => have k1f := Eq.mp (if_neg c1) k; sm_in (sm_in (And.intro (hG.1 123 (Nat.le_of_ble_eq_true rfl)) (sm_in (And.intro (fun c2 => have k2f := Eq.mp (if_neg c2) k1f; k2f) (fun c2 => have k2t := Eq.mp (if_pos c2) k1f; sm_in (sm_in (And.intro (hG.1 123 (Nat.le_of_ble_eq_true rfl)) (sm_in (And.intro (fun c3 => have k3t := Eq.mp (if_pos c3) k2t; sm_in (sm_in (And.intro (hG.1 123 (Nat.le_of_ble_eq_true rfl)) (sm_gfr rfl (hG.2 123 3 rfl) (sm_in (sm_in (And.intro (hG.1 123 (Nat.le_of_ble_eq_true rfl)) (sm_in (sm_in (sm_in (sm_in (sm_in (sm_in ((have e4 := k3t.1; have k4 := k3t.2; sm_in (Exists.intro 5450 (And.intro (hG.1 125 (Nat.le_of_ble_eq_true rfl)) (And.intro e4 (k4))))))))))))))))))) (fun c3 => have k3f := Eq.mp (if_neg c3) k2t; sm_in (sm_in (And.intro (hG.1 123 (Nat.le_of_ble_eq_true rfl)) (sm_gfr rfl (hG.2 123 24 rfl) (sm_in ((have e5 := k3f.1; have k5 := k3f.2; sm_in (Exists.intro 400 (And.intro (hG.1 134 (Nat.le_of_ble_eq_true rfl)) (And.intro e5 (sm_in (k5)))))))))))))))))))))))))
set_option maxRecDepth 100000 in
theorem w_X11_reckonAll_57 {ex : sm_O} {d n : Nat} {y : sm_Y} {I : Nat → Nat → Int32} {L : Nat → Nat → Int64} {R : Nat → Nat → Option Nat} {Q : sm_Q} {w1 : Option Value} {w2 : Option Value} {w3 : Option Value} {w5 : Option Value} {w6 : Option Value} {a4 : Int32} {s0 : Int32} (hG : sm_G y R) (k : if (I 123 20) = 0 then (vp_in ((((I 123 34) + 98) + (2 * a4)) + 1) 5450 ∧ sm_W ex d 0 0 182 95 [some (.ref 123), w1, w2, w3, some (.int a4), some (.int s0), w6] [.int (I 125 ((((I 123 34) + 98) + (2 * a4)) + 1).toNatClampNeg)] (n, y, I, L, R) Q) else (vp_in a4 400 ∧ sm_W ex d 0 0 182 95 [some (.ref 123), w1, w2, w3, some (.int a4), some (.int s0), w6] [.int (I 135 a4.toNatClampNeg)] (n, y, I, L, R) Q)) : sm_W ex d 0 0 182 57 [some (.ref 123), w1, w2, w3, some (.int a4), w5, w6] [.int s0] (n, y, I, L, R) Q := sm_in (And.intro (Nat.le_of_ble_eq_true rfl) (sm_in (sm_in (And.intro (hG.1 123 (Nat.le_of_ble_eq_true rfl)) (sm_in (And.intro (fun c1 => have k1t := Eq.mp (if_pos c1) k; sm_in (sm_in (And.intro (hG.1 123 (Nat.le_of_ble_eq_true rfl)) (sm_gfr rfl (hG.2 123 3 rfl) (sm_in (sm_in (And.intro (hG.1 123 (Nat.le_of_ble_eq_true rfl)) (sm_in (sm_in (sm_in (sm_in (sm_in (sm_in (sm_in (sm_in ((have e2 := k1t.1; have k2 := k1t.2; sm_in (Exists.intro 5450 (And.intro (hG.1 125 (Nat.le_of_ble_eq_true rfl)) (And.intro e2 (k2))))))))))))))))))))) (fun c1 => have k1f := Eq.mp (if_neg c1) k; sm_in (sm_in (And.intro (hG.1 123 (Nat.le_of_ble_eq_true rfl)) (sm_gfr rfl (hG.2 123 25 rfl) (sm_in ((have e3 := k1f.1; have k3 := k1f.2; sm_in (Exists.intro 400 (And.intro (hG.1 135 (Nat.le_of_ble_eq_true rfl)) (And.intro e3 (sm_in (k3))))))))))))))))))
set_option maxRecDepth 100000 in
theorem w_X11_reckonAll_95 {ex : sm_O} {d n : Nat} {y : sm_Y} {I : Nat → Nat → Int32} {L : Nat → Nat → Int64} {R : Nat → Nat → Option Nat} {Q : sm_Q} {w1 : Option Value} {w6 : Option Value} {a2 : Int32} {a3 : Int32} {a4 : Int32} {a5 : Int32} {s0 : Int32} {d1 : Nat} (hG : sm_G y R) (hdep : 2 ≤ d) (h1 : d1 < d) (k : if 20 ≤ a5 then (if 28 ≤ a5 then (if a5 = 28 then (vp_in (a3 - 1) 400 ∧ sm_W ex d 0 0 182 10 [some (.ref 123), w1, some (.int a2), some (.int a3), some (.int (a4 + 1)), some (.int a5), some (.int s0)] [] (n, y, I, sm_st L 143 ((a3 - 1).toNatClampNeg) (1 - (L 143 (a3 - 1).toNatClampNeg)), R) Q) else (vp_in (a3 - 1) 400 ∧ (if a5 = 29 then (if (lg_cmp (L 143 (a3 - 1).toNatClampNeg) 0) = 0 then (sm_W ex d 0 0 182 10 [some (.ref 123), w1, some (.int a2), some (.int a3), some (.int s0), some (.int a5), some (.int s0)] [] (n, y, I, L, R) Q) else (sm_W ex d 0 0 182 10 [some (.ref 123), w1, some (.int a2), some (.int (a3 + (-1))), some (.int (a4 + 1)), some (.int a5), some (.int s0)] [] (n, y, I, L, R) Q)) else (if (lg_cmp (L 143 (a3 - 1).toNatClampNeg) 1) = 0 then (sm_W ex d 0 0 182 10 [some (.ref 123), w1, some (.int a2), some (.int a3), some (.int s0), some (.int a5), some (.int s0)] [] (n, y, I, L, R) Q) else (sm_W ex d 0 0 182 10 [some (.ref 123), w1, some (.int a2), some (.int (a3 + (-1))), some (.int (a4 + 1)), some (.int a5), some (.int s0)] [] (n, y, I, L, R) Q))))) else (vp_in ((a3 + (-1)) - 1) 400 ∧ vp_in (a3 + (-1)) 400 ∧ sm_W ex d1 0 0 181 0 [some (.ref 123), some (.int a5), some (.long (L 143 ((a3 + (-1)) - 1).toNatClampNeg)), none, some (.long (L 143 (a3 + (-1)).toNatClampNeg)), none] [] (n, y, I, L, R) (fun r μ1 => sm_W ex d 0 0 182 227 [some (.ref 123), w1, some (.int a2), some (.int (a3 + (-1))), some (.int (a4 + 1)), some (.int a5), some (.int s0)] (r.toList ++ [.int ((a3 + (-1)) - 1), .ref 143]) μ1 Q))) else (if a5 = 0 then (vp_in a3 400 ∧ sm_W ex d 0 0 182 10 [some (.ref 123), w1, some (.int a2), some (.int (a3 + 1)), some (.int (a4 + 1)), some (.int a5), some (.int s0)] [] (n, y, I, sm_st L 143 a3.toNatClampNeg s0.toInt64, R) Q) else (if (I 123 20) = 0 then (vp_in a5 13 ∧ vp_in a3 400 ∧ sm_W ex d 0 0 182 10 [some (.ref 123), w1, some (.int a2), some (.int (a3 + 1)), some (.int (a4 + 1)), some (.int a5), some (.int s0)] [] (n, y, I, sm_st L 143 a3.toNatClampNeg (L 141 a5.toNatClampNeg), R) Q) else (if 7 ≤ a5 then (if 0 ≤ s0 ∧ s0 < I 125 0 then (vp_in (10 + s0) 5450 ∧ vp_in a3 400 ∧ sm_W ex d 0 0 182 10 [some (.ref 123), w1, some (.int a2), some (.int (a3 + 1)), some (.int (a4 + 1)), some (.int a5), some (.int s0)] [] (n, y, I, sm_st L 143 a3.toNatClampNeg ((I 125 (10 + s0).toNatClampNeg).toInt64), R) Q) else (vp_in a3 400 ∧ sm_W ex d 0 0 182 10 [some (.ref 123), w1, some (.int a2), some (.int (a3 + 1)), some (.int (a4 + 1)), some (.int a5), some (.int s0)] [] (n, y, I, sm_st L 143 a3.toNatClampNeg (-1), R) Q)) else (vp_in a5 13 ∧ vp_in a3 400 ∧ sm_W ex d 0 0 182 10 [some (.ref 123), w1, some (.int a2), some (.int (a3 + 1)), some (.int (a4 + 1)), some (.int a5), some (.int s0)] [] (n, y, I, sm_st L 143 a3.toNatClampNeg (L 142 a5.toNatClampNeg), R) Q))))) : sm_W ex d 0 0 182 95 [some (.ref 123), w1, some (.int a2), some (.int a3), some (.int a4), some (.int a5), w6] [.int s0] (n, y, I, L, R) Q := sm_in (And.intro (Nat.le_of_ble_eq_true rfl) (sm_in (And.intro (Nat.le_of_ble_eq_true rfl) (sm_in (sm_in (sm_in (And.intro (fun c1 => have k1t := Eq.mp (if_pos c1) k; sm_in (sm_in (sm_in (And.intro (fun c2 => have k2t := Eq.mp (if_pos c2) k1t; sm_in (sm_in (sm_in (And.intro (fun c3 => have k3f := Eq.mp (if_neg c3) k2t; sm_in (sm_in (And.intro (hG.1 123 (Nat.le_of_ble_eq_true rfl)) (sm_gfr rfl (hG.2 123 37 rfl) (sm_in (sm_in (sm_in ((have e5 := k3f.1; have k5 := k3f.2; sm_in (Exists.intro 400 (And.intro (hG.1 143 (Nat.le_of_ble_eq_true rfl)) (And.intro e5 (sm_in (sm_in (sm_in (And.intro (fun c6 => have k6f := Eq.mp (if_neg c6) k5; sm_in (sm_in (sm_in (And.intro (fun c8 => have k8f := Eq.mp (if_neg c8) k6f; sm_in (And.intro (Nat.le_of_ble_eq_true rfl) (sm_in (k8f)))) (fun c8 => have k8t := Eq.mp (if_pos c8) k6f; sm_in (sm_in (And.intro (Nat.le_of_ble_eq_true rfl) (sm_in (sm_in (k8t)))))))))) (fun c6 => have k6t := Eq.mp (if_pos c6) k5; sm_in (sm_in (sm_in (sm_in (And.intro (fun c7 => have k7f := Eq.mp (if_neg c7) k6t; sm_in (And.intro (Nat.le_of_ble_eq_true rfl) (sm_in (k7f)))) (fun c7 => have k7t := Eq.mp (if_pos c7) k6t; sm_in (sm_in (And.intro (Nat.le_of_ble_eq_true rfl) (sm_in (sm_in (k7t))))))))))))))))))))))))))) (fun c3 => have k3t := Eq.mp (if_pos c3) k2t; sm_in (sm_in (And.intro (hG.1 123 (Nat.le_of_ble_eq_true rfl)) (sm_gfr rfl (hG.2 123 37 rfl) (sm_in (sm_in (sm_in (sm_in (sm_in (sm_in (And.intro (hG.1 123 (Nat.le_of_ble_eq_true rfl)) (sm_gfr rfl (hG.2 123 37 rfl) (sm_in (sm_in (sm_in ((have e4 := k3t.1; have k4 := k3t.2; sm_in (Exists.intro 400 (And.intro (hG.1 143 (Nat.le_of_ble_eq_true rfl)) (And.intro e4 (sm_in (sm_in (Exists.intro 400 (And.intro (hG.1 143 (Nat.le_of_ble_eq_true rfl)) (And.intro e4 (sm_in (sm_in (k4)))))))))))))))))))))))))))))))) (fun c2 => have k2f := Eq.mp (if_neg c2) k1t; sm_in (And.intro (Nat.le_of_ble_eq_true rfl) (sm_in (sm_in (And.intro (hG.1 123 (Nat.le_of_ble_eq_true rfl)) (sm_gfr rfl (hG.2 123 37 rfl) (sm_in (sm_in (sm_in (sm_in (sm_in (sm_in (sm_in (And.intro (hG.1 123 (Nat.le_of_ble_eq_true rfl)) (sm_gfr rfl (hG.2 123 37 rfl) (sm_in (sm_in (sm_in ((have e9 := k2f.1; have k9 := k2f.2; sm_in (Exists.intro 400 (And.intro (hG.1 143 (Nat.le_of_ble_eq_true rfl)) (And.intro e9 (sm_in (sm_in (And.intro (hG.1 123 (Nat.le_of_ble_eq_true rfl)) (sm_gfr rfl (hG.2 123 37 rfl) (sm_in ((have e10 := k9.1; have k10 := k9.2; sm_in (Exists.intro 400 (And.intro (hG.1 143 (Nat.le_of_ble_eq_true rfl)) (And.intro e10 (sm_in (Exists.intro 11 (And.intro (hG.1 123 (Nat.le_of_ble_eq_true rfl)) (And.intro rfl (sm_calln h1 (Nat.le_of_ble_eq_true rfl) (Nat.le_of_ble_eq_true rfl) k10)))))))))))))))))))))))))))))))))))))))))) (fun c1 => have k1f := Eq.mp (if_neg c1) k; sm_in (sm_in (And.intro (hG.1 123 (Nat.le_of_ble_eq_true rfl)) (sm_gfr rfl (hG.2 123 37 rfl) (sm_in (sm_in (sm_in (And.intro (fun c11 => have k11f := Eq.mp (if_neg c11) k1f; sm_in (sm_in (And.intro (hG.1 123 (Nat.le_of_ble_eq_true rfl)) (sm_in (And.intro (fun c13 => have k13f := Eq.mp (if_neg c13) k11f; sm_in (sm_in (sm_in (And.intro (fun c16 => have k16t := Eq.mp (if_pos c16) k13f; sm_in (sm_in (sm_in (Exists.intro 11 (And.intro (hG.1 123 (Nat.le_of_ble_eq_true rfl)) (And.intro rfl (sm_calln (d1 := 1) (Nat.lt_of_lt_of_le (Nat.lt_succ_self 1) (Nat.le_trans (Nat.le_of_ble_eq_true rfl) hdep)) (Nat.le_of_ble_eq_true rfl) (Nat.le_of_ble_eq_true rfl) (c_X11_isMan hG (sm_in (And.intro (fun c17 => have k17f := Eq.mp (if_neg (sm_b_0.mp c17)) k16t; sm_in ((have e20 := k17f.1; have k20 := k17f.2; sm_in (Exists.intro 400 (And.intro (hG.1 143 (Nat.le_of_ble_eq_true rfl)) (And.intro e20 (sm_in (And.intro (Nat.le_of_ble_eq_true rfl) (sm_in (sm_in (k20))))))))))) (fun c17 => have k17t := Eq.mp (if_pos (sm_b_n.mp c17)) k16t; sm_in (sm_in (And.intro (hG.1 123 (Nat.le_of_ble_eq_true rfl)) (sm_gfr rfl (hG.2 123 3 rfl) (sm_in (sm_in (sm_in ((have e18 := k17t.1; have k18 := k17t.2; sm_in (Exists.intro 5450 (And.intro (hG.1 125 (Nat.le_of_ble_eq_true rfl)) (And.intro e18 (sm_in (sm_in ((have e19 := k18.1; have k19 := k18.2; sm_in (Exists.intro 400 (And.intro (hG.1 143 (Nat.le_of_ble_eq_true rfl)) (And.intro e19 (sm_in (And.intro (Nat.le_of_ble_eq_true rfl) (sm_in (sm_in (k19)))))))))))))))))))))))))))))))))) (fun c16 => have k16f := Eq.mp (if_neg c16) k13f; sm_in (sm_in (And.intro (hG.1 123 (Nat.le_of_ble_eq_true rfl)) (sm_gfr rfl (hG.2 123 36 rfl) (sm_in ((have e21 := k16f.1; have k21 := k16f.2; sm_in (Exists.intro 13 (And.intro (hG.1 142 (Nat.le_of_ble_eq_true rfl)) (And.intro e21 (sm_in ((have e22 := k21.1; have k22 := k21.2; sm_in (Exists.intro 400 (And.intro (hG.1 143 (Nat.le_of_ble_eq_true rfl)) (And.intro e22 (sm_in (And.intro (Nat.le_of_ble_eq_true rfl) (sm_in (sm_in (k22))))))))))))))))))))))))) (fun c13 => have k13t := Eq.mp (if_pos c13) k11f; sm_in (sm_in (And.intro (hG.1 123 (Nat.le_of_ble_eq_true rfl)) (sm_gfr rfl (hG.2 123 35 rfl) (sm_in ((have e14 := k13t.1; have k14 := k13t.2; sm_in (Exists.intro 13 (And.intro (hG.1 141 (Nat.le_of_ble_eq_true rfl)) (And.intro e14 (sm_in ((have e15 := k14.1; have k15 := k14.2; sm_in (Exists.intro 400 (And.intro (hG.1 143 (Nat.le_of_ble_eq_true rfl)) (And.intro e15 (sm_in (And.intro (Nat.le_of_ble_eq_true rfl) (sm_in (sm_in (k15)))))))))))))))))))))))))) (fun c11 => have k11t := Eq.mp (if_pos c11) k1f; sm_in (sm_in (sm_in ((have e12 := k11t.1; have k12 := k11t.2; sm_in (Exists.intro 400 (And.intro (hG.1 143 (Nat.le_of_ble_eq_true rfl)) (And.intro e12 (sm_in (And.intro (Nat.le_of_ble_eq_true rfl) (sm_in (sm_in (k12))))))))))))))))))))))))))))
set_option maxRecDepth 100000 in
theorem w_X11_reckonAll_227 {ex : sm_O} {d n : Nat} {y : sm_Y} {I : Nat → Nat → Int32} {L : Nat → Nat → Int64} {R : Nat → Nat → Option Nat} {Q : sm_Q} {w1 : Option Value} {w2 : Option Value} {w4 : Option Value} {w5 : Option Value} {w6 : Option Value} {a3 : Int32} {s0 : Int64} {s1 : Int32} (hG : sm_G y R) (hdep : 1 ≤ d) (k : vp_in s1 400 ∧ (if (I 123 38) = 0 then (vp_in (a3 - 1) 400 ∧ (if (-1000000000 : Int64) ≤ ((sm_st L 143 s1.toNatClampNeg s0) 143 (a3 - 1).toNatClampNeg) ∧ ((sm_st L 143 s1.toNatClampNeg s0) 143 (a3 - 1).toNatClampNeg) ≤ (1000000000 : Int64) then (sm_W ex d 0 0 182 10 [some (.ref 123), w1, w2, some (.int a3), w4, w5, w6] [] (n, y, sm_st I 123 38 0, sm_st L 143 s1.toNatClampNeg s0, R) Q) else (sm_W ex d 0 0 182 10 [some (.ref 123), w1, w2, some (.int a3), w4, w5, w6] [] (n, y, sm_st I 123 38 1, sm_st L 143 s1.toNatClampNeg s0, R) Q))) else (sm_W ex d 0 0 182 10 [some (.ref 123), w1, w2, some (.int a3), w4, w5, w6] [] (n, y, sm_st I 123 38 1, sm_st L 143 s1.toNatClampNeg s0, R) Q))) : sm_W ex d 0 0 182 227 [some (.ref 123), w1, w2, some (.int a3), w4, w5, w6] [.long s0, .int s1, .ref 143] (n, y, I, L, R) Q := (have e1 := k.1; have k1 := k.2; sm_in (Exists.intro 400 (And.intro (hG.1 143 (Nat.le_of_ble_eq_true rfl)) (And.intro e1 (sm_in (sm_in (sm_in (And.intro (hG.1 123 (Nat.le_of_ble_eq_true rfl)) (sm_in (And.intro (fun c2 => have k2f := Eq.mp (if_neg c2) k1; sm_in (sm_in (sm_in (And.intro (hG.1 123 (Nat.le_of_ble_eq_true rfl)) (And.intro (Or.inr rfl) (sm_in (sm_in (k2f)))))))) (fun c2 => have k2t := Eq.mp (if_pos c2) k1; sm_in (sm_in (And.intro (hG.1 123 (Nat.le_of_ble_eq_true rfl)) (sm_gfr rfl (hG.2 123 37 rfl) (sm_in (sm_in (sm_in ((have e3 := k2t.1; have k3 := k2t.2; sm_in (Exists.intro 400 (And.intro (hG.1 143 (Nat.le_of_ble_eq_true rfl)) (And.intro e3 (sm_in (sm_in (sm_in (And.intro (Nat.le_of_ble_eq_true rfl) (sm_calln (d1 := 0) (Nat.lt_of_lt_of_le (Nat.lt_succ_self 0) (Nat.le_trans (Nat.le_of_ble_eq_true rfl) hdep)) (Nat.le_of_ble_eq_true rfl) (Nat.le_of_ble_eq_true rfl) (c_X11_in  (sm_in (And.intro (fun c4 => have k4t := Eq.mp (if_pos (sm_b_n.mp c4)) k3; sm_in (sm_in (And.intro (hG.1 123 (Nat.le_of_ble_eq_true rfl)) (And.intro (Or.inl rfl) (sm_in (sm_in (k4t))))))) (fun c4 => have k4f := Eq.mp (if_neg (sm_b_0.mp c4)) k3; sm_in (sm_in (sm_in (And.intro (hG.1 123 (Nat.le_of_ble_eq_true rfl)) (And.intro (Or.inr rfl) (sm_in (sm_in (k4f))))))))))))))))))))))))))))))))))))))
set_option maxRecDepth 100000 in
theorem w_X11_reckonAll_332 {ex : sm_O} {d n : Nat} {y : sm_Y} {I : Nat → Nat → Int32} {L : Nat → Nat → Int64} {R : Nat → Nat → Option Nat} {Q : sm_Q} {w1 : Option Value} {w2 : Option Value} {w4 : Option Value} {w5 : Option Value} {w6 : Option Value} {a3 : Int32} (hG : sm_G y R) (k : if a3 ≤ 0 then (Q none (n, y, I, sm_st L 123 39 0, R)) else (Q none (n, y, I, sm_st L 123 39 (L 143 0), R))) : sm_W ex d 0 0 182 332 [some (.ref 123), w1, w2, some (.int a3), w4, w5, w6] [] (n, y, I, L, R) Q := sm_in (sm_in (sm_in (And.intro (fun c1 => have k1t := Eq.mp (if_pos c1) k; sm_in (sm_in (And.intro (hG.1 123 (Nat.le_of_ble_eq_true rfl)) (sm_in (And.intro rfl (And.intro rfl k1t)))))) (fun c1 => have k1f := Eq.mp (if_neg c1) k; sm_in (sm_in (And.intro (hG.1 123 (Nat.le_of_ble_eq_true rfl)) (sm_gfr rfl (hG.2 123 37 rfl) (sm_in (sm_in (Exists.intro 400 (And.intro (hG.1 143 (Nat.le_of_ble_eq_true rfl)) (And.intro (sm_lin (by decide)) (sm_in (sm_in (And.intro (hG.1 123 (Nat.le_of_ble_eq_true rfl)) (sm_in (And.intro rfl (And.intro rfl k1f))))))))))))))))))
/-- a part of a sum that is two, joined; none: broken -/
def sp_rk (op : Int32) (a b : Int64) : Option Int64 := if (op = 23 ∨ op = 24) ∧ b = 0 then none else if -1000000000 ≤ rk_val op a b ∧ rk_val op a b ≤ 1000000000 then some (rk_val op a b) else none
/-- the model's code from k on up to e, on a pile (the top first): P of the pile, or of none (broken) -/
def mEv (cd : Nat → Int32 × Int32) (lf : Int32 → Int32 → Int64) (e : Nat) : Nat → Nat → List Int64 → (Option (List Int64) → Prop) → Prop
  | 0, _, _, _ => False
  | f + 1, k, st, P => if k = e then P (some st) else k < e ∧ (if 20 ≤ (cd k).1 then (if 28 ≤ (cd k).1 then (match st with
      | [] => False
      | a :: t => if (cd k).1 = 28 then mEv cd lf e f (k + 1) ((1 - a) :: t) P else if a = (if (cd k).1 = 29 then 0 else 1) then ∃ j, (cd k).2 = nI j ∧ k < j ∧ j ≤ e ∧ mEv cd lf e f j (a :: t) P else mEv cd lf e f (k + 1) t P)
      else (match st with
      | b :: a :: t => (match sp_rk (cd k).1 a b with
        | some v => mEv cd lf e f (k + 1) (v :: t) P
        | none => P none)
      | _ => False))
      else 0 ≤ (cd k).1 ∧ (cd k).1 < 9 ∧ mEv cd lf e f (k + 1) ((if (cd k).1 = 0 then (cd k).2.toInt64 else lf (cd k).1 (cd k).2) :: st) P)
/-- a pile in an array, the top first -/
def stR (g : Nat → Int64) : List Int64 → Prop
  | [] => True
  | a :: t => g t.length = a ∧ stR g t
theorem stR_kept {g g' : Nat → Int64} : ∀ (t : List Int64), (∀ i, i < t.length → g' i = g i) → stR g t → stR g' t
  | [], _, _ => trivial
  | a :: t, h, hs => ⟨by rw [h _ (by simp)]; exact hs.1, stR_kept t (fun i hi => h i (by simp; omega)) hs.2⟩
theorem stR_push {L : Nat → Nat → Int64} {t : List Int64} (v : Int64) (h : stR (L 143) t) : stR (sm_st L 143 t.length v 143) (v :: t) := ⟨sm_st_s _ _ _ _, stR_kept t (fun i hi => sm_st_j _ _ (by omega)) h⟩
/-- what the model's code is, by its memory -/
def mCd (I : Nat → Nat → Int32) (k : Nat) : Int32 × Int32 := if I 123 20 = 0 then (I 125 ((I 123 34).toNatClampNeg + 98 + 2 * k), I 125 ((I 123 34).toNatClampNeg + 98 + 2 * k + 1)) else (I 134 k, I 135 k)
def mLf (I : Nat → Nat → Int32) (L : Nat → Nat → Int64) (op arg : Int32) : Int64 := if I 123 20 = 0 then L 141 op.toNatClampNeg else if 7 ≤ op then (if 0 ≤ arg ∧ arg < I 125 0 then (I 125 (10 + arg).toNatClampNeg).toInt64 else -1) else L 142 op.toNatClampNeg

theorem sm_i98 (B k : Nat) : (nI B + 98) + 2 * nI k = nI (B + 98 + 2 * k) := by
  rw [show (98 : Int32) = nI 98 from rfl, show (2 : Int32) = nI 2 from rfl, pk_mul, nI_add, nI_add]
/-- what the loop of sums leaves: nothing else is touched -/
def mFr (I I' : Nat → Nat → Int32) (L L' : Nat → Nat → Int64) : Prop := (∀ a j, ¬ (a = 123 ∧ j = 38) → I' a j = I a j) ∧ ∀ a j, a ≠ 143 → L' a j = L a j
theorem mFr.rfl' (I : Nat → Nat → Int32) (L : Nat → Nat → Int64) : mFr I I L L := ⟨fun _ _ _ => rfl, fun _ _ _ => rfl⟩
theorem mFr.trans {I I' I2 : Nat → Nat → Int32} {L L' L2 : Nat → Nat → Int64} (h1 : mFr I I' L L') (h2 : mFr I' I2 L' L2) : mFr I I2 L L2 := ⟨fun a j h => (h2.1 a j h).trans (h1.1 a j h), fun a j h => (h2.2 a j h).trans (h1.2 a j h)⟩
theorem mFr.L1 (I : Nat → Nat → Int32) (L : Nat → Nat → Int64) (i : Nat) (v : Int64) : mFr I I L (sm_st L 143 i v) := ⟨fun _ _ _ => rfl, fun _ _ h => sm_st_o _ _ h⟩
theorem mFr.I1 (I : Nat → Nat → Int32) (L : Nat → Nat → Int64) (v : Int32) : mFr I (sm_st I 123 38 v) L L := ⟨fun a j h => by
  by_cases ha : a = 123
  · exact sm_st_j _ _ (fun hj => h ⟨ha, hj⟩)
  · exact sm_st_o _ _ ha, fun _ _ _ => rfl⟩
theorem mFr.rk (I : Nat → Nat → Int32) (L : Nat → Nat → Int64) (op : Int32) (b : Int64) : mFr I (rk_mem op b I) L L := by
  unfold rk_mem
  split
  · exact mFr.I1 I L _
  · exact mFr.rfl' I L
theorem mCd_kept {I I' : Nat → Nat → Int32} {L L' : Nat → Nat → Int64} (h : mFr I I' L L') (k : Nat) : mCd I' k = mCd I k := by
  unfold mCd
  rw [h.1 123 20 (by simp), h.1 123 34 (by simp), h.1 125 _ (by simp), h.1 125 _ (by simp), h.1 134 _ (by simp), h.1 135 _ (by simp)]
theorem mLf_kept {I I' : Nat → Nat → Int32} {L L' : Nat → Nat → Int64} (h : mFr I I' L L') (op arg : Int32) : mLf I' L' op arg = mLf I L op arg := by
  unfold mLf
  rw [h.1 123 20 (by simp), h.1 125 _ (by simp), h.1 125 _ (by simp), h.2 141 _ (by simp), h.2 142 _ (by simp)]
def mOut (o : Option (List Int64)) (I' : Nat → Nat → Int32) (L' : Nat → Nat → Int64) (nn : Int32) : Prop := match o with
  | some st' => I' 123 38 = 0 ∧ stR (L' 143) st' ∧ nn = nI st'.length
  | none => I' 123 38 = 1
set_option maxHeartbeats 1000000 in
theorem lp_reckonAll {ex : sm_O} {d n e B : Nat} {y : sm_Y} {R : Nat → Nat → Option Nat} {Q : sm_Q} {cd : Nat → Int32 × Int32} {lf : Int32 → Int32 → Int64} {P : Option (List Int64) → Prop} (hd : 2 ≤ d) (hG : sm_G y R) (he : e ≤ 400) (hB : B + 98 + 2 * 400 + 1 < 5450) :
    ∀ (f k : Nat) (st : List Int64) (I : Nat → Nat → Int32) (L : Nat → Nat → Int64) (w1 w5 w6 : Option Value), (∀ j, cd j = mCd I j) → (∀ op arg, lf op arg = mLf I L op arg) → (I 123 20 = 0 → I 123 34 = nI B) → (∃ m, m ≤ 7 ∧ I 125 0 = nI m) → I 123 38 = 0 → stR (L 143) st → st.length ≤ k → mEv cd lf e f k st P →
    (∀ (o : Option (List Int64)) (I' : Nat → Nat → Int32) (L' : Nat → Nat → Int64) (nn kk : Int32) (v1 v5 v6 : Option Value), P o → mFr I I' L L' → mOut o I' L' nn → sm_W ex d 0 0 182 332 [some (.ref 123), v1, some (.int (nI e)), some (.int nn), some (.int kk), v5, v6] [] (n, y, I', L', R) Q) →
    sm_W ex d 0 0 182 10 [some (.ref 123), w1, some (.int (nI e)), some (.int (nI st.length)), some (.int (nI k)), w5, w6] [] (n, y, I, L, R) Q := by
  intro f
  induction f with
  | zero => intro k st I L w1 w5 w6 _ _ _ _ _ _ _ h; exact h.elim
  | succ f ih =>
    intro k st I L w1 w5 w6 hcd hlf hb hm h38 hst hl h kk
    unfold mEv at h
    by_cases hke : k = e
    · rw [if_pos hke] at h
      subst hke
      refine w_X11_reckonAll_10 hG ?_
      rw [if_pos (Int32.le_refl _)]
      exact kk _ I L _ _ _ _ _ h (mFr.rfl' I L) ⟨h38, hst, rfl⟩
    · rw [if_neg hke] at h
      obtain ⟨hlt, h⟩ := h
      have hk4 : k < 400 := by omega
      have hsl : st.length < 400 := by omega
      -- the op and its argument
      have hop : ∀ (w : Option Value), sm_W ex d 0 0 182 95 [some (.ref 123), w1, some (.int (nI e)), some (.int (nI st.length)), some (.int (nI k)), some (.int (cd k).1), w6] [.int (cd k).2] (n, y, I, L, R) Q → sm_W ex d 0 0 182 10 [some (.ref 123), w1, some (.int (nI e)), some (.int (nI st.length)), some (.int (nI k)), w5, w6] [] (n, y, I, L, R) Q := by
        intro w hw
        refine w_X11_reckonAll_10 hG ?_
        rw [if_neg (by rw [nI_leI (by omega) (by omega)]; omega), if_pos h38]
        by_cases h20 : I 123 20 = 0
        · rw [if_pos h20, hb h20, sm_i98]
          refine ⟨vp_in_nI (by omega) (by decide), ?_⟩
          refine w_X11_reckonAll_57 hG ?_
          rw [if_pos h20, hb h20, sm_i98, nI_1]
          refine ⟨vp_in_nI (by omega) (by decide), ?_⟩
          rw [nI_clamp (by omega), nI_clamp (by omega)]
          rw [hcd k, mCd, if_pos h20, hb h20, nI_clamp (by omega)] at hw
          exact hw
        · rw [if_neg h20]
          refine ⟨vp_in_nI (by omega) (by decide), ?_⟩
          refine w_X11_reckonAll_57 hG ?_
          rw [if_neg h20]
          refine ⟨vp_in_nI (by omega) (by decide), ?_⟩
          rw [nI_clamp (by omega)]
          rw [hcd k, mCd, if_neg h20] at hw
          exact hw
      refine hop none ?_
      -- one more step, with what is kept
      have more : ∀ (k' : Nat) (st' : List Int64) (I' : Nat → Nat → Int32) (L' : Nat → Nat → Int64) (v1 v5 v6 : Option Value), mFr I I' L L' → I' 123 38 = 0 → stR (L' 143) st' → st'.length ≤ k' → mEv cd lf e f k' st' P → sm_W ex d 0 0 182 10 [some (.ref 123), v1, some (.int (nI e)), some (.int (nI st'.length)), some (.int (nI k')), v5, v6] [] (n, y, I', L', R) Q := by
        intro k' st' I' L' v1 v5 v6 hf h38' hst' hl' h'
        refine ih k' st' I' L' v1 v5 v6 (fun j => by rw [hcd j, mCd_kept hf]) (fun op arg => by rw [hlf, mLf_kept hf]) (fun h20 => by rw [hf.1 123 34 (by simp)]; exact hb (by rw [← hf.1 123 20 (by simp)]; exact h20)) (by rw [hf.1 125 0 (by simp)]; exact hm) h38' hst' hl' h' ?_
        intro o I2 L2 nn kx u1 u5 u6 hP hf2 ho
        exact kk o I2 L2 nn kx u1 u5 u6 hP (hf.trans hf2) ho
      refine w_X11_reckonAll_95 (d1 := 0) hG hd (by omega) ?_
      by_cases h20 : 20 ≤ (cd k).1
      · rw [if_pos h20] at h ⊢
        by_cases h28 : 28 ≤ (cd k).1
        · rw [if_pos h28] at h ⊢
          match st, h, hst, hl, hsl with
          | a :: t, h, hst, hl, hsl =>
            dsimp only at h
            have e1 : nI (a :: t).length - 1 = nI t.length := nI_pred t.length
            have hin : vp_in (nI t.length) 400 := vp_in_nI (by simp at hsl; omega) (by decide)
            have hct : (nI t.length).toNatClampNeg = t.length := nI_clamp (by simp at hsl; omega)
            by_cases h0 : (cd k).1 = 28
            · rw [if_pos h0] at h ⊢
              rw [e1]
              refine ⟨hin, ?_⟩
              rw [hct, hst.1, sm_n1]
              have := more (k + 1) ((1 - a) :: t) I (sm_st L 143 t.length (1 - a)) w1 (some (.int (cd k).1)) (some (.int (cd k).2)) (mFr.L1 I L _ _) h38 (stR_push _ hst.2) (by simp at hl ⊢; omega) h
              exact this
            · rw [if_neg h0] at h ⊢
              rw [e1]
              refine ⟨hin, ?_⟩
              rw [hct, hst.1]
              simp only [sm_cmp_eq]
              have hjump : ∀ (c : Int64), (a = c → ∃ j, (cd k).2 = nI j ∧ k < j ∧ j ≤ e ∧ mEv cd lf e f j (a :: t) P) → (¬ a = c → mEv cd lf e f (k + 1) t P) → (if a = c then sm_W ex d 0 0 182 10 [some (.ref 123), w1, some (.int (nI e)), some (.int (nI (a :: t).length)), some (.int (cd k).2), some (.int (cd k).1), some (.int (cd k).2)] [] (n, y, I, L, R) Q else sm_W ex d 0 0 182 10 [some (.ref 123), w1, some (.int (nI e)), some (.int (nI (a :: t).length + (-1))), some (.int (nI k + 1)), some (.int (cd k).1), some (.int (cd k).2)] [] (n, y, I, L, R) Q) := by
                intro c hj1 hj2
                split
                · rename_i hac
                  obtain ⟨j, q1, q2, q3, q4⟩ := hj1 hac
                  have := more j (a :: t) I L w1 (some (.int (cd k).1)) (some (.int (cd k).2)) (mFr.rfl' I L) h38 hst (by omega) q4
                  rw [← q1] at this
                  exact this
                · rename_i hac
                  have := more (k + 1) t I L w1 (some (.int (cd k).1)) (some (.int (cd k).2)) (mFr.rfl' I L) h38 hst.2 (by simp at hl; omega) (hj2 hac)
                  rw [show nI (a :: t).length + (-1) = nI t.length from pk_m1 t.length, sm_n1]
                  exact this
              by_cases h29 : (cd k).1 = 29
              · rw [if_pos h29] at h ⊢
                refine hjump 0 (fun q => ?_) (fun q => ?_)
                · rw [if_pos q] at h
                  exact h
                · rw [if_neg q] at h
                  exact h
              · rw [if_neg h29] at h ⊢
                refine hjump 1 (fun q => ?_) (fun q => ?_)
                · rw [if_pos q] at h
                  exact h
                · rw [if_neg q] at h
                  exact h
        · rw [if_neg h28] at h ⊢
          match st, h, hst, hl, hsl with
          | b :: a :: t, h, hst, hl, hsl =>
            dsimp only at h
            have e1 : nI (b :: a :: t).length + (-1) = nI (a :: t).length := pk_m1 (a :: t).length
            have e2 : nI (a :: t).length - 1 = nI t.length := nI_pred t.length
            simp only [List.length_cons] at hsl
            have c1 : (nI (a :: t).length).toNatClampNeg = t.length + 1 := nI_clamp (by simp; omega)
            have c2 : (nI t.length).toNatClampNeg = t.length := nI_clamp (by omega)
            rw [e1, e2]
            refine ⟨vp_in_nI (by omega) (by decide), vp_in_nI (by simp; omega) (by decide), ?_⟩
            rw [c1, c2, show L 143 (t.length + 1) = b from hst.1, show L 143 t.length = a from hst.2.1]
            refine c_X11_reckon hG ?_
            refine w_X11_reckonAll_227 hG (by omega) ?_
            rw [e2]
            refine ⟨vp_in_nI (by omega) (by decide), ?_⟩
            rw [c2, sm_st_s, sm_n1]
            have stop : ∀ (I' : Nat → Nat → Int32) (L' : Nat → Nat → Int64) (v1 v5 v6 : Option Value) (nn kx : Int32), mFr I I' L L' → I' 123 38 = 1 → P none → sm_W ex d 0 0 182 10 [some (.ref 123), v1, some (.int (nI e)), some (.int nn), some (.int kx), v5, v6] [] (n, y, I', L', R) Q := by
              intro I' L' v1 v5 v6 nn kx hf h1 hP
              refine w_X11_reckonAll_10 hG ?_
              split
              · exact kk none I' L' _ _ _ _ _ hP hf h1
              · rw [if_neg (by rw [h1]; decide)]
                exact kk none I' L' _ _ _ _ _ hP hf h1
            have hfr : ∀ (x : Int32) (v : Int64), mFr I (sm_st (rk_mem (cd k).1 b I) 123 38 x) L (sm_st L 143 t.length v) := fun x v => (mFr.rk I L (cd k).1 b).trans ((mFr.I1 _ L x).trans (mFr.L1 _ L _ _))
            have hbr : ((rk_mem (cd k).1 b I) 123 38 = 0) ↔ ¬ (((cd k).1 = 23 ∨ (cd k).1 = 24) ∧ b = 0) := by
              unfold rk_mem
              by_cases q1 : (cd k).1 = 23 ∨ (cd k).1 = 24
              · rw [if_pos q1, sm_st_s]
                by_cases q2 : b = 0
                · simp [q1, q2]
                · simp [q2]
              · rw [if_neg q1]
                simp [q1, h38]
            by_cases q : ((cd k).1 = 23 ∨ (cd k).1 = 24) ∧ b = 0
            · have hrk : sp_rk (cd k).1 a b = none := by unfold sp_rk; rw [if_pos q]
              simp only [hrk] at h
              rw [if_neg (fun z => (hbr.mp z) q)]
              exact stop _ _ _ _ _ _ _ (hfr 1 _) (sm_st_s _ _ _ _) h
            · rw [if_pos (hbr.mpr q)]
              refine ⟨vp_in_nI (by omega) (by decide), ?_⟩
              by_cases q2 : -1000000000 ≤ rk_val (cd k).1 a b ∧ rk_val (cd k).1 a b ≤ 1000000000
              · have hrk : sp_rk (cd k).1 a b = some (rk_val (cd k).1 a b) := by unfold sp_rk; rw [if_neg q, if_pos q2]
                simp only [hrk] at h
                rw [if_pos q2]
                exact more (k + 1) (rk_val (cd k).1 a b :: t) _ _ w1 (some (.int (cd k).1)) (some (.int (cd k).2)) (hfr 0 _) (sm_st_s _ _ _ _) (stR_push _ hst.2.2) (by simp at hl ⊢; omega) h
              · have hrk : sp_rk (cd k).1 a b = none := by unfold sp_rk; rw [if_neg q, if_neg q2]
                simp only [hrk] at h
                rw [if_neg q2]
                exact stop _ _ _ _ _ _ _ (hfr 1 _) (sm_st_s _ _ _ _) h
      · rw [if_neg h20] at h ⊢
        obtain ⟨g0, g9, h⟩ := h
        have hin : vp_in (nI st.length) 400 := vp_in_nI hsl (by decide)
        have hct : (nI st.length).toNatClampNeg = st.length := nI_clamp (by omega)
        have h13 : vp_in (cd k).1 13 := by
          rw [vp_in_iff]
          rw [Int32.le_iff_toInt_le] at g0
          rw [Int32.lt_iff_toInt_lt] at g9
          have z0 : (0 : Int32).toInt = 0 := rfl
          have z9 : (9 : Int32).toInt = 9 := rfl
          omega
        have push : ∀ v : Int64, mEv cd lf e f (k + 1) (v :: st) P → sm_W ex d 0 0 182 10 [some (.ref 123), w1, some (.int (nI e)), some (.int (nI st.length + 1)), some (.int (nI k + 1)), some (.int (cd k).1), some (.int (cd k).2)] [] (n, y, I, sm_st L 143 st.length v, R) Q := by
          intro v hv
          rw [sm_n1, sm_n1]
          exact more (k + 1) (v :: st) I _ w1 (some (.int (cd k).1)) (some (.int (cd k).2)) (mFr.L1 I L _ _) h38 (stR_push v hst) (by simp; omega) hv
        rw [hct]
        by_cases h0 : (cd k).1 = 0
        · rw [if_pos h0] at h ⊢
          exact ⟨hin, push _ h⟩
        · rw [if_neg h0] at h ⊢
          rw [hlf, mLf] at h
          by_cases hm20 : I 123 20 = 0
          · rw [if_pos hm20] at h ⊢
            exact ⟨h13, hin, push _ h⟩
          · rw [if_neg hm20] at h ⊢
            by_cases h7 : 7 ≤ (cd k).1
            · rw [if_pos h7] at h ⊢
              by_cases hman : 0 ≤ (cd k).2 ∧ (cd k).2 < I 125 0
              · rw [if_pos hman] at h ⊢
                obtain ⟨m, hm7, hm0⟩ := hm
                refine ⟨?_, hin, push _ h⟩
                obtain ⟨q, hq, hq2⟩ := nI_of (Int32.not_lt.mpr hman.1)
                rw [hq2] at hman ⊢
                have : q < m := (nI_ltI hq (by omega)).mp (by rw [← hm0]; exact hman.2)
                exact sm_ci10 (by omega) (by decide)
              · rw [if_neg hman] at h ⊢
                exact ⟨hin, push _ h⟩
            · rw [if_neg h7] at h ⊢
              exact ⟨h13, hin, push _ h⟩
end
section
-- WHAT A LAW TELLS (the model)
/-- the code from a to b pushes what D tells, or breaks -/
def mSeg (cd : Nat → Int32 × Int32) (a b : Nat) (D : (Int32 → Int32 → Int64) → Option Int64) : Prop := a ≤ b ∧ ∀ (lf : Int32 → Int32 → Int64) (e : Nat) (st : List Int64) (P : Option (List Int64) → Prop) (f : Nat), b ≤ e → (match D lf with
  | some v => mEv cd lf e f b (v :: st) P
  | none => P none) → ∃ f', mEv cd lf e f' a st P
/-- nothing but the sums' own cells is touched -/
def mFq (I I' : Nat → Nat → Int32) (L L' : Nat → Nat → Int64) : Prop := (∀ a j, ¬ (a = 123 ∧ j = 38) → I' a j = I a j) ∧ ∀ a j, a ≠ 143 → ¬ (a = 123 ∧ (j = 39 ∨ j = 40)) → L' a j = L a j
theorem mFq.rfl' (I : Nat → Nat → Int32) (L : Nat → Nat → Int64) : mFq I I L L := ⟨fun _ _ _ => rfl, fun _ _ _ _ => rfl⟩
theorem mFq.trans {I I' I2 : Nat → Nat → Int32} {L L' L2 : Nat → Nat → Int64} (h1 : mFq I I' L L') (h2 : mFq I' I2 L' L2) : mFq I I2 L L2 := ⟨fun a j h => (h2.1 a j h).trans (h1.1 a j h), fun a j h h' => (h2.2 a j h h').trans (h1.2 a j h h')⟩
theorem mFr.q {I I' : Nat → Nat → Int32} {L L' : Nat → Nat → Int64} (h : mFr I I' L L') : mFq I I' L L' := ⟨h.1, fun a j h1 _ => h.2 a j h1⟩
theorem mFq.v (I : Nat → Nat → Int32) (L : Nat → Nat → Int64) (v : Int64) : mFq I I L (sm_st L 123 39 v) := ⟨fun _ _ _ => rfl, fun a j _ h => by
  by_cases ha : a = 123
  · exact sm_st_j _ _ (fun hj => h ⟨ha, Or.inl hj⟩)
  · exact sm_st_o _ _ ha⟩
theorem mFq.s (I : Nat → Nat → Int32) (L : Nat → Nat → Int64) (v : Int64) : mFq I I L (sm_st L 123 40 v) := ⟨fun _ _ _ => rfl, fun a j _ h => by
  by_cases ha : a = 123
  · exact sm_st_j _ _ (fun hj => h ⟨ha, Or.inr hj⟩)
  · exact sm_st_o _ _ ha⟩
theorem mCd_keptq {I I' : Nat → Nat → Int32} {L L' : Nat → Nat → Int64} (h : mFq I I' L L') (k : Nat) : mCd I' k = mCd I k := by
  unfold mCd
  rw [h.1 123 20 (by simp), h.1 123 34 (by simp), h.1 125 _ (by simp), h.1 125 _ (by simp), h.1 134 _ (by simp), h.1 135 _ (by simp)]
theorem mLf_keptq {I I' : Nat → Nat → Int32} {L L' : Nat → Nat → Int64} (h : mFq I I' L L') : mLf I' L' = mLf I L := by
  funext op arg
  unfold mLf
  rw [h.1 123 20 (by simp), h.1 125 _ (by simp), h.1 125 _ (by simp), h.2 141 _ (by simp) (by simp), h.2 142 _ (by simp) (by simp)]
def mVal (o : Option Int64) (I' : Nat → Nat → Int32) (L' : Nat → Nat → Int64) : Prop := match o with
  | some v => I' 123 38 = 0 ∧ L' 123 39 = v
  | none => I' 123 38 = 1
set_option maxHeartbeats 1000000 in
theorem c_X11_reckonAll {ex : sm_O} {n : Nat} {y : sm_Y} {I : Nat → Nat → Int32} {L : Nat → Nat → Int64} {R : Nat → Nat → Option Nat} {Q : sm_Q} {d a e B : Nat} {w3 w4 w5 w6 : Option Value} {D : (Int32 → Int32 → Int64) → Option Int64} (hd : 2 ≤ d) (hG : sm_G y R) (he : e ≤ 400) (hB : B + 98 + 2 * 400 + 1 < 5450) (hb : I 123 20 = 0 → I 123 34 = nI B) (hm : ∃ m, m ≤ 7 ∧ I 125 0 = nI m) (hs : mSeg (mCd I) a e D)
    (k : ∀ (I' : Nat → Nat → Int32) (L' : Nat → Nat → Int64), mFq I I' L L' → mVal (D (mLf I L)) I' L' → Q none (n, y, I', L', R)) : sm_W ex d 0 0 182 0 [some (.ref 123), some (.int (nI a)), some (.int (nI e)), w3, w4, w5, w6] [] (n, y, I, L, R) Q := by
  refine w_X11_reckonAll_0 hG ?_
  have hf0 : mFq I (sm_st I 123 38 0) L L := (mFr.I1 I L 0).q
  obtain ⟨f, hf⟩ := hs.2 (mLf I L) e [] (fun o => o = (D (mLf I L)).map (fun v => [v])) 1 (Nat.le_refl _) (by
    cases hD : D (mLf I L) with
    | none => rfl
    | some v =>
      show mEv _ _ _ 1 _ _ _
      unfold mEv
      rw [if_pos rfl]
      rfl)
  refine lp_reckonAll (cd := mCd I) (lf := mLf I L) hd hG he hB f a [] _ L _ _ _ (fun j => (mCd_keptq hf0 j).symm) (fun op arg => by rw [mLf_keptq hf0]) (fun h => by rw [hf0.1 123 34 (by simp)]; exact hb (by rw [← hf0.1 123 20 (by simp)]; exact h)) (by rw [hf0.1 125 0 (by simp)]; exact hm) (sm_st_s _ _ _ _) trivial (Nat.zero_le _) hf ?_
  intro o I' L' nn kk v1 v5 v6 ho hfr hout
  have hq := hf0.trans hfr.q
  refine w_X11_reckonAll_332 hG ?_
  cases hD : D (mLf I L) with
  | none =>
    rw [hD] at ho
    cases ho
    have hr : ∀ v : Int64, Q none (n, y, I', sm_st L' 123 39 v, R) := fun v => k I' _ (hq.trans (mFq.v I' L' v)) (by rw [hD]; exact hout)
    split
    · exact hr 0
    · exact hr _
  | some v =>
    rw [hD] at ho
    cases ho
    obtain ⟨h0, hst, hnn⟩ := hout
    subst hnn
    show if nI 1 ≤ 0 then Q none (n, y, I', sm_st L' 123 39 0, R) else Q none (n, y, I', sm_st L' 123 39 (L' 143 0), R)
    rw [if_neg (show ¬ nI 1 ≤ 0 by decide)]
    have hv : L' 143 0 = v := hst.1
    rw [hv]
    exact k I' _ (hq.trans (mFq.v I' L' v)) (by rw [hD]; exact ⟨h0, sm_st_s _ _ _ _⟩)

set_option maxRecDepth 100000 in
theorem w_X11_isSo_0 {ex : sm_O} {d n : Nat} {y : sm_Y} {I : Nat → Nat → Int32} {L : Nat → Nat → Int64} {R : Nat → Nat → Option Nat} {Q : sm_Q} {a1 : Int32} {d1 : Nat} (hG : sm_G y R) (h1 : d1 < d) (k : vp_in (a1 + 5) 5450 ∧ vp_in (a1 + 6) 5450 ∧ (if (I 125 (a1 + 6).toNatClampNeg) ≤ (I 125 (a1 + 5).toNatClampNeg) then (vp_in a1 5450 ∧ (if (I 125 a1.toNatClampNeg) = 3 then (Q (some (.int 1)) (n, y, I, L, R)) else (vp_in (a1 + 3) 5450 ∧ vp_in (a1 + 4) 5450 ∧ sm_W ex d1 0 0 182 0 [some (.ref 123), some (.int (I 125 (a1 + 3).toNatClampNeg)), some (.int (I 125 (a1 + 4).toNatClampNeg)), none, none, none, none] [] (n, y, I, L, R) (fun r μ1 => sm_W ex d 0 0 183 89 [some (.ref 123), some (.int a1)] (r.toList ++ []) μ1 Q)))) else (sm_W ex d1 0 0 182 0 [some (.ref 123), some (.int (I 125 (a1 + 5).toNatClampNeg)), some (.int (I 125 (a1 + 6).toNatClampNeg)), none, none, none, none] [] (n, y, I, L, R) (fun r μ1 => sm_W ex d 0 0 183 41 [some (.ref 123), some (.int a1)] (r.toList ++ []) μ1 Q)))) : sm_W ex d 0 0 183 0 [some (.ref 123), some (.int a1)] [] (n, y, I, L, R) Q := sm_in (sm_in (And.intro (hG.1 123 (Nat.le_of_ble_eq_true rfl)) (sm_gfr rfl (hG.2 123 3 rfl) (sm_in (sm_in (sm_in ((have e1 := k.1; have k1 := k.2; sm_in (Exists.intro 5450 (And.intro (hG.1 125 (Nat.le_of_ble_eq_true rfl)) (And.intro e1 (sm_in (sm_in (And.intro (hG.1 123 (Nat.le_of_ble_eq_true rfl)) (sm_gfr rfl (hG.2 123 3 rfl) (sm_in (sm_in (sm_in ((have e2 := k1.1; have k2 := k1.2; sm_in (Exists.intro 5450 (And.intro (hG.1 125 (Nat.le_of_ble_eq_true rfl)) (And.intro e2 (sm_in (And.intro (fun c3 => have k3t := Eq.mp (if_pos c3) k2; sm_in (sm_in (And.intro (hG.1 123 (Nat.le_of_ble_eq_true rfl)) (sm_gfr rfl (hG.2 123 3 rfl) (sm_in ((have e4 := k3t.1; have k4 := k3t.2; sm_in (Exists.intro 5450 (And.intro (hG.1 125 (Nat.le_of_ble_eq_true rfl)) (And.intro e4 (sm_in (sm_in (And.intro (fun c5 => have k5t := Eq.mp (if_pos c5) k4; sm_in (sm_in (And.intro rfl (And.intro (Or.inr rfl) k5t)))) (fun c5 => have k5f := Eq.mp (if_neg c5) k4; sm_in (sm_in (sm_in (And.intro (hG.1 123 (Nat.le_of_ble_eq_true rfl)) (sm_gfr rfl (hG.2 123 3 rfl) (sm_in (sm_in (sm_in ((have e6 := k5f.1; have k6 := k5f.2; sm_in (Exists.intro 5450 (And.intro (hG.1 125 (Nat.le_of_ble_eq_true rfl)) (And.intro e6 (sm_in (sm_in (And.intro (hG.1 123 (Nat.le_of_ble_eq_true rfl)) (sm_gfr rfl (hG.2 123 3 rfl) (sm_in (sm_in (sm_in ((have e7 := k6.1; have k7 := k6.2; sm_in (Exists.intro 5450 (And.intro (hG.1 125 (Nat.le_of_ble_eq_true rfl)) (And.intro e7 (sm_in (Exists.intro 11 (And.intro (hG.1 123 (Nat.le_of_ble_eq_true rfl)) (And.intro rfl (sm_calln h1 (Nat.le_of_ble_eq_true rfl) (Nat.le_of_ble_eq_true rfl) k7))))))))))))))))))))))))))))))))))))))))))) (fun c3 => have k3f := Eq.mp (if_neg c3) k2; sm_in (sm_in (sm_in (And.intro (hG.1 123 (Nat.le_of_ble_eq_true rfl)) (sm_gfr rfl (hG.2 123 3 rfl) (sm_in (sm_in (sm_in (sm_in (Exists.intro 5450 (And.intro (hG.1 125 (Nat.le_of_ble_eq_true rfl)) (And.intro e1 (sm_in (sm_in (And.intro (hG.1 123 (Nat.le_of_ble_eq_true rfl)) (sm_gfr rfl (hG.2 123 3 rfl) (sm_in (sm_in (sm_in (sm_in (Exists.intro 5450 (And.intro (hG.1 125 (Nat.le_of_ble_eq_true rfl)) (And.intro e2 (sm_in (Exists.intro 11 (And.intro (hG.1 123 (Nat.le_of_ble_eq_true rfl)) (And.intro rfl (sm_calln h1 (Nat.le_of_ble_eq_true rfl) (Nat.le_of_ble_eq_true rfl) k3f)))))))))))))))))))))))))))))))))))))))))))))))))))))
set_option maxRecDepth 100000 in
theorem w_X11_isSo_41 {ex : sm_O} {d n : Nat} {y : sm_Y} {I : Nat → Nat → Int32} {L : Nat → Nat → Int64} {R : Nat → Nat → Option Nat} {Q : sm_Q} {a1 : Int32} {d1 : Nat} (hG : sm_G y R) (h1 : d1 < d) (k : if (I 123 38) = 0 then (if (lg_cmp (L 123 39) 0) = 0 then (Q (some (.int 0)) (n, y, I, L, R)) else (vp_in a1 5450 ∧ (if (I 125 a1.toNatClampNeg) = 3 then (Q (some (.int 1)) (n, y, I, L, R)) else (vp_in (a1 + 3) 5450 ∧ vp_in (a1 + 4) 5450 ∧ sm_W ex d1 0 0 182 0 [some (.ref 123), some (.int (I 125 (a1 + 3).toNatClampNeg)), some (.int (I 125 (a1 + 4).toNatClampNeg)), none, none, none, none] [] (n, y, I, L, R) (fun r μ1 => sm_W ex d 0 0 183 89 [some (.ref 123), some (.int a1)] (r.toList ++ []) μ1 Q))))) else (Q (some (.int 0)) (n, y, I, L, R))) : sm_W ex d 0 0 183 41 [some (.ref 123), some (.int a1)] [] (n, y, I, L, R) Q := sm_in (sm_in (And.intro (hG.1 123 (Nat.le_of_ble_eq_true rfl)) (sm_in (And.intro (fun c1 => have k1f := Eq.mp (if_neg c1) k; sm_in (sm_in (And.intro rfl (And.intro (Or.inl rfl) k1f)))) (fun c1 => have k1t := Eq.mp (if_pos c1) k; sm_in (sm_in (And.intro (hG.1 123 (Nat.le_of_ble_eq_true rfl)) (sm_in (sm_in (sm_in (And.intro (fun c2 => have k2f := Eq.mp (if_neg c2) k1t; sm_in (sm_in (And.intro (hG.1 123 (Nat.le_of_ble_eq_true rfl)) (sm_gfr rfl (hG.2 123 3 rfl) (sm_in ((have e3 := k2f.1; have k3 := k2f.2; sm_in (Exists.intro 5450 (And.intro (hG.1 125 (Nat.le_of_ble_eq_true rfl)) (And.intro e3 (sm_in (sm_in (And.intro (fun c4 => have k4t := Eq.mp (if_pos c4) k3; sm_in (sm_in (And.intro rfl (And.intro (Or.inr rfl) k4t)))) (fun c4 => have k4f := Eq.mp (if_neg c4) k3; sm_in (sm_in (sm_in (And.intro (hG.1 123 (Nat.le_of_ble_eq_true rfl)) (sm_gfr rfl (hG.2 123 3 rfl) (sm_in (sm_in (sm_in ((have e5 := k4f.1; have k5 := k4f.2; sm_in (Exists.intro 5450 (And.intro (hG.1 125 (Nat.le_of_ble_eq_true rfl)) (And.intro e5 (sm_in (sm_in (And.intro (hG.1 123 (Nat.le_of_ble_eq_true rfl)) (sm_gfr rfl (hG.2 123 3 rfl) (sm_in (sm_in (sm_in ((have e6 := k5.1; have k6 := k5.2; sm_in (Exists.intro 5450 (And.intro (hG.1 125 (Nat.le_of_ble_eq_true rfl)) (And.intro e6 (sm_in (Exists.intro 11 (And.intro (hG.1 123 (Nat.le_of_ble_eq_true rfl)) (And.intro rfl (sm_calln h1 (Nat.le_of_ble_eq_true rfl) (Nat.le_of_ble_eq_true rfl) k6))))))))))))))))))))))))))))))))))))))))))) (fun c2 => have k2t := Eq.mp (if_pos c2) k1t; sm_in (sm_in (And.intro rfl (And.intro (Or.inl rfl) k2t)))))))))))))))
set_option maxRecDepth 100000 in
theorem w_X11_isSo_89 {ex : sm_O} {d n : Nat} {y : sm_Y} {I : Nat → Nat → Int32} {L : Nat → Nat → Int64} {R : Nat → Nat → Option Nat} {Q : sm_Q} {w1 : Option Value} (hG : sm_G y R) (k : if (I 123 38) = 0 then (Q (some (.int 1)) (n, y, I, sm_st L 123 40 (L 123 39), R)) else (Q (some (.int 0)) (n, y, I, sm_st L 123 40 (L 123 39), R))) : sm_W ex d 0 0 183 89 [some (.ref 123), w1] [] (n, y, I, L, R) Q := sm_in (sm_in (sm_in (And.intro (hG.1 123 (Nat.le_of_ble_eq_true rfl)) (sm_in (And.intro (hG.1 123 (Nat.le_of_ble_eq_true rfl)) (sm_in (sm_in (And.intro (hG.1 123 (Nat.le_of_ble_eq_true rfl)) (sm_in (And.intro (fun c1 => have k1f := Eq.mp (if_neg c1) k; sm_in (sm_in (And.intro rfl (And.intro (Or.inl rfl) k1f)))) (fun c1 => have k1t := Eq.mp (if_pos c1) k; sm_in (sm_in (sm_in (And.intro rfl (And.intro (Or.inr rfl) k1t)))))))))))))))
/-- what a sum, a test tells by its words; a clause: kind, sum, test -/
abbrev DD : Type := (Nat → Int) → Option Int
abbrev Law : Type := List (Nat × DD × Option DD)
def sp_tb (T : Option DD) (env : Nat → Int) : Bool := match T with
  | none => true
  | some T => match T env with
    | some v => v != 0
    | none => false
/-- what a clause tells, if it holds -/
def sp_cl (c : Nat × DD × Option DD) (env : Nat → Int) : Option Int := if sp_tb c.2.2 env = true then (if c.1 = 3 then some 1 else c.2.1 env) else none
/-- what the last one of a kind that holds tells -/
def sp_told : Law → Nat → (Nat → Int) → Option Int
  | [], _, _ => none
  | c :: t, kd, env => match sp_told t kd env with
    | some v => some v
    | none => if c.1 = kd then sp_cl c env else none
theorem sp_told_snoc (l : Law) (c : Nat × DD × Option DD) (kd : Nat) (env : Nat → Int) : sp_told (l ++ [c]) kd env = match (if c.1 = kd then sp_cl c env else none) with
    | some v => some v
    | none => sp_told l kd env := by
  induction l with
  | nil =>
    simp only [List.nil_append, sp_told]
    cases (if c.1 = kd then sp_cl c env else none) <;> rfl
  | cons x t ih =>
    simp only [List.cons_append, sp_told, ih]
    cases (if c.1 = kd then sp_cl c env else none) <;> rfl
def mWd (lf : Int32 → Int32 → Int64) (i : Nat) : Int := if i < 8 then (lf (nI (i + 1)) 0).toInt else 0
def mD (D : DD) : (Int32 → Int32 → Int64) → Option Int64 := fun lf => (D (mWd lf)).map Int64.ofInt
def cdB (I : Nat → Nat → Int32) (B k : Nat) : Int32 × Int32 := (I 125 (B + 98 + 2 * k), I 125 (B + 98 + 2 * k + 1))
theorem mCd_B {I : Nat → Nat → Int32} {B : Nat} (h : I 123 20 = 0) (hb : I 123 34 = nI B) (hB : B < 2 ^ 31) : mCd I = cdB I B := by
  funext k
  unfold mCd cdB
  rw [if_pos h, hb, nI_clamp hB]
/-- sums are such that they stay within -/
def sp_in (D : DD) : Prop := ∀ env v, D env = some v → -1000000000 ≤ v ∧ v ≤ 1000000000
/-- the clause at place A of the model's row, its code at B -/
def mCl (I : Nat → Nat → Int32) (B A : Nat) (c : Nat × DD × Option DD) : Prop := ∃ a a' t t' : Nat, I 125 A = nI c.1 ∧ c.1 ≤ 3 ∧ I 125 (A + 3) = nI a ∧ I 125 (A + 4) = nI a' ∧ I 125 (A + 5) = nI t ∧ I 125 (A + 6) = nI t' ∧ a' ≤ 400 ∧ t' ≤ 400 ∧ t ≤ t' ∧ (c.1 ≠ 3 → sp_in c.2.1 ∧ mSeg (cdB I B) a a' (mD c.2.1)) ∧ (match c.2.2 with
  | none => t' = t
  | some T => t < t' ∧ sp_in T ∧ mSeg (cdB I B) t t' (mD T))
theorem mCl_kept {I I' : Nat → Nat → Int32} {L L' : Nat → Nat → Int64} {B A : Nat} {c : Nat × DD × Option DD} (h : mFq I I' L L') (hc : mCl I B A c) : mCl I' B A c := by
  have e : ∀ j, I' 125 j = I 125 j := fun j => h.1 125 j (by simp)
  have e2 : cdB I' B = cdB I B := by
    funext k
    unfold cdB
    rw [e, e]
  unfold mCl
  rw [e2]
  simp only [e]
  exact hc
set_option maxHeartbeats 1000000 in
theorem c_X11_isSo {ex : sm_O} {n : Nat} {y : sm_Y} {I : Nat → Nat → Int32} {L : Nat → Nat → Int64} {R : Nat → Nat → Option Nat} {Q : sm_Q} {d B A : Nat} {c : Nat × DD × Option DD} (hd : 3 ≤ d) (hG : sm_G y R) (hB : B ≤ 4550) (hA : A + 7 < 5450) (h20 : I 123 20 = 0) (hb : I 123 34 = nI B) (hm : ∃ m, m ≤ 7 ∧ I 125 0 = nI m) (hc : mCl I B A c)
    (k : ∀ (I' : Nat → Nat → Int32) (L' : Nat → Nat → Int64) (x : Int32), mFq I I' L L' → (match sp_cl c (mWd (mLf I L)) with
      | some v => x = 1 ∧ (c.1 ≠ 3 → L' 123 40 = Int64.ofInt v)
      | none => x = 0) → Q (some (.int x)) (n, y, I', L', R)) : sm_W ex d 0 0 183 0 [some (.ref 123), some (.int (nI A))] [] (n, y, I, L, R) Q := by
  obtain ⟨a, a', t, t', c0, c3, c4, c5, c6, c7, c8, c9, c10, c11, c12⟩ := id hc
  have i5 : nI A + 5 = nI (A + 5) := nI_add A 5
  have i6 : nI A + 6 = nI (A + 6) := nI_add A 6
  have i3 : nI A + 3 = nI (A + 3) := nI_add A 3
  have i4 : nI A + 4 = nI (A + 4) := nI_add A 4
  -- the second half: the sum
  have part2 : ∀ (I1 : Nat → Nat → Int32) (L1 : Nat → Nat → Int64), mFq I I1 L L1 → sp_tb c.2.2 (mWd (mLf I L)) = true → (vp_in (nI A) 5450 ∧ if I1 125 (nI A).toNatClampNeg = 3 then Q (some (.int 1)) (n, y, I1, L1, R) else vp_in (nI (A + 3)) 5450 ∧ vp_in (nI (A + 4)) 5450 ∧ sm_W ex 2 0 0 182 0 [some (.ref 123), some (.int (I1 125 (nI (A + 3)).toNatClampNeg)), some (.int (I1 125 (nI (A + 4)).toNatClampNeg)), none, none, none, none] [] (n, y, I1, L1, R) (fun r μ1 => sm_W ex d 0 0 183 89 [some (.ref 123), some (.int (nI A))] (r.toList ++ []) μ1 Q)) := by
    intro I1 L1 hf ht
    refine ⟨vp_in_nI (by omega) (by decide), ?_⟩
    rw [nI_clamp (by omega), nI_clamp (by omega), nI_clamp (by omega), hf.1 125 A (by simp), hf.1 125 (A + 3) (by simp), hf.1 125 (A + 4) (by simp), c0, c4, c5]
    by_cases h3 : c.1 = 3
    · rw [h3, if_pos (show nI 3 = 3 from rfl)]
      refine k I1 L1 1 hf ?_
      have : sp_cl c (mWd (mLf I L)) = some 1 := by unfold sp_cl; rw [if_pos ht, if_pos h3]
      rw [this]
      exact ⟨rfl, fun q => absurd h3 q⟩
    · rw [if_neg (by rw [sm_of 3, nI_eq (by omega) (by decide)]; exact h3)]
      refine ⟨vp_in_nI (by omega) (by decide), vp_in_nI (by omega) (by decide), ?_⟩
      have h20' : I1 123 20 = 0 := by rw [hf.1 123 20 (by simp)]; exact h20
      have hb' : I1 123 34 = nI B := by rw [hf.1 123 34 (by simp)]; exact hb
      have e2 : mCd I1 = cdB I B := by
        rw [mCd_B h20' hb' (by omega)]
        funext q
        unfold cdB
        rw [hf.1 125 _ (by simp), hf.1 125 _ (by simp)]
      refine c_X11_reckonAll (B := B) (Nat.le_refl 2) hG c8 (by omega) (fun _ => hb') (by rw [hf.1 125 0 (by simp)]; exact hm) (by rw [e2]; exact (c11 h3).2) ?_
      intro I2 L2 hf2 hv
      rw [mLf_keptq hf] at hv
      refine w_X11_isSo_89 hG ?_
      have hcl : sp_cl c (mWd (mLf I L)) = c.2.1 (mWd (mLf I L)) := by unfold sp_cl; rw [if_pos ht, if_neg h3]
      unfold mD at hv
      cases hD : c.2.1 (mWd (mLf I L)) with
      | none =>
        rw [hD] at hv
        rw [if_neg (by rw [show I2 123 38 = 1 from hv]; decide)]
        refine k I2 _ 0 ((hf.trans hf2).trans (mFq.s I2 L2 _)) ?_
        rw [hcl, hD]
      | some v =>
        rw [hD] at hv
        obtain ⟨v0, v1⟩ := hv
        rw [if_pos v0]
        refine k I2 _ 1 ((hf.trans hf2).trans (mFq.s I2 L2 _)) ?_
        rw [hcl, hD]
        exact ⟨rfl, fun _ => by rw [sm_st_s, v1]⟩
  refine w_X11_isSo_0 (d1 := 2) hG (by omega) ?_
  rw [i5, i6, i3, i4]
  refine ⟨vp_in_nI (by omega) (by decide), vp_in_nI (by omega) (by decide), ?_⟩
  rw [nI_clamp (show A + 5 < 2 ^ 31 by omega), nI_clamp (show A + 6 < 2 ^ 31 by omega), c6, c7]
  cases hT : c.2.2 with
  | none =>
    rw [hT] at c12
    subst c12
    rw [if_pos (Int32.le_refl _)]
    exact part2 I L (mFq.rfl' I L) (by rw [hT]; rfl)
  | some T =>
    rw [hT] at c12
    obtain ⟨g1, g2, g3⟩ := c12
    rw [if_neg (by rw [nI_leI (by omega) (by omega)]; omega)]
    refine c_X11_reckonAll (B := B) (Nat.le_refl 2) hG c9 (by omega) (fun _ => hb) hm (by rw [mCd_B h20 hb (by omega)]; exact g3) ?_
    intro I1 L1 hf hv
    refine w_X11_isSo_41 (d1 := 2) hG (by omega) ?_
    rw [i3, i4]
    simp only [sm_cmp_eq]
    unfold mD at hv
    have fail : sp_tb c.2.2 (mWd (mLf I L)) = false → Q (some (.int 0)) (n, y, I1, L1, R) := by
      intro hq
      refine k I1 L1 0 hf ?_
      have : sp_cl c (mWd (mLf I L)) = none := by unfold sp_cl; rw [hq]; rfl
      rw [this]
    cases hD : T (mWd (mLf I L)) with
    | none =>
      rw [hD] at hv
      rw [if_neg (by rw [show I1 123 38 = 1 from hv]; decide)]
      exact fail (by rw [hT]; show (match T (mWd (mLf I L)) with | some v => v != 0 | none => false) = false; rw [hD])
    | some v =>
      rw [hD] at hv
      obtain ⟨v0, v1⟩ := hv
      rw [if_pos v0, v1]
      have hin := g2 _ _ hD
      have hz : Int64.ofInt v = 0 ↔ v = 0 := by
        constructor
        · intro q
          have := congrArg Int64.toInt q
          rw [Int64.toInt_ofInt_of_le (by omega) (by omega)] at this
          exact this
        · intro q
          rw [q]
          rfl
      by_cases hv0 : v = 0
      · rw [if_pos (hz.mpr hv0)]
        exact fail (by rw [hT]; show (match T (mWd (mLf I L)) with | some v => v != 0 | none => false) = false; rw [hD, hv0]; rfl)
      · rw [if_neg (fun q => hv0 (hz.mp q))]
        exact part2 I1 L1 hf (by rw [hT]; show (match T (mWd (mLf I L)) with | some v => v != 0 | none => false) = true; rw [hD]; simpa using hv0)

set_option maxRecDepth 100000 in
theorem w_X11_tells_0 {ex : sm_O} {d n : Nat} {y : sm_Y} {I : Nat → Nat → Int32} {L : Nat → Nat → Int64} {R : Nat → Nat → Option Nat} {Q : sm_Q} {w1 : Option Value} {w5 : Option Value} {w6 : Option Value} {w7 : Option Value} {w8 : Option Value} {w9 : Option Value} {a2 : Int32} {a3 : Int32} {a4 : Int64} {d1 : Nat} (hG : sm_G y R) (h1 : d1 < d) (k : if (I 125 3) = (-1) then (Q (some (.long a4)) (n, y, I, L, R)) else (vp_in (24 + a2) 5450 ∧ vp_in (10 + a2) 5450 ∧ (if a3 = (-1) then (sm_W ex d 0 0 184 153 [some (.ref 123), w1, some (.int a2), some (.int a3), some (.long a4), sm_iv w5, some (.long a4), none, some (.int 0), w9] [] (n, y, sm_st I 123 34 (50 + (900 * (I 125 3))), sm_st (sm_st (sm_st (sm_st (sm_st (sm_st (sm_st (sm_st L 141 1 a2.toInt64) 141 2 ((I 125 (24 + a2).toNatClampNeg).toInt64)) 141 3 ((I 125 (10 + a2).toNatClampNeg).toInt64)) 141 4 ((I 125 9).toInt64)) 141 5 a3.toInt64) 141 6 (-1)) 141 7 ((I 125 4).toInt64)) 141 8 ((I 125 6).toInt64), R) Q) else (sm_W ex d1 0 0 140 0 [some (.ref 123), some (.int a2), some (.int a3), none, none] [] (n, y, sm_st I 123 34 (50 + (900 * (I 125 3))), sm_st (sm_st (sm_st (sm_st (sm_st L 141 1 a2.toInt64) 141 2 ((I 125 (24 + a2).toNatClampNeg).toInt64)) 141 3 ((I 125 (10 + a2).toNatClampNeg).toInt64)) 141 4 ((I 125 9).toInt64)) 141 5 a3.toInt64, R) (fun r μ1 => sm_W ex d 0 0 184 115 [some (.ref 123), w1, some (.int a2), some (.int a3), some (.long a4), w5, w6, w7, w8, w9] (r.toList ++ [.int 6, .ref 141]) μ1 Q))))) : sm_W ex d 0 0 184 0 [some (.ref 123), w1, some (.int a2), some (.int a3), some (.long a4), w5, w6, w7, w8, w9] [] (n, y, I, L, R) Q := sm_in (sm_in (And.intro (hG.1 123 (Nat.le_of_ble_eq_true rfl)) (sm_gfr rfl (hG.2 123 3 rfl) (sm_in (sm_in (Exists.intro 5450 (And.intro (hG.1 125 (Nat.le_of_ble_eq_true rfl)) (And.intro (sm_lin (by decide)) (sm_in (sm_in (And.intro (fun c1 => have k1f := Eq.mp (if_neg c1) k; sm_in (sm_in (sm_in (sm_in (sm_in (And.intro (hG.1 123 (Nat.le_of_ble_eq_true rfl)) (sm_gfr rfl (hG.2 123 3 rfl) (sm_in (sm_in (Exists.intro 5450 (And.intro (hG.1 125 (Nat.le_of_ble_eq_true rfl)) (And.intro (sm_lin (by decide)) (sm_in (sm_in (sm_in (And.intro (hG.1 123 (Nat.le_of_ble_eq_true rfl)) (sm_in (sm_in (And.intro (hG.1 123 (Nat.le_of_ble_eq_true rfl)) (sm_gfr rfl (hG.2 123 35 rfl) (sm_in (sm_in (sm_in (sm_in (Exists.intro 13 (And.intro (hG.1 141 (Nat.le_of_ble_eq_true rfl)) (And.intro (sm_lin (by decide)) (sm_in (sm_in (And.intro (hG.1 123 (Nat.le_of_ble_eq_true rfl)) (sm_gfr rfl (hG.2 123 35 rfl) (sm_in (sm_in (sm_in (And.intro (hG.1 123 (Nat.le_of_ble_eq_true rfl)) (sm_gfr rfl (hG.2 123 3 rfl) (sm_in (sm_in (sm_in ((have e2 := k1f.1; have k2 := k1f.2; sm_in (Exists.intro 5450 (And.intro (hG.1 125 (Nat.le_of_ble_eq_true rfl)) (And.intro e2 (sm_in (sm_in (Exists.intro 13 (And.intro (hG.1 141 (Nat.le_of_ble_eq_true rfl)) (And.intro (sm_lin (by decide)) (sm_in (sm_in (And.intro (hG.1 123 (Nat.le_of_ble_eq_true rfl)) (sm_gfr rfl (hG.2 123 35 rfl) (sm_in (sm_in (sm_in (And.intro (hG.1 123 (Nat.le_of_ble_eq_true rfl)) (sm_gfr rfl (hG.2 123 3 rfl) (sm_in (sm_in (sm_in ((have e3 := k2.1; have k3 := k2.2; sm_in (Exists.intro 5450 (And.intro (hG.1 125 (Nat.le_of_ble_eq_true rfl)) (And.intro e3 (sm_in (sm_in (Exists.intro 13 (And.intro (hG.1 141 (Nat.le_of_ble_eq_true rfl)) (And.intro (sm_lin (by decide)) (sm_in (sm_in (And.intro (hG.1 123 (Nat.le_of_ble_eq_true rfl)) (sm_gfr rfl (hG.2 123 35 rfl) (sm_in (sm_in (sm_in (And.intro (hG.1 123 (Nat.le_of_ble_eq_true rfl)) (sm_gfr rfl (hG.2 123 3 rfl) (sm_in (sm_in (Exists.intro 5450 (And.intro (hG.1 125 (Nat.le_of_ble_eq_true rfl)) (And.intro (sm_lin (by decide)) (sm_in (sm_in (Exists.intro 13 (And.intro (hG.1 141 (Nat.le_of_ble_eq_true rfl)) (And.intro (sm_lin (by decide)) (sm_in (sm_in (And.intro (hG.1 123 (Nat.le_of_ble_eq_true rfl)) (sm_gfr rfl (hG.2 123 35 rfl) (sm_in (sm_in (sm_in (sm_in (Exists.intro 13 (And.intro (hG.1 141 (Nat.le_of_ble_eq_true rfl)) (And.intro (sm_lin (by decide)) (sm_in (sm_in (And.intro (hG.1 123 (Nat.le_of_ble_eq_true rfl)) (sm_gfr rfl (hG.2 123 35 rfl) (sm_in (sm_in (sm_in (sm_in (And.intro (fun c4 => have k4f := Eq.mp (if_neg c4) k3; sm_in (sm_in (sm_in (sm_in (Exists.intro 11 (And.intro (hG.1 123 (Nat.le_of_ble_eq_true rfl)) (And.intro rfl (sm_calln h1 (Nat.le_of_ble_eq_true rfl) (Nat.le_of_ble_eq_true rfl) k4f)))))))) (fun c4 => have k4t := Eq.mp (if_pos c4) k3; sm_in (sm_in (sm_in (Exists.intro 13 (And.intro (hG.1 141 (Nat.le_of_ble_eq_true rfl)) (And.intro (sm_lin (by decide)) (sm_in (sm_in (And.intro (hG.1 123 (Nat.le_of_ble_eq_true rfl)) (sm_gfr rfl (hG.2 123 35 rfl) (sm_in (sm_in (sm_in (And.intro (hG.1 123 (Nat.le_of_ble_eq_true rfl)) (sm_gfr rfl (hG.2 123 3 rfl) (sm_in (sm_in (Exists.intro 5450 (And.intro (hG.1 125 (Nat.le_of_ble_eq_true rfl)) (And.intro (sm_lin (by decide)) (sm_in (sm_in (Exists.intro 13 (And.intro (hG.1 141 (Nat.le_of_ble_eq_true rfl)) (And.intro (sm_lin (by decide)) (sm_in (sm_in (And.intro (hG.1 123 (Nat.le_of_ble_eq_true rfl)) (sm_gfr rfl (hG.2 123 35 rfl) (sm_in (sm_in (sm_in (And.intro (hG.1 123 (Nat.le_of_ble_eq_true rfl)) (sm_gfr rfl (hG.2 123 3 rfl) (sm_in (sm_in (Exists.intro 5450 (And.intro (hG.1 125 (Nat.le_of_ble_eq_true rfl)) (And.intro (sm_lin (by decide)) (sm_in (sm_in (Exists.intro 13 (And.intro (hG.1 141 (Nat.le_of_ble_eq_true rfl)) (And.intro (sm_lin (by decide)) (sm_in (sm_in (And.intro (Nat.le_of_ble_eq_true rfl) (sm_in (sm_in (And.intro (Nat.le_of_ble_eq_true rfl) (k4t))))))))))))))))))))))))))))))))))))))))))))))))))))))))))))))))))))))))))))))))))))))))))))))))))))))))))))))))))))))))))))))))))))))))))))))))))))))))))))))))) (fun c1 => have k1t := Eq.mp (if_pos c1) k; sm_in (sm_in (And.intro rfl k1t))))))))))))))
set_option maxRecDepth 100000 in
theorem w_X11_tells_115 {ex : sm_O} {d n : Nat} {y : sm_Y} {I : Nat → Nat → Int32} {L : Nat → Nat → Int64} {R : Nat → Nat → Option Nat} {Q : sm_Q} {w1 : Option Value} {w2 : Option Value} {w3 : Option Value} {w5 : Option Value} {w6 : Option Value} {w7 : Option Value} {w8 : Option Value} {w9 : Option Value} {a4 : Int64} {s0 : Int32} {s1 : Int32} (hG : sm_G y R) (k : vp_in s1 13 ∧ sm_W ex d 0 0 184 153 [some (.ref 123), w1, w2, w3, some (.long a4), sm_iv w5, some (.long a4), none, some (.int 0), w9] [] (n, y, I, sm_st (sm_st (sm_st L 141 s1.toNatClampNeg s0.toInt64) 141 7 ((I 125 4).toInt64)) 141 8 ((I 125 6).toInt64), R) Q) : sm_W ex d 0 0 184 115 [some (.ref 123), w1, w2, w3, some (.long a4), w5, w6, w7, w8, w9] [.int s0, .int s1, .ref 141] (n, y, I, L, R) Q := sm_in ((have e1 := k.1; have k1 := k.2; sm_in (Exists.intro 13 (And.intro (hG.1 141 (Nat.le_of_ble_eq_true rfl)) (And.intro e1 (sm_in (sm_in (And.intro (hG.1 123 (Nat.le_of_ble_eq_true rfl)) (sm_gfr rfl (hG.2 123 35 rfl) (sm_in (sm_in (sm_in (And.intro (hG.1 123 (Nat.le_of_ble_eq_true rfl)) (sm_gfr rfl (hG.2 123 3 rfl) (sm_in (sm_in (Exists.intro 5450 (And.intro (hG.1 125 (Nat.le_of_ble_eq_true rfl)) (And.intro (sm_lin (by decide)) (sm_in (sm_in (Exists.intro 13 (And.intro (hG.1 141 (Nat.le_of_ble_eq_true rfl)) (And.intro (sm_lin (by decide)) (sm_in (sm_in (And.intro (hG.1 123 (Nat.le_of_ble_eq_true rfl)) (sm_gfr rfl (hG.2 123 35 rfl) (sm_in (sm_in (sm_in (And.intro (hG.1 123 (Nat.le_of_ble_eq_true rfl)) (sm_gfr rfl (hG.2 123 3 rfl) (sm_in (sm_in (Exists.intro 5450 (And.intro (hG.1 125 (Nat.le_of_ble_eq_true rfl)) (And.intro (sm_lin (by decide)) (sm_in (sm_in (Exists.intro 13 (And.intro (hG.1 141 (Nat.le_of_ble_eq_true rfl)) (And.intro (sm_lin (by decide)) (sm_in (sm_in (And.intro (Nat.le_of_ble_eq_true rfl) (sm_in (sm_in (And.intro (Nat.le_of_ble_eq_true rfl) (k1))))))))))))))))))))))))))))))))))))))))))))))))))
set_option maxRecDepth 100000 in
theorem w_X11_tells_153 {ex : sm_O} {d n : Nat} {y : sm_Y} {I : Nat → Nat → Int32} {L : Nat → Nat → Int64} {R : Nat → Nat → Option Nat} {Q : sm_Q} {w2 : Option Value} {w3 : Option Value} {w4 : Option Value} {w5 : Option Value} {w7 : Option Value} {w9 : Option Value} {a1 : Int32} {a6 : Int64} {a8 : Int32} {d1 : Nat} (hG : sm_G y R) (h1 : d1 < d) (k : vp_in ((I 123 34) + 1) 5450 ∧ (if (I 125 ((I 123 34) + 1).toNatClampNeg) ≤ a8 then (Q (some (.long a6)) (n, y, I, L, R)) else (vp_in (((I 123 34) + 2) + (8 * a8)) 5450 ∧ (if (I 125 (((I 123 34) + 2) + (8 * a8)).toNatClampNeg) = a1 then (sm_W ex d1 0 0 183 0 [some (.ref 123), some (.int (((I 123 34) + 2) + (8 * a8)))] [] (n, y, I, L, R) (fun r μ1 => sm_W ex d 0 0 184 200 [some (.ref 123), some (.int a1), w2, w3, w4, w5, some (.long a6), w7, some (.int a8), some (.int (((I 123 34) + 2) + (8 * a8)))] (r.toList ++ []) μ1 Q)) else (sm_W ex d 0 0 184 153 [some (.ref 123), some (.int a1), w2, w3, w4, w5, some (.long a6), sm_iv w7, some (.int (a8 + 1)), some (.int (((I 123 34) + 2) + (8 * a8)))] [] (n, y, I, L, R) Q))))) : sm_W ex d 0 0 184 153 [some (.ref 123), some (.int a1), w2, w3, w4, w5, some (.long a6), w7, some (.int a8), w9] [] (n, y, I, L, R) Q := sm_in (sm_in (sm_in (And.intro (hG.1 123 (Nat.le_of_ble_eq_true rfl)) (sm_gfr rfl (hG.2 123 3 rfl) (sm_in (sm_in (And.intro (hG.1 123 (Nat.le_of_ble_eq_true rfl)) (sm_in (sm_in ((have e1 := k.1; have k1 := k.2; sm_in (Exists.intro 5450 (And.intro (hG.1 125 (Nat.le_of_ble_eq_true rfl)) (And.intro e1 (sm_in (And.intro (fun c2 => have k2t := Eq.mp (if_pos c2) k1; sm_in (sm_in (And.intro rfl k2t))) (fun c2 => have k2f := Eq.mp (if_neg c2) k1; sm_in (sm_in (And.intro (hG.1 123 (Nat.le_of_ble_eq_true rfl)) (sm_in (sm_in (sm_in (sm_in (sm_in (sm_in (sm_in (And.intro (Nat.le_of_ble_eq_true rfl) (sm_in (sm_in (And.intro (hG.1 123 (Nat.le_of_ble_eq_true rfl)) (sm_gfr rfl (hG.2 123 3 rfl) (sm_in ((have e3 := k2f.1; have k3 := k2f.2; sm_in (Exists.intro 5450 (And.intro (hG.1 125 (Nat.le_of_ble_eq_true rfl)) (And.intro e3 (sm_in (sm_in (And.intro (fun c4 => have k4f := Eq.mp (if_neg c4) k3; sm_in (And.intro (Nat.le_of_ble_eq_true rfl) (sm_in (k4f)))) (fun c4 => have k4t := Eq.mp (if_pos c4) k3; sm_in (sm_in (sm_in (Exists.intro 11 (And.intro (hG.1 123 (Nat.le_of_ble_eq_true rfl)) (And.intro rfl (sm_calln h1 (Nat.le_of_ble_eq_true rfl) (Nat.le_of_ble_eq_true rfl) k4t)))))))))))))))))))))))))))))))))))))))))))))))
set_option maxRecDepth 100000 in
theorem w_X11_tells_200 {ex : sm_O} {d n : Nat} {y : sm_Y} {I : Nat → Nat → Int32} {L : Nat → Nat → Int64} {R : Nat → Nat → Option Nat} {Q : sm_Q} {w2 : Option Value} {w3 : Option Value} {w4 : Option Value} {w5 : Option Value} {w6 : Option Value} {w7 : Option Value} {w9 : Option Value} {a1 : Int32} {a8 : Int32} {s0 : Int32} (hG : sm_G y R) (k : if s0 = 0 then (sm_W ex d 0 0 184 153 [some (.ref 123), some (.int a1), w2, w3, w4, w5, w6, sm_iv w7, some (.int (a8 + 1)), w9] [] (n, y, I, L, R) Q) else (if a1 = 3 then (sm_W ex d 0 0 184 153 [some (.ref 123), some (.int a1), w2, w3, w4, sm_iv w5, some (.long 1), none, some (.int (a8 + 1)), w9] [] (n, y, I, L, R) Q) else (sm_W ex d 0 0 184 153 [some (.ref 123), some (.int a1), w2, w3, w4, sm_iv w5, some (.long (L 123 40)), none, some (.int (a8 + 1)), w9] [] (n, y, I, L, R) Q))) : sm_W ex d 0 0 184 200 [some (.ref 123), some (.int a1), w2, w3, w4, w5, w6, w7, some (.int a8), w9] [.int s0] (n, y, I, L, R) Q := sm_in (And.intro (fun c1 => have k1t := Eq.mp (if_pos c1) k; sm_in (And.intro (Nat.le_of_ble_eq_true rfl) (sm_in (k1t)))) (fun c1 => have k1f := Eq.mp (if_neg c1) k; sm_in (sm_in (sm_in (And.intro (fun c2 => have k2f := Eq.mp (if_neg c2) k1f; sm_in (sm_in (And.intro (hG.1 123 (Nat.le_of_ble_eq_true rfl)) (sm_in (And.intro (Nat.le_of_ble_eq_true rfl) (sm_in (And.intro (Nat.le_of_ble_eq_true rfl) (sm_in (k2f))))))))) (fun c2 => have k2t := Eq.mp (if_pos c2) k1f; sm_in (sm_in (sm_in (And.intro (Nat.le_of_ble_eq_true rfl) (sm_in (And.intro (Nat.le_of_ble_eq_true rfl) (sm_in (k2t)))))))))))))
/-- a law at B of the model's row -/
def mLaw (I : Nat → Nat → Int32) (B : Nat) (l : Law) : Prop := I 125 (B + 1) = nI l.length ∧ l.length ≤ 12 ∧ ∀ (c : Nat) (x : Nat × DD × Option DD), l[c]? = some x → mCl I B (B + 2 + 8 * c) x
theorem mLaw_kept {I I' : Nat → Nat → Int32} {L L' : Nat → Nat → Int64} {B : Nat} {l : Law} (h : mFq I I' L L') (hl : mLaw I B l) : mLaw I' B l := ⟨by rw [h.1 125 _ (by simp)]; exact hl.1, hl.2.1, fun c x hx => mCl_kept h (hl.2.2 c x hx)⟩
def sp_otherI : Option Nat → Int
  | none => -1
  | some o => o
/-- the words that a law is asked with -/
def sp_env (s : St) (m : Nat) (other : Option Nat) (i : Nat) : Int := match i with
  | 0 => m
  | 1 => sHold s m
  | 2 => sTired s m
  | 3 => sHeld s
  | 4 => sp_otherI other
  | 5 => match other with
    | none => -1
    | some o => sp_unlike s m o
  | 6 => sTerm s 0
  | 7 => sTerm s 2
  | _ => 0
def sp_val (w : Int64) (o : Option Int) : Int64 := match o with
  | some v => Int64.ofInt v
  | none => w
set_option maxHeartbeats 1000000 in
theorem lp_tells {ex : sm_O} {d n B kd : Nat} {y : sm_Y} {R : Nat → Nat → Option Nat} {Q : sm_Q} {w2 w3 w4 : Option Value} {l : Law} {w : Int64} (hd : 4 ≤ d) (hG : sm_G y R) (hB : B ≤ 4550) (hkd : kd ≤ 3) :
    ∀ (q c : Nat) (I : Nat → Nat → Int32) (L : Nat → Nat → Int64) (w5 w7 w9 : Option Value), c + q = l.length → I 123 20 = 0 → I 123 34 = nI B → (∃ m, m ≤ 7 ∧ I 125 0 = nI m) → mLaw I B l →
    (∀ (I' : Nat → Nat → Int32) (L' : Nat → Nat → Int64), mFq I I' L L' → Q (some (.long (sp_val w (sp_told l kd (mWd (mLf I L)))))) (n, y, I', L', R)) →
    sm_W ex d 0 0 184 153 [some (.ref 123), some (.int (nI kd)), w2, w3, w4, w5, some (.long (sp_val w (sp_told (l.take c) kd (mWd (mLf I L))))), w7, some (.int (nI c)), w9] [] (n, y, I, L, R) Q := by
  intro q
  induction q with
  | zero =>
    intro c I L w5 w7 w9 hc h20 hb hm hl k
    obtain rfl : c = l.length := by omega
    refine w_X11_tells_153 (d1 := 3) hG (by omega) ?_
    have i1 : nI B + 1 = nI (B + 1) := nI_add B 1
    rw [hb, i1]
    refine ⟨vp_in_nI (by omega) (by decide), ?_⟩
    rw [nI_clamp (by omega), hl.1, if_pos (Int32.le_refl _), List.take_length]
    exact k I L (mFq.rfl' I L)
  | succ q ih =>
    intro c I L w5 w7 w9 hc h20 hb hm hl k
    have hlt : c < l.length := by omega
    have hx : l[c]? = some l[c] := List.getElem?_eq_getElem hlt
    have h12 := hl.2.1
    have hcl := hl.2.2 c l[c] hx
    have i1 : nI B + 1 = nI (B + 1) := nI_add B 1
    have i2 : nI B + 2 + 8 * nI c = nI (B + 2 + 8 * c) := by rw [sm_of 2, sm_of 8, pk_mul, nI_add, nI_add]
    have htk : l.take (c + 1) = l.take c ++ [l[c]] := by rw [List.take_succ, hx]; rfl
    -- on with the loop
    have go : ∀ (I1 : Nat → Nat → Int32) (L1 : Nat → Nat → Int64) (u5 u7 u9 : Option Value) (x : Int64), mFq I I1 L L1 → x = sp_val w (sp_told (l.take (c + 1)) kd (mWd (mLf I L))) → sm_W ex d 0 0 184 153 [some (.ref 123), some (.int (nI kd)), w2, w3, w4, u5, some (.long x), u7, some (.int (nI c + 1)), u9] [] (n, y, I1, L1, R) Q := by
      intro I1 L1 u5 u7 u9 x hf hx
      rw [hx, sm_n1, ← mLf_keptq hf]
      exact ih (c + 1) I1 L1 u5 u7 u9 (by omega) (by rw [hf.1 123 20 (by simp)]; exact h20) (by rw [hf.1 123 34 (by simp)]; exact hb) (by rw [hf.1 125 0 (by simp)]; exact hm) (mLaw_kept hf hl) (fun I2 L2 hf2 => by rw [mLf_keptq hf]; exact k I2 L2 (hf.trans hf2))
    refine w_X11_tells_153 (d1 := 3) hG (by omega) ?_
    rw [hb, i1, i2]
    refine ⟨vp_in_nI (by omega) (by decide), ?_⟩
    rw [nI_clamp (show B + 1 < 2 ^ 31 by omega), hl.1, if_neg (by rw [nI_leI (by omega) (by omega)]; omega)]
    refine ⟨vp_in_nI (by omega) (by decide), ?_⟩
    obtain ⟨a, a', t, t', c0, c3, -⟩ := id hcl
    rw [nI_clamp (by omega), c0]
    by_cases hk : (l[c]).1 = kd
    · rw [if_pos (by rw [hk])]
      refine c_X11_isSo (B := B) (A := B + 2 + 8 * c) (Nat.le_refl 3) hG hB (by omega) h20 hb hm hcl ?_
      intro I1 L1 x hf hx1
      refine w_X11_tells_200 hG ?_
      cases hs : sp_cl l[c] (mWd (mLf I L)) with
      | none =>
        rw [hs] at hx1
        subst hx1
        rw [if_pos rfl]
        refine go I1 L1 _ _ _ _ hf ?_
        rw [htk, sp_told_snoc, if_pos hk, hs]
      | some v =>
        rw [hs] at hx1
        obtain ⟨rfl, hx2⟩ := hx1
        rw [if_neg (by decide)]
        by_cases h3 : kd = 3
        · subst h3
          rw [if_pos (show nI 3 = 3 from rfl)]
          refine go I1 L1 _ _ _ _ hf ?_
          rw [htk, sp_told_snoc, if_pos hk, hs]
          have : v = 1 := by
            unfold sp_cl at hs
            split at hs
            · first
                | exact (Option.some.inj hs).symm
                | (rw [if_pos hk] at hs; exact (Option.some.inj hs).symm)
            · cases hs
          rw [this]
          rfl
        · rw [if_neg (by rw [sm_of 3, nI_eq (by omega) (by decide)]; exact h3)]
          refine go I1 L1 _ _ _ _ hf ?_
          rw [htk, sp_told_snoc, if_pos hk, hs]
          exact hx2 (by rw [hk]; exact h3)
    · rw [if_neg (by rw [nI_eq (by omega) (by omega)]; exact hk)]
      refine go I L _ _ _ _ (mFq.rfl' I L) ?_
      rw [htk, sp_told_snoc, if_neg hk]

/-- which law is in force, in the model's row -/
def mForce (I : Nat → Nat → Int32) (F : Option (Nat × Law)) : Prop := match F with
  | none => I 125 3 = -1
  | some (j, l) => I 125 3 = nI j ∧ j < 6 ∧ mLaw I (50 + 900 * j) l
def sp_toldF (F : Option (Nat × Law)) (kd : Nat) (env : Nat → Int) : Option Int := match F with
  | none => none
  | some (_, l) => sp_told l kd env
/-- what asking a law touches -/
def mFt (I I' : Nat → Nat → Int32) (L L' : Nat → Nat → Int64) : Prop := (∀ a j, ¬ (a = 123 ∧ (j = 38 ∨ j = 34)) → I' a j = I a j) ∧ ∀ a j, a ≠ 143 → a ≠ 141 → ¬ (a = 123 ∧ (j = 39 ∨ j = 40)) → L' a j = L a j
theorem mFt.rfl' (I : Nat → Nat → Int32) (L : Nat → Nat → Int64) : mFt I I L L := ⟨fun _ _ _ => rfl, fun _ _ _ _ _ => rfl⟩
theorem mFt.trans {I I' I2 : Nat → Nat → Int32} {L L' L2 : Nat → Nat → Int64} (h1 : mFt I I' L L') (h2 : mFt I' I2 L' L2) : mFt I I2 L L2 := ⟨fun a j h => (h2.1 a j h).trans (h1.1 a j h), fun a j h h' h'' => (h2.2 a j h h' h'').trans (h1.2 a j h h' h'')⟩
theorem mFq.t {I I' : Nat → Nat → Int32} {L L' : Nat → Nat → Int64} (h : mFq I I' L L') : mFt I I' L L' := ⟨fun a j hq => h.1 a j (fun z => hq ⟨z.1, Or.inl z.2⟩), fun a j h1 _ h3 => h.2 a j h1 h3⟩
theorem mFt.i (I : Nat → Nat → Int32) (L : Nat → Nat → Int64) (v : Int32) : mFt I (sm_st I 123 34 v) L L := ⟨fun a j h => by
  by_cases ha : a = 123
  · exact sm_st_j _ _ (fun hj => h ⟨ha, Or.inr hj⟩)
  · exact sm_st_o _ _ ha, fun _ _ _ _ _ => rfl⟩
theorem mFt.l (I : Nat → Nat → Int32) (L : Nat → Nat → Int64) (i : Nat) (v : Int64) : mFt I I L (sm_st L 141 i v) := ⟨fun _ _ _ => rfl, fun _ _ _ h _ => sm_st_o _ _ h⟩
theorem mCl_keptI {I I' : Nat → Nat → Int32} {B A : Nat} {c : Nat × DD × Option DD} (e : ∀ j, I' 125 j = I 125 j) (hc : mCl I B A c) : mCl I' B A c := by
  have e2 : cdB I' B = cdB I B := by
    funext k
    unfold cdB
    rw [e, e]
  unfold mCl
  rw [e2]
  simp only [e]
  exact hc
theorem mLaw_keptI {I I' : Nat → Nat → Int32} {B : Nat} {l : Law} (h : ∀ j, I' 125 j = I 125 j) (hl : mLaw I B l) : mLaw I' B l := ⟨by rw [h]; exact hl.1, hl.2.1, fun c x hx => mCl_keptI h (hl.2.2 c x hx)⟩
theorem sm_ni64 {m : Nat} (h : m < 2 ^ 31) : (nI m).toInt64.toInt = (m : Int) := by rw [nI_l h, lN_toInt h]
set_option maxHeartbeats 2000000 in
theorem c_X11_tells {ex : sm_O} {n : Nat} {y : sm_Y} {I : Nat → Nat → Int32} {L : Nat → Nat → Int64} {R : Nat → Nat → Option Nat} {Q : sm_Q} {d m kd : Nat} {w5 w6 w7 w8 w9 : Option Value} {s : St} {other : Option Nat} {F : Option (Nat × Law)} {w : Int64} (hd : 4 ≤ d) (hG : sm_G y R) (hs : mS s (I 125)) (hok : sp_ok s) (hm : m < sMen s) (ho : ∀ o, other = some o → o < sMen s) (h20 : I 123 20 = 0) (hF : mForce I F) (hkd : kd ≤ 3)
    (k : ∀ (I' : Nat → Nat → Int32) (L' : Nat → Nat → Int64), mFt I I' L L' → Q (some (.long (sp_val w (sp_toldF F kd (sp_env s m other))))) (n, y, I', L', R)) :
    sm_W ex d 0 0 184 0 [some (.ref 123), some (.int (nI kd)), some (.int (nI m)), some (.int (sp_up other)), some (.long w), w5, w6, w7, w8, w9] [] (n, y, I, L, R) Q := by
  have h7 := hok.1
  refine w_X11_tells_0 (d1 := 3) hG (by omega) ?_
  match F, hF, k with
  | none, hF, k =>
    rw [if_pos (show I 125 3 = -1 from hF)]
    exact k I L (mFt.rfl' I L)
  | some (j, l), hF, k =>
    obtain ⟨f1, f2, f3⟩ := hF
    rw [f1, if_neg (by
      intro q
      have := congrArg Int32.toInt q
      rw [nI_toInt (by omega)] at this
      have z : (-1 : Int32).toInt = -1 := rfl
      omega)]
    refine ⟨sm_ci24 (by omega) (by decide), sm_ci10 (by omega) (by decide), ?_⟩
    rw [sm_cx24 (by omega), sm_cx10 (by omega), (hs.2.1 m hm).1, (hs.2.1 m hm).2.2.1, hs.2.2.2.1]
    have hbase : (50 : Int32) + 900 * nI j = nI (50 + 900 * j) := by rw [sm_of 50, sm_of 900, pk_mul, nI_add]
    rw [hbase]
    have ht0 : I 125 4 = nI (sTerm s 0) := hs.2.2.2.2 0 (by decide)
    have ht2 : I 125 6 = nI (sTerm s 2) := hs.2.2.2.2 2 (by decide)
    have hmm := hok.2.1 m hm
    have hh := hok.2.2.2.1
    have ht := hok.2.2.2.2.1
    have hw := hok.2.2.2.2.2.2.1
    -- the loop, once the words are set
    have loop : ∀ (L1 : Nat → Nat → Int64) (u1 u2 u3 u5 u7 u9 : Option Value), mFt I (sm_st I 123 34 (nI (50 + 900 * j))) L L1 → (∀ i, i < 8 → (L1 141 (i + 1)).toInt = sp_env s m other i) → sm_W ex d 0 0 184 153 [some (.ref 123), some (.int (nI kd)), u1, u2, u3, u5, some (.long w), u7, some (.int 0), u9] [] (n, y, sm_st I 123 34 (nI (50 + 900 * j)), L1, R) Q := by
      intro L1 u1 u2 u3 u5 u7 u9 hf hL1
      have e20 : (sm_st I 123 34 (nI (50 + 900 * j))) 123 20 = 0 := by rw [sm_st_j _ _ (by decide)]; exact h20
      have e125 : ∀ q, (sm_st I 123 34 (nI (50 + 900 * j))) 125 q = I 125 q := fun q => sm_st_o _ _ (by decide)
      have henv : mWd (mLf (sm_st I 123 34 (nI (50 + 900 * j))) L1) = sp_env s m other := by
        funext i
        unfold mWd
        split
        · rename_i hi
          unfold mLf
          rw [if_pos e20, nI_clamp (by omega)]
          exact hL1 i hi
        · rename_i hi
          match i, hi with
          | 0, hi => omega
          | 1, hi => omega
          | 2, hi => omega
          | 3, hi => omega
          | 4, hi => omega
          | 5, hi => omega
          | 6, hi => omega
          | 7, hi => omega
          | i + 8, _ => rfl
      have h0 := lp_tells (ex := ex) (d := d) (n := n) (y := y) (R := R) (Q := Q) (w := w) (w2 := u1) (w3 := u2) (w4 := u3) (l := l) (B := 50 + 900 * j) (kd := kd) hd hG (by omega) hkd l.length 0 (sm_st I 123 34 (nI (50 + 900 * j))) L1 u5 u7 u9 (by omega) e20 (sm_st_s _ _ _ _) ⟨sMen s, h7, by rw [e125]; exact hs.1⟩ (mLaw_keptI e125 f3) (fun I' L' hq => by rw [henv]; exact k I' L' (hf.trans hq.t))
      exact h0
    have e34 : ∀ q, (sm_st I 123 34 (nI (50 + 900 * j))) 125 q = I 125 q := fun q => sm_st_o _ _ (by decide)
    cases other with
    | none =>
      rw [if_pos (show sp_up none = -1 from rfl)]
      refine loop _ _ _ _ _ _ _ ((mFt.i I L _).trans ((((((((mFt.l _ _ _ _).trans (mFt.l _ _ _ _)).trans (mFt.l _ _ _ _)).trans (mFt.l _ _ _ _)).trans (mFt.l _ _ _ _)).trans (mFt.l _ _ _ _)).trans (mFt.l _ _ _ _)).trans (mFt.l _ _ _ _))) ?_
      intro i hi
      match i, hi with
      | 0, _ => simp [sm_st]; rw [nI_toInt (by omega)]; rfl
      | 1, _ => simp [sm_st]; rw [nI_toInt (by omega)]; rfl
      | 2, _ => simp [sm_st]; rw [nI_toInt (by omega)]; rfl
      | 3, _ => simp [sm_st]; rw [nI_toInt (by omega)]; rfl
      | 4, _ => simp [sm_st, sp_up]; rfl
      | 5, _ => simp [sm_st]; rfl
      | 6, _ => simp [sm_st]; rw [ht0, nI_toInt (by omega)]; rfl
      | 7, _ => simp [sm_st]; rw [ht2, nI_toInt (by omega)]; rfl
    | some o =>
      have hoo := ho o rfl
      rw [if_neg (by
        intro q
        have := congrArg Int32.toInt q
        rw [show sp_up (some o) = nI o from rfl, nI_toInt (by omega)] at this
        have z : (-1 : Int32).toInt = -1 := rfl
        omega)]
      refine c_X11_unlike (s := s) (by decide) hG (by
        have : (sm_st I 123 34 (nI (50 + 900 * j))) 125 = I 125 := funext e34
        rw [this]
        exact hs) hok hm hoo ?_
      refine w_X11_tells_115 hG ⟨sm_lin (by decide), ?_⟩
      have hu : sp_unlike s m o ≤ 6 := sp_pop_le _ 6
      refine loop _ _ _ _ _ _ _ ((mFt.i I L _).trans ((((((((mFt.l _ _ _ _).trans (mFt.l _ _ _ _)).trans (mFt.l _ _ _ _)).trans (mFt.l _ _ _ _)).trans (mFt.l _ _ _ _)).trans (mFt.l _ _ _ _)).trans (mFt.l _ _ _ _)).trans (mFt.l _ _ _ _))) ?_
      intro i hi
      have e6 : (6 : Int32).toNatClampNeg = 6 := rfl
      match i, hi with
      | 0, _ => simp [sm_st, e6]; rw [nI_toInt (by omega)]; rfl
      | 1, _ => simp [sm_st, e6]; rw [nI_toInt (by omega)]; rfl
      | 2, _ => simp [sm_st, e6]; rw [nI_toInt (by omega)]; rfl
      | 3, _ => simp [sm_st, e6]; rw [nI_toInt (by omega)]; rfl
      | 4, _ => simp [sm_st, e6]; rw [show sp_up (some o) = nI o from rfl, nI_toInt (by omega)]; rfl
      | 5, _ => simp [sm_st, e6]; rw [nI_toInt (by omega)]; rfl
      | 6, _ => simp [sm_st, e6]; rw [ht0, nI_toInt (by omega)]; rfl
      | 7, _ => simp [sm_st, e6]; rw [ht2, nI_toInt (by omega)]; rfl
end
section
set_option maxRecDepth 100000 in
theorem w_X11_bounded_0 {ex : sm_O} {d n : Nat} {y : sm_Y} {I : Nat → Nat → Int32} {L : Nat → Nat → Int64} {R : Nat → Nat → Option Nat} {Q : sm_Q} {w1 : Option Value} {a0 : Int64} {a2 : Int32} {a3 : Int32} (k : if 0 ≤ (lg_cmp a0 a2.toInt64) then (if (lg_cmp a0 a3.toInt64) ≤ 0 then (Q (some (.int a0.toInt32)) (n, y, I, L, R)) else (Q (some (.int a3)) (n, y, I, L, R))) else (Q (some (.int a2)) (n, y, I, L, R))) : sm_W ex d 0 0 126 0 [some (.long a0), w1, some (.int a2), some (.int a3)] [] (n, y, I, L, R) Q := sm_in (sm_in (sm_in (sm_in (sm_in (And.intro (fun c1 => have k1t := Eq.mp (if_pos c1) k; sm_in (sm_in (sm_in (sm_in (sm_in (And.intro (fun c2 => have k2t := Eq.mp (if_pos c2) k1t; sm_in (sm_in (sm_in (And.intro rfl k2t)))) (fun c2 => have k2f := Eq.mp (if_neg c2) k1t; sm_in (sm_in (sm_in (And.intro rfl k2f)))))))))) (fun c1 => have k1f := Eq.mp (if_neg c1) k; sm_in (sm_in (sm_in (And.intro rfl k1f)))))))))
-- TIRING, RESTING, NOTICING, BARRING (the model)
def sp_clN (hi : Nat) (v : Int) : Nat := if v < 0 then 0 else if (hi : Int) < v then hi else v.toNat
theorem sp_clN_le (hi : Nat) (v : Int) : sp_clN hi v ≤ hi := by
  unfold sp_clN
  split
  · omega
  · split <;> omega
theorem c_X11_bounded {ex : sm_O} {n : Nat} {y : sm_Y} {I : Nat → Nat → Int32} {L : Nat → Nat → Int64} {R : Nat → Nat → Option Nat} {Q : sm_Q} {d hi : Nat} {w1 : Option Value} {v : Int64} (hhi : hi < 1000) (k : Q (some (.int (nI (sp_clN hi v.toInt)))) (n, y, I, L, R)) : sm_W ex d 0 0 126 0 [some (.long v), w1, some (.int 0), some (.int (nI hi))] [] (n, y, I, L, R) Q := by
  refine w_X11_bounded_0 ?_
  have e0 : (0 : Int32).toInt64 = (0 : Int64) := rfl
  have e1 : (nI hi).toInt64 = lN hi := nI_l (by omega)
  have el : (lN hi).toInt = (hi : Int) := lN_toInt (by omega)
  have hge : 0 ≤ lg_cmp v 0 ↔ ¬ v.toInt < 0 := by
    rw [← Int32.not_lt, sm_cmp_lt, Int64.lt_iff_toInt_lt]
    rfl
  have hle : lg_cmp v (lN hi) ≤ 0 ↔ ¬ (hi : Int) < v.toInt := by
    rw [← Int32.not_lt, sm_cmp_gt, Int64.lt_iff_toInt_lt, el]
  simp only [e0, e1, hge, hle]
  unfold sp_clN at k
  by_cases h : v.toInt < 0
  · rw [if_pos h] at k
    rw [if_neg (fun q => q h)]
    exact k
  · rw [if_neg h] at k
    rw [if_pos h]
    by_cases h2 : (hi : Int) < v.toInt
    · rw [if_pos h2] at k
      rw [if_neg (fun q => q h2)]
      exact k
    · rw [if_neg h2] at k
      rw [if_pos h2]
      obtain ⟨q, hq, rfl⟩ := pk_lOf (x := v) (fun z => h (by rw [Int64.lt_iff_toInt_lt] at z; exact z))
      rw [pk_lT hq] at k
      rw [lN_i]
      exact k

set_option maxRecDepth 100000 in
theorem w_X11_tires_0 {ex : sm_O} {d n : Nat} {y : sm_Y} {I : Nat → Nat → Int32} {L : Nat → Nat → Int64} {R : Nat → Nat → Option Nat} {Q : sm_Q} {a1 : Int32} {d1 : Nat} (hG : sm_G y R) (h1 : d1 < d) (k : sm_W ex d1 0 0 184 0 [some (.ref 123), some (.int 0), some (.int a1), some (.int (-1)), some (.long 1), none, none, none, none, none] [] (n, y, I, L, R) (fun r μ1 => sm_W ex d 0 0 185 8 [some (.ref 123), some (.int a1)] (r.toList ++ []) μ1 Q)) : sm_W ex d 0 0 185 0 [some (.ref 123), some (.int a1)] [] (n, y, I, L, R) Q := sm_in (sm_in (sm_in (sm_in (sm_in (sm_in (Exists.intro 11 (And.intro (hG.1 123 (Nat.le_of_ble_eq_true rfl)) (And.intro rfl (sm_calln h1 (Nat.le_of_ble_eq_true rfl) (Nat.le_of_ble_eq_true rfl) k)))))))))
set_option maxRecDepth 100000 in
theorem w_X11_tires_8 {ex : sm_O} {d n : Nat} {y : sm_Y} {I : Nat → Nat → Int32} {L : Nat → Nat → Int64} {R : Nat → Nat → Option Nat} {Q : sm_Q} {w0 : Option Value} {w1 : Option Value} {s0 : Int64} {d1 : Nat} (h1 : d1 < d) (k : sm_W ex d1 0 0 126 0 [some (.long s0), none, some (.int 0), some (.int 9)] [] (n, y, I, L, R) (fun r μ1 => sm_W ex d 0 0 185 14 [w0, w1] (r.toList ++ []) μ1 Q)) : sm_W ex d 0 0 185 8 [w0, w1] [.long s0] (n, y, I, L, R) Q := sm_in (sm_in (sm_in (And.intro (Nat.le_of_ble_eq_true rfl) (sm_calln h1 (Nat.le_of_ble_eq_true rfl) (Nat.le_of_ble_eq_true rfl) k))))
set_option maxRecDepth 100000 in
theorem w_X11_tires_14 {ex : sm_O} {d n : Nat} {y : sm_Y} {I : Nat → Nat → Int32} {L : Nat → Nat → Int64} {R : Nat → Nat → Option Nat} {Q : sm_Q} {w0 : Option Value} {w1 : Option Value} {s0 : Int32} (k : Q (some (.int s0)) (n, y, I, L, R)) : sm_W ex d 0 0 185 14 [w0, w1] [.int s0] (n, y, I, L, R) Q := sm_in (And.intro rfl k)
set_option maxRecDepth 100000 in
theorem w_X11_rests_0 {ex : sm_O} {d n : Nat} {y : sm_Y} {I : Nat → Nat → Int32} {L : Nat → Nat → Int64} {R : Nat → Nat → Option Nat} {Q : sm_Q} {a1 : Int32} {d1 : Nat} (hG : sm_G y R) (h1 : d1 < d) (k : sm_W ex d1 0 0 184 0 [some (.ref 123), some (.int 1), some (.int a1), some (.int (-1)), some (.long 1), none, none, none, none, none] [] (n, y, I, L, R) (fun r μ1 => sm_W ex d 0 0 186 8 [some (.ref 123), some (.int a1)] (r.toList ++ []) μ1 Q)) : sm_W ex d 0 0 186 0 [some (.ref 123), some (.int a1)] [] (n, y, I, L, R) Q := sm_in (sm_in (sm_in (sm_in (sm_in (sm_in (Exists.intro 11 (And.intro (hG.1 123 (Nat.le_of_ble_eq_true rfl)) (And.intro rfl (sm_calln h1 (Nat.le_of_ble_eq_true rfl) (Nat.le_of_ble_eq_true rfl) k)))))))))
set_option maxRecDepth 100000 in
theorem w_X11_rests_8 {ex : sm_O} {d n : Nat} {y : sm_Y} {I : Nat → Nat → Int32} {L : Nat → Nat → Int64} {R : Nat → Nat → Option Nat} {Q : sm_Q} {w0 : Option Value} {w1 : Option Value} {s0 : Int64} {d1 : Nat} (h1 : d1 < d) (k : sm_W ex d1 0 0 126 0 [some (.long s0), none, some (.int 0), some (.int 9)] [] (n, y, I, L, R) (fun r μ1 => sm_W ex d 0 0 186 14 [w0, w1] (r.toList ++ []) μ1 Q)) : sm_W ex d 0 0 186 8 [w0, w1] [.long s0] (n, y, I, L, R) Q := sm_in (sm_in (sm_in (And.intro (Nat.le_of_ble_eq_true rfl) (sm_calln h1 (Nat.le_of_ble_eq_true rfl) (Nat.le_of_ble_eq_true rfl) k))))
set_option maxRecDepth 100000 in
theorem w_X11_rests_14 {ex : sm_O} {d n : Nat} {y : sm_Y} {I : Nat → Nat → Int32} {L : Nat → Nat → Int64} {R : Nat → Nat → Option Nat} {Q : sm_Q} {w0 : Option Value} {w1 : Option Value} {s0 : Int32} (k : Q (some (.int s0)) (n, y, I, L, R)) : sm_W ex d 0 0 186 14 [w0, w1] [.int s0] (n, y, I, L, R) Q := sm_in (And.intro rfl k)
set_option maxRecDepth 100000 in
theorem w_X11_isBarred_0 {ex : sm_O} {d n : Nat} {y : sm_Y} {I : Nat → Nat → Int32} {L : Nat → Nat → Int64} {R : Nat → Nat → Option Nat} {Q : sm_Q} {a1 : Int32} {d1 : Nat} (hG : sm_G y R) (h1 : d1 < d) (k : sm_W ex d1 0 0 184 0 [some (.ref 123), some (.int 3), some (.int a1), some (.int (-1)), some (.long 0), none, none, none, none, none] [] (n, y, I, L, R) (fun r μ1 => sm_W ex d 0 0 187 8 [some (.ref 123), some (.int a1)] (r.toList ++ []) μ1 Q)) : sm_W ex d 0 0 187 0 [some (.ref 123), some (.int a1)] [] (n, y, I, L, R) Q := sm_in (sm_in (sm_in (sm_in (sm_in (sm_in (Exists.intro 11 (And.intro (hG.1 123 (Nat.le_of_ble_eq_true rfl)) (And.intro rfl (sm_calln h1 (Nat.le_of_ble_eq_true rfl) (Nat.le_of_ble_eq_true rfl) k)))))))))
set_option maxRecDepth 100000 in
theorem w_X11_isBarred_8 {ex : sm_O} {d n : Nat} {y : sm_Y} {I : Nat → Nat → Int32} {L : Nat → Nat → Int64} {R : Nat → Nat → Option Nat} {Q : sm_Q} {w0 : Option Value} {w1 : Option Value} {s0 : Int64} (k : if (lg_cmp s0 1) = 0 then (Q (some (.int 1)) (n, y, I, L, R)) else (Q (some (.int 0)) (n, y, I, L, R))) : sm_W ex d 0 0 187 8 [w0, w1] [.long s0] (n, y, I, L, R) Q := sm_in (sm_in (sm_in (And.intro (fun c1 => have k1f := Eq.mp (if_neg c1) k; sm_in (sm_in (And.intro rfl (And.intro (Or.inl rfl) k1f)))) (fun c1 => have k1t := Eq.mp (if_pos c1) k; sm_in (sm_in (sm_in (And.intro rfl (And.intro (Or.inr rfl) k1t))))))))
set_option maxRecDepth 100000 in
theorem w_X11_noticed_0 {ex : sm_O} {d n : Nat} {y : sm_Y} {I : Nat → Nat → Int32} {L : Nat → Nat → Int64} {R : Nat → Nat → Option Nat} {Q : sm_Q} {a1 : Int32} {a2 : Int32} {d1 : Nat} (hG : sm_G y R) (h1 : d1 < d) (k : if a2 = (-1) then (sm_W ex d 0 0 188 29 [some (.ref 123), some (.int a1), some (.int a2)] [.int 0] (n, y, I, L, R) Q) else (sm_W ex d1 0 0 140 0 [some (.ref 123), some (.int a1), some (.int a2), none, none] [] (n, y, I, L, R) (fun r μ1 => sm_W ex d 0 0 188 19 [some (.ref 123), some (.int a1), some (.int a2)] (r.toList ++ [.int a2, .int a1, .int 2, .ref 123]) μ1 Q))) : sm_W ex d 0 0 188 0 [some (.ref 123), some (.int a1), some (.int a2)] [] (n, y, I, L, R) Q := sm_in (sm_in (sm_in (And.intro (fun c1 => have k1f := Eq.mp (if_neg c1) k; sm_in (sm_in (sm_in (sm_in (sm_in (sm_in (sm_in (sm_in (Exists.intro 11 (And.intro (hG.1 123 (Nat.le_of_ble_eq_true rfl)) (And.intro rfl (sm_calln h1 (Nat.le_of_ble_eq_true rfl) (Nat.le_of_ble_eq_true rfl) k1f)))))))))))) (fun c1 => have k1t := Eq.mp (if_pos c1) k; sm_in (sm_in (k1t))))))
set_option maxRecDepth 100000 in
theorem w_X11_noticed_19 {ex : sm_O} {d n : Nat} {y : sm_Y} {I : Nat → Nat → Int32} {L : Nat → Nat → Int64} {R : Nat → Nat → Option Nat} {Q : sm_Q} {w0 : Option Value} {w1 : Option Value} {w2 : Option Value} {s0 : Int32} {s1 : Int32} {s2 : Int32} {s3 : Int32} {d1 : Nat} (hG : sm_G y R) (h1 : d1 < d) (k : sm_W ex d1 0 0 184 0 [some (.ref 123), some (.int s3), some (.int s2), some (.int s1), some (.long s0.toInt64), none, none, none, none, none] [] (n, y, I, L, R) (fun r μ1 => sm_W ex d 0 0 188 23 [w0, w1, w2] (r.toList ++ []) μ1 Q)) : sm_W ex d 0 0 188 19 [w0, w1, w2] [.int s0, .int s1, .int s2, .int s3, .ref 123] (n, y, I, L, R) Q := sm_in (sm_in (Exists.intro 11 (And.intro (hG.1 123 (Nat.le_of_ble_eq_true rfl)) (And.intro rfl (sm_calln h1 (Nat.le_of_ble_eq_true rfl) (Nat.le_of_ble_eq_true rfl) k)))))
set_option maxRecDepth 100000 in
theorem w_X11_noticed_23 {ex : sm_O} {d n : Nat} {y : sm_Y} {I : Nat → Nat → Int32} {L : Nat → Nat → Int64} {R : Nat → Nat → Option Nat} {Q : sm_Q} {w0 : Option Value} {w1 : Option Value} {w2 : Option Value} {s0 : Int64} {d1 : Nat} (h1 : d1 < d) (k : sm_W ex d1 0 0 126 0 [some (.long s0), none, some (.int 0), some (.int 99)] [] (n, y, I, L, R) (fun r μ1 => sm_W ex d 0 0 188 29 [w0, w1, w2] (r.toList ++ []) μ1 Q)) : sm_W ex d 0 0 188 23 [w0, w1, w2] [.long s0] (n, y, I, L, R) Q := sm_in (sm_in (sm_in (And.intro (Nat.le_of_ble_eq_true rfl) (sm_calln h1 (Nat.le_of_ble_eq_true rfl) (Nat.le_of_ble_eq_true rfl) k))))
set_option maxRecDepth 100000 in
theorem w_X11_noticed_29 {ex : sm_O} {d n : Nat} {y : sm_Y} {I : Nat → Nat → Int32} {L : Nat → Nat → Int64} {R : Nat → Nat → Option Nat} {Q : sm_Q} {w0 : Option Value} {w1 : Option Value} {w2 : Option Value} {s0 : Int32} (k : Q (some (.int s0)) (n, y, I, L, R)) : sm_W ex d 0 0 188 29 [w0, w1, w2] [.int s0] (n, y, I, L, R) Q := sm_in (And.intro rfl k)
set_option maxRecDepth 100000 in
theorem w_X11_canRelieve_0 {ex : sm_O} {d n : Nat} {y : sm_Y} {I : Nat → Nat → Int32} {L : Nat → Nat → Int64} {R : Nat → Nat → Option Nat} {Q : sm_Q} {a1 : Int32} {d1 : Nat} (hG : sm_G y R) (hdep : 1 ≤ d) (h1 : d1 < d) (k : if (I 125 8) = a1 then (Q (some (.int 0)) (n, y, I, L, R)) else (vp_in (17 + a1) 5450 ∧ (if (I 125 (17 + a1).toNatClampNeg) = 0 then (vp_in (10 + a1) 5450 ∧ vp_in (24 + a1) 5450 ∧ (if (I 125 (24 + a1).toNatClampNeg) ≤ (I 125 (10 + a1).toNatClampNeg) then (Q (some (.int 0)) (n, y, I, L, R)) else (sm_W ex d1 0 0 187 0 [some (.ref 123), some (.int a1)] [] (n, y, I, L, R) (fun r μ1 => sm_W ex d 0 0 189 45 [some (.ref 123), some (.int a1)] (r.toList ++ []) μ1 Q)))) else (Q (some (.int 0)) (n, y, I, L, R))))) : sm_W ex d 0 0 189 0 [some (.ref 123), some (.int a1)] [] (n, y, I, L, R) Q := sm_in (sm_in (And.intro (hG.1 123 (Nat.le_of_ble_eq_true rfl)) (sm_gfr rfl (hG.2 123 3 rfl) (sm_in (sm_in (Exists.intro 5450 (And.intro (hG.1 125 (Nat.le_of_ble_eq_true rfl)) (And.intro (sm_lin (by decide)) (sm_in (sm_in (And.intro (fun c1 => have k1t := Eq.mp (if_pos c1) k; sm_in (sm_in (And.intro rfl (And.intro (Or.inl rfl) k1t)))) (fun c1 => have k1f := Eq.mp (if_neg c1) k; sm_in (sm_in (sm_in (Exists.intro 11 (And.intro (hG.1 123 (Nat.le_of_ble_eq_true rfl)) (And.intro rfl (sm_calln (d1 := 0) (Nat.lt_of_lt_of_le (Nat.le_of_ble_eq_true rfl : 0 < 1) hdep) (Nat.le_of_ble_eq_true rfl) (Nat.le_of_ble_eq_true rfl) (sm_in (sm_in (And.intro (hG.1 123 (Nat.le_of_ble_eq_true rfl)) (sm_gfr rfl (hG.2 123 3 rfl) (sm_in (sm_in (sm_in ((have e2 := k1f.1; have k2 := k1f.2; sm_in (Exists.intro 5450 (And.intro (hG.1 125 (Nat.le_of_ble_eq_true rfl)) (And.intro e2 (sm_in (And.intro (fun c3 => have k3f := Eq.mp (if_neg c3) k2; sm_in (sm_in (And.intro rfl (And.intro (Or.inl rfl) (sm_in (And.intro (fun _ => sm_in (sm_in (And.intro rfl (And.intro (Or.inl rfl) k3f)))) (fun c => absurd (by decide : (0 : Int32) = 0) c))))))) (fun c3 => have k3t := Eq.mp (if_pos c3) k2; sm_in (sm_in (sm_in (And.intro rfl (And.intro (Or.inr rfl) (sm_in (And.intro (fun c => absurd c (by decide : ¬ (1 : Int32) = 0)) (fun _ => sm_in (sm_in (And.intro (hG.1 123 (Nat.le_of_ble_eq_true rfl)) (sm_gfr rfl (hG.2 123 3 rfl) (sm_in (sm_in (sm_in ((have e4 := k3t.1; have k4 := k3t.2; sm_in (Exists.intro 5450 (And.intro (hG.1 125 (Nat.le_of_ble_eq_true rfl)) (And.intro e4 (sm_in (sm_in (And.intro (hG.1 123 (Nat.le_of_ble_eq_true rfl)) (sm_gfr rfl (hG.2 123 3 rfl) (sm_in (sm_in (sm_in ((have e5 := k4.1; have k5 := k4.2; sm_in (Exists.intro 5450 (And.intro (hG.1 125 (Nat.le_of_ble_eq_true rfl)) (And.intro e5 (sm_in (And.intro (fun c6 => have k6t := Eq.mp (if_pos c6) k5; sm_in (sm_in (And.intro rfl (And.intro (Or.inl rfl) k6t)))) (fun c6 => have k6f := Eq.mp (if_neg c6) k5; sm_in (sm_in (sm_in (Exists.intro 11 (And.intro (hG.1 123 (Nat.le_of_ble_eq_true rfl)) (And.intro rfl (sm_calln h1 (Nat.le_of_ble_eq_true rfl) (Nat.le_of_ble_eq_true rfl) k6f))))))))))))))))))))))))))))))))))))))))))))))))))))))))))))))))))))))))
set_option maxRecDepth 100000 in
theorem w_X11_canRelieve_45 {ex : sm_O} {d n : Nat} {y : sm_Y} {I : Nat → Nat → Int32} {L : Nat → Nat → Int64} {R : Nat → Nat → Option Nat} {Q : sm_Q} {w0 : Option Value} {w1 : Option Value} {s0 : Int32} (k : if s0 = 0 then (Q (some (.int 1)) (n, y, I, L, R)) else (Q (some (.int 0)) (n, y, I, L, R))) : sm_W ex d 0 0 189 45 [w0, w1] [.int s0] (n, y, I, L, R) Q := sm_in (And.intro (fun c1 => have k1f := Eq.mp (if_neg c1) k; sm_in (sm_in (And.intro rfl (And.intro (Or.inl rfl) k1f)))) (fun c1 => have k1t := Eq.mp (if_pos c1) k; sm_in (sm_in (sm_in (And.intro rfl (And.intro (Or.inr rfl) k1t))))))
def sp_get (o : Option Int) (w : Int) : Int := match o with
  | some v => v
  | none => w
def sp_tires (F : Option (Nat × Law)) (s : St) (m : Nat) : Nat := sp_clN 9 (sp_get (sp_toldF F 0 (sp_env s m none)) 1)
def sp_rests (F : Option (Nat × Law)) (s : St) (m : Nat) : Nat := sp_clN 9 (sp_get (sp_toldF F 1 (sp_env s m none)) 1)
def sp_bars (F : Option (Nat × Law)) (s : St) (m : Nat) : Bool := (sp_toldF F 3 (sp_env s m none)).isSome
def sp_notice (F : Option (Nat × Law)) (s : St) (m : Nat) (other : Option Nat) : Nat := match other with
  | none => 0
  | some o => sp_clN 99 (sp_get (sp_toldF F 2 (sp_env s m (some o))) (sp_unlike s m o))
/-- laws whose sums stay within -/
def sp_lawok (l : Law) : Prop := ∀ x ∈ l, x.1 ≤ 3 ∧ (x.1 ≠ 3 → sp_in x.2.1)
theorem sp_told_in {l : Law} (h : sp_lawok l) (kd : Nat) (env : Nat → Int) (v : Int) (hv : sp_told l kd env = some v) : -1000000000 ≤ v ∧ v ≤ 1000000000 := by
  induction l with
  | nil => cases hv
  | cons c t ih =>
    simp only [sp_told] at hv
    cases ht : sp_told t kd env with
    | some u =>
      rw [ht] at hv
      cases hv
      exact ih (fun x hx => h x (List.mem_cons_of_mem _ hx)) ht
    | none =>
      rw [ht] at hv
      dsimp only at hv
      split at hv
      · unfold sp_cl at hv
        split at hv
        · split at hv
          · cases hv
            omega
          · rename_i h3
            exact (h c List.mem_cons_self).2 h3 env v hv
        · cases hv
      · cases hv
theorem sp_told_bar {l : Law} (env : Nat → Int) (v : Int) (hv : sp_told l 3 env = some v) : v = 1 := by
  induction l with
  | nil => cases hv
  | cons c t ih =>
    simp only [sp_told] at hv
    cases ht : sp_told t 3 env with
    | some u =>
      rw [ht] at hv
      cases hv
      exact ih ht
    | none =>
      rw [ht] at hv
      dsimp only at hv
      split at hv
      · rename_i h3
        unfold sp_cl at hv
        split at hv
        · first
            | exact (Option.some.inj hv).symm
            | (rw [if_pos h3] at hv; exact (Option.some.inj hv).symm)
        · cases hv
      · cases hv
theorem mLaw_ok {I : Nat → Nat → Int32} {B : Nat} {l : Law} (h : mLaw I B l) : sp_lawok l := by
  intro x hx
  obtain ⟨c, hc⟩ := List.getElem?_of_mem hx
  obtain ⟨a, a', t, t', c0, c3, c4, c5, c6, c7, c8, c9, c10, c11, c12⟩ := h.2.2 c x hc
  exact ⟨c3, fun q => (c11 q).1⟩
theorem mForce_in {I : Nat → Nat → Int32} {F : Option (Nat × Law)} (h : mForce I F) (kd : Nat) (env : Nat → Int) (v : Int) (hv : sp_toldF F kd env = some v) : -1000000000 ≤ v ∧ v ≤ 1000000000 := by
  match F, h, hv with
  | some (j, l), h, hv => exact sp_told_in (mLaw_ok h.2.2) kd env v hv
theorem sp_val_toInt {w : Int64} {o : Option Int} (h : ∀ v, o = some v → -1000000000 ≤ v ∧ v ≤ 1000000000) : (sp_val w o).toInt = sp_get o w.toInt := by
  cases o with
  | none => rfl
  | some v =>
    have := h v rfl
    show (Int64.ofInt v).toInt = v
    exact Int64.toInt_ofInt_of_le (by omega) (by omega)

theorem c_X11_tires {ex : sm_O} {n : Nat} {y : sm_Y} {I : Nat → Nat → Int32} {L : Nat → Nat → Int64} {R : Nat → Nat → Option Nat} {Q : sm_Q} {d m : Nat} {s : St} {F : Option (Nat × Law)} (hd : 5 ≤ d) (hG : sm_G y R) (hs : mS s (I 125)) (hok : sp_ok s) (hm : m < sMen s) (h20 : I 123 20 = 0) (hF : mForce I F)
    (k : ∀ (I' : Nat → Nat → Int32) (L' : Nat → Nat → Int64), mFt I I' L L' → Q (some (.int (nI (sp_tires F s m)))) (n, y, I', L', R)) : sm_W ex d 0 0 185 0 [some (.ref 123), some (.int (nI m))] [] (n, y, I, L, R) Q := by
  refine w_X11_tires_0 (d1 := 4) hG (by omega) ?_
  refine c_X11_tells (s := s) (F := F) (other := none) (kd := 0) (w := 1) (Nat.le_refl 4) hG hs hok hm (fun o h => by cases h) h20 hF (by decide) ?_
  intro I' L' hf
  refine w_X11_tires_8 (d1 := 0) (by omega) ?_
  refine c_X11_bounded (hi := 9) (by decide) ?_
  refine w_X11_tires_14 ?_
  rw [sp_val_toInt (mForce_in hF _ _)]
  exact k I' L' hf

theorem c_X11_rests {ex : sm_O} {n : Nat} {y : sm_Y} {I : Nat → Nat → Int32} {L : Nat → Nat → Int64} {R : Nat → Nat → Option Nat} {Q : sm_Q} {d m : Nat} {s : St} {F : Option (Nat × Law)} (hd : 5 ≤ d) (hG : sm_G y R) (hs : mS s (I 125)) (hok : sp_ok s) (hm : m < sMen s) (h20 : I 123 20 = 0) (hF : mForce I F)
    (k : ∀ (I' : Nat → Nat → Int32) (L' : Nat → Nat → Int64), mFt I I' L L' → Q (some (.int (nI (sp_rests F s m)))) (n, y, I', L', R)) : sm_W ex d 0 0 186 0 [some (.ref 123), some (.int (nI m))] [] (n, y, I, L, R) Q := by
  refine w_X11_rests_0 (d1 := 4) hG (by omega) ?_
  refine c_X11_tells (s := s) (F := F) (other := none) (kd := 1) (w := 1) (Nat.le_refl 4) hG hs hok hm (fun o h => by cases h) h20 hF (by decide) ?_
  intro I' L' hf
  refine w_X11_rests_8 (d1 := 0) (by omega) ?_
  refine c_X11_bounded (hi := 9) (by decide) ?_
  refine w_X11_rests_14 ?_
  rw [sp_val_toInt (mForce_in hF _ _)]
  exact k I' L' hf

theorem c_X11_isBarred {ex : sm_O} {n : Nat} {y : sm_Y} {I : Nat → Nat → Int32} {L : Nat → Nat → Int64} {R : Nat → Nat → Option Nat} {Q : sm_Q} {d m : Nat} {s : St} {F : Option (Nat × Law)} (hd : 5 ≤ d) (hG : sm_G y R) (hs : mS s (I 125)) (hok : sp_ok s) (hm : m < sMen s) (h20 : I 123 20 = 0) (hF : mForce I F)
    (k : ∀ (I' : Nat → Nat → Int32) (L' : Nat → Nat → Int64), mFt I I' L L' → Q (some (.int (sm_b (sp_bars F s m = true)))) (n, y, I', L', R)) : sm_W ex d 0 0 187 0 [some (.ref 123), some (.int (nI m))] [] (n, y, I, L, R) Q := by
  refine w_X11_isBarred_0 (d1 := 4) hG (by omega) ?_
  refine c_X11_tells (s := s) (F := F) (other := none) (kd := 3) (w := 0) (Nat.le_refl 4) hG hs hok hm (fun o h => by cases h) h20 hF (by decide) ?_
  intro I' L' hf
  refine w_X11_isBarred_8 ?_
  simp only [sm_cmp_eq]
  have k9 := k I' L' hf
  unfold sp_bars at k9
  cases hT : sp_toldF F 3 (sp_env s m none) with
  | none =>
    rw [hT] at k9
    rw [if_neg (show ¬ sp_val 0 none = 1 by decide)]
    exact k9
  | some v =>
    rw [hT] at k9
    have hv : v = 1 := by
      match F, hT with
      | some (j, l), hT => exact sp_told_bar _ v hT
    subst hv
    rw [if_pos (show sp_val 0 (some 1) = 1 by decide)]
    exact k9
theorem c_X11_noticed {ex : sm_O} {n : Nat} {y : sm_Y} {I : Nat → Nat → Int32} {L : Nat → Nat → Int64} {R : Nat → Nat → Option Nat} {Q : sm_Q} {d m : Nat} {s : St} {other : Option Nat} {F : Option (Nat × Law)} (hd : 5 ≤ d) (hG : sm_G y R) (hs : mS s (I 125)) (hok : sp_ok s) (hm : m < sMen s) (ho : ∀ o, other = some o → o < sMen s) (h20 : I 123 20 = 0) (hF : mForce I F)
    (k : ∀ (I' : Nat → Nat → Int32) (L' : Nat → Nat → Int64), mFt I I' L L' → Q (some (.int (nI (sp_notice F s m other)))) (n, y, I', L', R)) : sm_W ex d 0 0 188 0 [some (.ref 123), some (.int (nI m)), some (.int (sp_up other))] [] (n, y, I, L, R) Q := by
  have h7 := hok.1
  refine w_X11_noticed_0 (d1 := 1) hG (by omega) ?_
  cases other with
  | none =>
    rw [if_pos (show sp_up none = -1 from rfl)]
    refine w_X11_noticed_29 ?_
    exact k I L (mFt.rfl' I L)
  | some o =>
    have hoo := ho o rfl
    rw [if_neg (by
      intro q
      have := congrArg Int32.toInt q
      rw [show sp_up (some o) = nI o from rfl, nI_toInt (by omega)] at this
      have z : (-1 : Int32).toInt = -1 := rfl
      omega)]
    refine c_X11_unlike (s := s) (Nat.le_refl 1) hG hs hok hm hoo ?_
    refine w_X11_noticed_19 (d1 := 4) hG (by omega) ?_
    refine c_X11_tells (s := s) (F := F) (other := some o) (kd := 2) (Nat.le_refl 4) hG hs hok hm ho h20 hF (by decide) ?_
    intro I' L' hf
    refine w_X11_noticed_23 (d1 := 0) (by omega) ?_
    refine c_X11_bounded (hi := 99) (by decide) ?_
    refine w_X11_noticed_29 ?_
    have hu : sp_unlike s m o ≤ 6 := sp_pop_le _ 6
    rw [sp_val_toInt (mForce_in hF _ _), sm_ni64 (by omega)]
    exact k I' L' hf
/-- he could relieve -/
def sp_can (F : Option (Nat × Law)) (s : St) (m : Nat) : Prop := sUp s ≠ some m ∧ sCash s m = false ∧ sTired s m < sHold s m ∧ sp_bars F s m = false
theorem sp_up_eq {u : Option Nat} {m M : Nat} (hu : ∀ v, u = some v → v < M) (hM : M ≤ 1000) (hm : m < M) : sp_up u = nI m ↔ u = some m := by
  cases u with
  | none =>
    refine ⟨fun q => ?_, fun q => by cases q⟩
    have := congrArg Int32.toInt q
    rw [nI_toInt (by omega)] at this
    have z : (sp_up none).toInt = -1 := rfl
    omega
  | some v =>
    have := hu v rfl
    show nI v = nI m ↔ _
    rw [nI_eq (by omega) (by omega)]
    exact ⟨fun q => by rw [q], fun q => Option.some.inj q⟩
theorem c_X11_canRelieve {ex : sm_O} {n : Nat} {y : sm_Y} {I : Nat → Nat → Int32} {L : Nat → Nat → Int64} {R : Nat → Nat → Option Nat} {Q : sm_Q} {d m : Nat} {s : St} {F : Option (Nat × Law)} (hd : 6 ≤ d) (hG : sm_G y R) (hs : mS s (I 125)) (hok : sp_ok s) (hm : m < sMen s) (h20 : I 123 20 = 0) (hF : mForce I F)
    (k : ∀ (I' : Nat → Nat → Int32) (L' : Nat → Nat → Int64) (x : Int32), mFt I I' L L' → (sp_can F s m ∧ x = 1 ∨ ¬ sp_can F s m ∧ x = 0) → Q (some (.int x)) (n, y, I', L', R)) : sm_W ex d 0 0 189 0 [some (.ref 123), some (.int (nI m))] [] (n, y, I, L, R) Q := by
  have h7 := hok.1
  have hmm := hok.2.1 m hm
  have hsm := hs.2.1 m hm
  refine w_X11_canRelieve_0 (d1 := 5) hG (by omega) (by omega) ?_
  rw [hs.2.2.1]
  by_cases h1 : sUp s = some m
  · rw [if_pos ((sp_up_eq hok.2.2.1 (by omega) hm).mpr h1)]
    exact k I L 0 (mFt.rfl' I L) (Or.inr ⟨fun q => q.1 h1, rfl⟩)
  · rw [if_neg (fun q => h1 ((sp_up_eq hok.2.2.1 (by omega) hm).mp q))]
    refine ⟨sm_ci17 (by omega) (by decide), ?_⟩
    rw [sm_cx17 (by omega), hsm.2.2.2]
    cases hc : sCash s m with
    | true =>
      rw [if_neg (by decide)]
      exact k I L 0 (mFt.rfl' I L) (Or.inr ⟨fun q => absurd (hc.symm.trans q.2.1) (by decide), rfl⟩)
    | false =>
      rw [if_pos (by decide)]
      refine ⟨sm_ci10 (by omega) (by decide), sm_ci24 (by omega) (by decide), ?_⟩
      rw [sm_cx10 (by omega), sm_cx24 (by omega), hsm.1, hsm.2.2.1]
      by_cases h3 : sTired s m < sHold s m
      · rw [if_neg (by rw [nI_leI (by omega) (by omega)]; omega)]
        refine c_X11_isBarred (s := s) (F := F) (Nat.le_refl 5) hG hs hok hm h20 hF ?_
        intro I' L' hf
        refine w_X11_canRelieve_45 ?_
        cases hb : sp_bars F s m with
        | true =>
          rw [if_neg (by decide)]
          exact k I' L' 0 hf (Or.inr ⟨fun q => absurd (hb.symm.trans q.2.2.2) (by decide), rfl⟩)
        | false =>
          rw [if_pos (by decide)]
          exact k I' L' 1 hf (Or.inl ⟨⟨h1, hc, h3, hb⟩, rfl⟩)
      · rw [if_pos (by rw [nI_leI (by omega) (by omega)]; omega)]
        exact k I L 0 (mFt.rfl' I L) (Or.inr ⟨fun q => h3 q.2.2.1, rfl⟩)
end
section
set_option maxRecDepth 100000 in
theorem w_X11_keepAll_0 {ex : sm_O} {d n : Nat} {y : sm_Y} {I : Nat → Nat → Int32} {L : Nat → Nat → Int64} {R : Nat → Nat → Option Nat} {Q : sm_Q} {w0 : Option Value} {w2 : Option Value} {a1 : Int32} (k : sm_W ex d 0 0 131 2 [w0, some (.int a1), some (.int 0)] [] (n, y, I, L, R) Q) : sm_W ex d 0 0 131 0 [w0, some (.int a1), w2] [] (n, y, I, L, R) Q := sm_in (sm_in (And.intro (Nat.le_of_ble_eq_true rfl) (k)))
set_option maxRecDepth 100000 in
theorem w_X11_keepAll_2 {ex : sm_O} {d n : Nat} {y : sm_Y} {I : Nat → Nat → Int32} {L : Nat → Nat → Int64} {R : Nat → Nat → Option Nat} {Q : sm_Q} {a1 : Int32} {a2 : Int32} (hG : sm_G y R) (k : if 20 ≤ a2 then (Q none (n, y, I, L, R)) else (vp_in (4 + a2) 5450 ∧ vp_in ((20 * a1) + a2) 360 ∧ sm_W ex d 0 0 131 2 [some (.ref 123), some (.int a1), some (.int (a2 + 1))] [] (n, y, sm_st I 128 (((20 * a1) + a2).toNatClampNeg) (I 125 (4 + a2).toNatClampNeg), L, R) Q)) : sm_W ex d 0 0 131 2 [some (.ref 123), some (.int a1), some (.int a2)] [] (n, y, I, L, R) Q := sm_in (sm_in (sm_in (And.intro (fun c1 => have k1t := Eq.mp (if_pos c1) k; sm_in (And.intro rfl (And.intro rfl k1t))) (fun c1 => have k1f := Eq.mp (if_neg c1) k; sm_in (sm_in (And.intro (hG.1 123 (Nat.le_of_ble_eq_true rfl)) (sm_gfr rfl (hG.2 123 6 rfl) (sm_in (sm_in (sm_in (sm_in (sm_in (sm_in (sm_in (And.intro (hG.1 123 (Nat.le_of_ble_eq_true rfl)) (sm_gfr rfl (hG.2 123 3 rfl) (sm_in (sm_in (sm_in ((have e2 := k1f.1; have k2 := k1f.2; sm_in (Exists.intro 5450 (And.intro (hG.1 125 (Nat.le_of_ble_eq_true rfl)) (And.intro e2 ((have e3 := k2.1; have k3 := k2.2; sm_in (Exists.intro 360 (And.intro (hG.1 128 (Nat.le_of_ble_eq_true rfl)) (And.intro e3 (sm_in (And.intro (Nat.le_of_ble_eq_true rfl) (sm_in (k3)))))))))))))))))))))))))))))))))
set_option maxRecDepth 100000 in
theorem w_X11_putBack_0 {ex : sm_O} {d n : Nat} {y : sm_Y} {I : Nat → Nat → Int32} {L : Nat → Nat → Int64} {R : Nat → Nat → Option Nat} {Q : sm_Q} {w0 : Option Value} {w2 : Option Value} {a1 : Int32} (k : sm_W ex d 0 0 132 2 [w0, some (.int a1), some (.int 0)] [] (n, y, I, L, R) Q) : sm_W ex d 0 0 132 0 [w0, some (.int a1), w2] [] (n, y, I, L, R) Q := sm_in (sm_in (And.intro (Nat.le_of_ble_eq_true rfl) (k)))
set_option maxRecDepth 100000 in
theorem w_X11_putBack_2 {ex : sm_O} {d n : Nat} {y : sm_Y} {I : Nat → Nat → Int32} {L : Nat → Nat → Int64} {R : Nat → Nat → Option Nat} {Q : sm_Q} {a1 : Int32} {a2 : Int32} (hG : sm_G y R) (k : if 20 ≤ a2 then (Q none (n, y, I, L, R)) else (vp_in ((20 * a1) + a2) 360 ∧ vp_in (4 + a2) 5450 ∧ sm_W ex d 0 0 132 2 [some (.ref 123), some (.int a1), some (.int (a2 + 1))] [] (n, y, sm_st I 125 ((4 + a2).toNatClampNeg) (I 128 ((20 * a1) + a2).toNatClampNeg), L, R) Q)) : sm_W ex d 0 0 132 2 [some (.ref 123), some (.int a1), some (.int a2)] [] (n, y, I, L, R) Q := sm_in (sm_in (sm_in (And.intro (fun c1 => have k1t := Eq.mp (if_pos c1) k; sm_in (And.intro rfl (And.intro rfl k1t))) (fun c1 => have k1f := Eq.mp (if_neg c1) k; sm_in (sm_in (And.intro (hG.1 123 (Nat.le_of_ble_eq_true rfl)) (sm_gfr rfl (hG.2 123 3 rfl) (sm_in (sm_in (sm_in (sm_in (sm_in (And.intro (hG.1 123 (Nat.le_of_ble_eq_true rfl)) (sm_gfr rfl (hG.2 123 6 rfl) (sm_in (sm_in (sm_in (sm_in (sm_in ((have e2 := k1f.1; have k2 := k1f.2; sm_in (Exists.intro 360 (And.intro (hG.1 128 (Nat.le_of_ble_eq_true rfl)) (And.intro e2 ((have e3 := k2.1; have k3 := k2.2; sm_in (Exists.intro 5450 (And.intro (hG.1 125 (Nat.le_of_ble_eq_true rfl)) (And.intro e3 (sm_in (And.intro (Nat.le_of_ble_eq_true rfl) (sm_in (k3)))))))))))))))))))))))))))))))))
-- SNAPSHOTS, RELIEFS, THE HOUR (the model)
theorem sm_cp_0 {α : Type} (I : Nat → Nat → α) (o sp q dp : Nat) : sm_cp I o sp q dp 0 = I := by
  funext a j
  unfold sm_cp
  rw [if_neg (by omega)]
theorem sm_cp_s {α : Type} (I : Nat → Nat → α) {o q : Nat} (h : o ≠ q) (sp dp j : Nat) : sm_st (sm_cp I o sp q dp j) q (dp + j) ((sm_cp I o sp q dp j) o (sp + j)) = sm_cp I o sp q dp (j + 1) := by
  funext a b
  unfold sm_st sm_cp
  by_cases ha : a = q
  · subst ha
    by_cases hb : b = dp + j
    · subst hb
      rw [if_pos ⟨rfl, rfl⟩, if_neg (fun z => h z.1), if_pos ⟨rfl, by omega, by omega⟩]
      congr 1
      omega
    · rw [if_neg (fun z => hb z.2)]
      by_cases h3 : dp ≤ b ∧ b < dp + j
      · rw [if_pos ⟨rfl, h3⟩, if_pos ⟨rfl, by omega, by omega⟩]
      · rw [if_neg (fun z => h3 z.2), if_neg (fun z => h3 ⟨z.2.1, by omega⟩)]
  · rw [if_neg (fun z => ha z.1), if_neg (fun z => ha z.1), if_neg (fun z => ha z.1)]
theorem sm_cp_o {α : Type} (I : Nat → Nat → α) {o q : Nat} (sp dp n : Nat) {a : Nat} (j : Nat) (h : a ≠ q) : sm_cp I o sp q dp n a j = I a j := by
  unfold sm_cp
  rw [if_neg (fun z => h z.1)]
theorem sm_cp_in {α : Type} (I : Nat → Nat → α) (o q : Nat) {sp dp n j : Nat} (h1 : dp ≤ j) (h2 : j < dp + n) : sm_cp I o sp q dp n q j = I o (sp + (j - dp)) := by
  unfold sm_cp
  rw [if_pos ⟨rfl, h1, h2⟩]
theorem sm_cp_out {α : Type} (I : Nat → Nat → α) (o q : Nat) {sp dp n j : Nat} (h1 : j < dp ∨ dp + n ≤ j) : sm_cp I o sp q dp n q j = I q j := by
  unfold sm_cp
  rw [if_neg (by omega)]
theorem sm_i20 (c j : Nat) : (20 : Int32) * nI c + nI j = nI (20 * c + j) := by rw [sm_of 20, pk_mul, nI_add]
theorem c_X11_keepAll {ex : sm_O} {n : Nat} {y : sm_Y} {I : Nat → Nat → Int32} {L : Nat → Nat → Int64} {R : Nat → Nat → Option Nat} {Q : sm_Q} {d c : Nat} {w2 : Option Value} (hG : sm_G y R) (hc : c < 18) (k : Q none (n, y, sm_cp I 125 4 128 (20 * c) 20, L, R)) : sm_W ex d 0 0 131 0 [some (.ref 123), some (.int (nI c)), w2] [] (n, y, I, L, R) Q := by
  have key : ∀ (q j : Nat), j + q = 20 → sm_W ex d 0 0 131 2 [some (.ref 123), some (.int (nI c)), some (.int (nI j))] [] (n, y, sm_cp I 125 4 128 (20 * c) j, L, R) Q := by
    intro q
    induction q with
    | zero =>
      intro j hj
      obtain rfl : j = 20 := by omega
      refine w_X11_keepAll_2 hG ?_
      rw [if_pos (by decide)]
      exact k
    | succ q ih =>
      intro j hj
      refine w_X11_keepAll_2 hG ?_
      rw [if_neg (by rw [sm_of 20, nI_leI (by decide) (by omega)]; omega), sm_i20]
      refine ⟨sm_ci4 (by omega) (by decide), vp_in_nI (by omega) (by decide), ?_⟩
      rw [sm_cx4 (by omega), nI_clamp (by omega), sm_cp_s I (by decide), sm_n1]
      exact ih (j + 1) (by omega)
  refine w_X11_keepAll_0 ?_
  have := key 20 0 rfl
  rw [sm_cp_0] at this
  exact this
theorem c_X11_putBack {ex : sm_O} {n : Nat} {y : sm_Y} {I : Nat → Nat → Int32} {L : Nat → Nat → Int64} {R : Nat → Nat → Option Nat} {Q : sm_Q} {d c : Nat} {w2 : Option Value} (hG : sm_G y R) (hc : c < 18) (k : Q none (n, y, sm_cp I 128 (20 * c) 125 4 20, L, R)) : sm_W ex d 0 0 132 0 [some (.ref 123), some (.int (nI c)), w2] [] (n, y, I, L, R) Q := by
  have key : ∀ (q j : Nat), j + q = 20 → sm_W ex d 0 0 132 2 [some (.ref 123), some (.int (nI c)), some (.int (nI j))] [] (n, y, sm_cp I 128 (20 * c) 125 4 j, L, R) Q := by
    intro q
    induction q with
    | zero =>
      intro j hj
      obtain rfl : j = 20 := by omega
      refine w_X11_putBack_2 hG ?_
      rw [if_pos (by decide)]
      exact k
    | succ q ih =>
      intro j hj
      refine w_X11_putBack_2 hG ?_
      rw [if_neg (by rw [sm_of 20, nI_leI (by decide) (by omega)]; omega), sm_i20]
      refine ⟨vp_in_nI (by omega) (by decide), sm_ci4 (by omega) (by decide), ?_⟩
      rw [sm_cx4 (by omega), nI_clamp (by omega), sm_cp_s I (by decide), sm_n1]
      exact ih (j + 1) (by omega)
  refine w_X11_putBack_0 ?_
  have := key 20 0 rfl
  rw [sm_cp_0] at this
  exact this

set_option maxRecDepth 100000 in
theorem w_X11_cashier_0 {ex : sm_O} {d n : Nat} {y : sm_Y} {I : Nat → Nat → Int32} {L : Nat → Nat → Int64} {R : Nat → Nat → Option Nat} {Q : sm_Q} {a1 : Int32} (hG : sm_G y R) (k : vp_in (17 + a1) 5450 ∧ (if ((sm_st I 125 ((17 + a1).toNatClampNeg) 1) 125 8) = a1 then (Q none (n, y, sm_st (sm_st (sm_st I 125 ((17 + a1).toNatClampNeg) 1) 125 8 (-1)) 125 9 0, L, R)) else (Q none (n, y, sm_st I 125 ((17 + a1).toNatClampNeg) 1, L, R)))) : sm_W ex d 0 0 193 0 [some (.ref 123), some (.int a1)] [] (n, y, I, L, R) Q := sm_in (sm_in (And.intro (hG.1 123 (Nat.le_of_ble_eq_true rfl)) (sm_gfr rfl (hG.2 123 3 rfl) (sm_in (sm_in (sm_in (sm_in ((have e1 := k.1; have k1 := k.2; sm_in (Exists.intro 5450 (And.intro (hG.1 125 (Nat.le_of_ble_eq_true rfl)) (And.intro e1 (sm_in (sm_in (And.intro (hG.1 123 (Nat.le_of_ble_eq_true rfl)) (sm_gfr rfl (hG.2 123 3 rfl) (sm_in (sm_in (Exists.intro 5450 (And.intro (hG.1 125 (Nat.le_of_ble_eq_true rfl)) (And.intro (sm_lin (by decide)) (sm_in (sm_in (And.intro (fun c2 => have k2f := Eq.mp (if_neg c2) k1; sm_in (And.intro rfl (And.intro rfl k2f))) (fun c2 => have k2t := Eq.mp (if_pos c2) k1; sm_in (sm_in (And.intro (hG.1 123 (Nat.le_of_ble_eq_true rfl)) (sm_gfr rfl (hG.2 123 3 rfl) (sm_in (sm_in (sm_in (Exists.intro 5450 (And.intro (hG.1 125 (Nat.le_of_ble_eq_true rfl)) (And.intro (sm_lin (by decide)) (sm_in (sm_in (And.intro (hG.1 123 (Nat.le_of_ble_eq_true rfl)) (sm_gfr rfl (hG.2 123 3 rfl) (sm_in (sm_in (sm_in (Exists.intro 5450 (And.intro (hG.1 125 (Nat.le_of_ble_eq_true rfl)) (And.intro (sm_lin (by decide)) (sm_in (And.intro rfl (And.intro rfl k2t)))))))))))))))))))))))))))))))))))))))))))))))
set_option maxRecDepth 100000 in
theorem w_X11_pardonIt_0 {ex : sm_O} {d n : Nat} {y : sm_Y} {I : Nat → Nat → Int32} {L : Nat → Nat → Int64} {R : Nat → Nat → Option Nat} {Q : sm_Q} {a1 : Int32} (hG : sm_G y R) (k : vp_in (17 + a1) 5450 ∧ vp_in (10 + a1) 5450 ∧ Q none (n, y, sm_st (sm_st I 125 ((17 + a1).toNatClampNeg) 0) 125 ((10 + a1).toNatClampNeg) 0, L, R)) : sm_W ex d 0 0 196 0 [some (.ref 123), some (.int a1)] [] (n, y, I, L, R) Q := sm_in (sm_in (And.intro (hG.1 123 (Nat.le_of_ble_eq_true rfl)) (sm_gfr rfl (hG.2 123 3 rfl) (sm_in (sm_in (sm_in (sm_in ((have e1 := k.1; have k1 := k.2; sm_in (Exists.intro 5450 (And.intro (hG.1 125 (Nat.le_of_ble_eq_true rfl)) (And.intro e1 (sm_in (sm_in (And.intro (hG.1 123 (Nat.le_of_ble_eq_true rfl)) (sm_gfr rfl (hG.2 123 3 rfl) (sm_in (sm_in (sm_in (sm_in ((have e2 := k1.1; have k2 := k1.2; sm_in (Exists.intro 5450 (And.intro (hG.1 125 (Nat.le_of_ble_eq_true rfl)) (And.intro e2 (sm_in (And.intro rfl (And.intro rfl k2))))))))))))))))))))))))))))
set_option maxRecDepth 100000 in
theorem w_X11_relieveIt_0 {ex : sm_O} {d n : Nat} {y : sm_Y} {I : Nat → Nat → Int32} {L : Nat → Nat → Int64} {R : Nat → Nat → Option Nat} {Q : sm_Q} {w2 : Option Value} {a1 : Int32} {d1 : Nat} (hG : sm_G y R) (h1 : d1 < d) (k : sm_W ex d1 0 0 188 0 [some (.ref 123), some (.int a1), some (.int (I 125 8))] [] (n, y, I, L, R) (fun r μ1 => sm_W ex d 0 0 190 12 [some (.ref 123), some (.int a1), w2] (r.toList ++ []) μ1 Q)) : sm_W ex d 0 0 190 0 [some (.ref 123), some (.int a1), w2] [] (n, y, I, L, R) Q := sm_in (sm_in (sm_in (sm_in (And.intro (hG.1 123 (Nat.le_of_ble_eq_true rfl)) (sm_gfr rfl (hG.2 123 3 rfl) (sm_in (sm_in (Exists.intro 5450 (And.intro (hG.1 125 (Nat.le_of_ble_eq_true rfl)) (And.intro (sm_lin (by decide)) (sm_in (Exists.intro 11 (And.intro (hG.1 123 (Nat.le_of_ble_eq_true rfl)) (And.intro rfl (sm_calln h1 (Nat.le_of_ble_eq_true rfl) (Nat.le_of_ble_eq_true rfl) k)))))))))))))))
set_option maxRecDepth 100000 in
theorem w_X11_relieveIt_12 {ex : sm_O} {d n : Nat} {y : sm_Y} {I : Nat → Nat → Int32} {L : Nat → Nat → Int64} {R : Nat → Nat → Option Nat} {Q : sm_Q} {w2 : Option Value} {a1 : Int32} {s0 : Int32} (hG : sm_G y R) (k : Q (some (.int s0)) (n, y, sm_st (sm_st I 125 8 a1) 125 9 0, L, R)) : sm_W ex d 0 0 190 12 [some (.ref 123), some (.int a1), w2] [.int s0] (n, y, I, L, R) Q := sm_in (And.intro (Nat.le_of_ble_eq_true rfl) (sm_in (sm_in (And.intro (hG.1 123 (Nat.le_of_ble_eq_true rfl)) (sm_gfr rfl (hG.2 123 3 rfl) (sm_in (sm_in (sm_in (Exists.intro 5450 (And.intro (hG.1 125 (Nat.le_of_ble_eq_true rfl)) (And.intro (sm_lin (by decide)) (sm_in (sm_in (And.intro (hG.1 123 (Nat.le_of_ble_eq_true rfl)) (sm_gfr rfl (hG.2 123 3 rfl) (sm_in (sm_in (sm_in (Exists.intro 5450 (And.intro (hG.1 125 (Nat.le_of_ble_eq_true rfl)) (And.intro (sm_lin (by decide)) (sm_in (sm_in (And.intro rfl k))))))))))))))))))))))))
def sp_relieve (s : St) (m : Nat) : St := (sMen s, sHold s, sLook s, sTired s, sCash s, some m, 0, sTerm s)
def sp_cashier (s : St) (m : Nat) : St := (sMen s, sHold s, sLook s, sTired s, sm_up (sCash s) m true, if sUp s = some m then none else sUp s, if sUp s = some m then 0 else sHeld s, sTerm s)
def sp_pardon (s : St) (m : Nat) : St := (sMen s, sHold s, sLook s, sm_up (sTired s) m 0, sm_up (sCash s) m false, sUp s, sHeld s, sTerm s)
/-- what moving touches, in the model -/
def mFm (I I' : Nat → Nat → Int32) (L L' : Nat → Nat → Int64) : Prop := (∀ a j, ¬ (a = 123 ∧ (j = 38 ∨ j = 34)) → a ≠ 144 → ¬ (a = 125 ∧ 4 ≤ j ∧ j < 24) → I' a j = I a j) ∧ ∀ a j, a ≠ 143 → a ≠ 141 → ¬ (a = 123 ∧ (j = 39 ∨ j = 40)) → L' a j = L a j
theorem mFm.rfl' (I : Nat → Nat → Int32) (L : Nat → Nat → Int64) : mFm I I L L := ⟨fun _ _ _ _ _ => rfl, fun _ _ _ _ _ => rfl⟩
theorem mFm.trans {I I' I2 : Nat → Nat → Int32} {L L' L2 : Nat → Nat → Int64} (h1 : mFm I I' L L') (h2 : mFm I' I2 L' L2) : mFm I I2 L L2 := ⟨fun a j h g f => (h2.1 a j h g f).trans (h1.1 a j h g f), fun a j h h' h'' => (h2.2 a j h h' h'').trans (h1.2 a j h h' h'')⟩
theorem mFt.m {I I' : Nat → Nat → Int32} {L L' : Nat → Nat → Int64} (h : mFt I I' L L') : mFm I I' L L' := ⟨fun a j h1 _ _ => h.1 a j h1, h.2⟩
theorem mFm.r (I : Nat → Nat → Int32) (L : Nat → Nat → Int64) {i : Nat} (v : Int32) (h1 : 4 ≤ i) (h2 : i < 24) : mFm I (sm_st I 125 i v) L L := ⟨fun a j _ _ h => by
  by_cases ha : a = 125
  · exact sm_st_j _ _ (fun hj => h ⟨ha, by omega, by omega⟩)
  · exact sm_st_o _ _ ha, fun _ _ _ _ _ => rfl⟩
theorem mFm.t (I : Nat → Nat → Int32) (L : Nat → Nat → Int64) (i : Nat) (v : Int32) : mFm I (sm_st I 144 i v) L L := ⟨fun a j _ h _ => sm_st_o _ _ h, fun _ _ _ _ _ => rfl⟩
theorem mForce_r {I I' : Nat → Nat → Int32} {F : Option (Nat × Law)} (h : ∀ j, ¬ (4 ≤ j ∧ j < 24) → I' 125 j = I 125 j) (hF : mForce I F) : mForce I' F := by
  match F, hF with
  | none, hF =>
    show I' 125 3 = -1
    rw [h 3 (by omega)]
    exact hF
  | some (j, l), hF =>
    obtain ⟨h1, h2, h3, h4, h5⟩ := hF
    refine ⟨by rw [h 3 (by omega)]; exact h1, h2, by rw [h _ (by omega)]; exact h3, h4, fun c x hx => ?_⟩
    have e2 : cdB I' (50 + 900 * j) = cdB I (50 + 900 * j) := by
      funext k
      unfold cdB
      rw [h _ (by omega), h _ (by omega)]
    have := h5 c x hx
    unfold mCl at this ⊢
    rw [e2, h _ (by omega), h _ (by omega), h _ (by omega), h _ (by omega), h _ (by omega)]
    exact this
theorem mFm.F {I I' : Nat → Nat → Int32} {L L' : Nat → Nat → Int64} {F : Option (Nat × Law)} (h : mFm I I' L L') (hF : mForce I F) : mForce I' F := mForce_r (fun j hj => h.1 125 j (by simp) (by simp) (fun z => hj z.2)) hF
theorem mFt.S {I I' : Nat → Nat → Int32} {L L' : Nat → Nat → Int64} {s : St} (h : mFt I I' L L') (hs : mS s (I 125)) : mS s (I' 125) := by
  have : I' 125 = I 125 := funext fun j => h.1 125 j (by simp)
  rw [this]
  exact hs
theorem mS_relieve {s : St} {r : Nat → Int32} {m : Nat} (hs : mS s r) (r' : Nat → Int32) (h8 : r' 8 = nI m) (h9 : r' 9 = 0) (ho : ∀ j, j ≠ 8 → j ≠ 9 → r' j = r j) (h7 : sMen s ≤ 7) : mS (sp_relieve s m) r' := by
  obtain ⟨h0, h1, h2, h3, h4⟩ := hs
  refine ⟨by rw [ho 0 (by decide) (by decide)]; exact h0, fun i hi => ?_, h8, h9, fun j hj => ?_⟩
  · have hi' : i < sMen s := hi
    rw [ho _ (by omega) (by omega), ho _ (by omega) (by omega), ho _ (by omega) (by omega), ho _ (by omega) (by omega)]
    exact h1 i hi
  · rw [ho _ (by omega) (by omega)]
    exact h4 j hj
theorem c_X11_relieveIt {ex : sm_O} {n : Nat} {y : sm_Y} {I : Nat → Nat → Int32} {L : Nat → Nat → Int64} {R : Nat → Nat → Option Nat} {Q : sm_Q} {d m : Nat} {w2 : Option Value} {s : St} {F : Option (Nat × Law)} (hd : 6 ≤ d) (hG : sm_G y R) (hs : mS s (I 125)) (hok : sp_ok s) (hm : m < sMen s) (h20 : I 123 20 = 0) (hF : mForce I F)
    (k : ∀ (I' : Nat → Nat → Int32) (L' : Nat → Nat → Int64), mFm I I' L L' → mS (sp_relieve s m) (I' 125) → Q (some (.int (nI (sp_notice F s m (sUp s))))) (n, y, I', L', R)) : sm_W ex d 0 0 190 0 [some (.ref 123), some (.int (nI m)), w2] [] (n, y, I, L, R) Q := by
  refine w_X11_relieveIt_0 (d1 := 5) hG (by omega) ?_
  rw [hs.2.2.1]
  refine c_X11_noticed (s := s) (F := F) (Nat.le_refl 5) hG hs hok hm hok.2.2.1 h20 hF ?_
  intro I' L' hf
  refine w_X11_relieveIt_12 hG ?_
  refine k _ L' (hf.m.trans ((mFm.r I' L' _ (by decide) (by decide)).trans (mFm.r _ L' _ (by decide) (by decide)))) ?_
  refine mS_relieve (r := I' 125) (hf.S hs) _ ?_ ?_ (fun j h8 h9 => ?_) hok.1
  · rw [sm_st_j _ _ (by decide), sm_st_s]
  · rw [sm_st_s]
  · rw [sm_st_j _ _ h9, sm_st_j _ _ h8]
theorem mS_cashier {s : St} {r r' : Nat → Int32} {m : Nat} (hs : mS s r) (hok : sp_ok s) (hm : m < sMen s) (h1 : r' (17 + m) = 1) (h8 : r' 8 = if sUp s = some m then -1 else r 8) (h9 : r' 9 = if sUp s = some m then 0 else r 9) (ho : ∀ j, j ≠ 17 + m → j ≠ 8 → j ≠ 9 → r' j = r j) : mS (sp_cashier s m) r' := by
  have h7 := hok.1
  obtain ⟨g0, g1, g2, g3, g4⟩ := hs
  refine ⟨by rw [ho 0 (by omega) (by decide) (by decide)]; exact g0, fun i hi => ?_, ?_, ?_, fun j hj => ?_⟩
  · have hi' : i < sMen s := hi
    have g := g1 i hi'
    rw [ho (24 + i) (by omega) (by omega) (by omega), ho (31 + i) (by omega) (by omega) (by omega), ho (10 + i) (by omega) (by omega) (by omega)]
    refine ⟨g.1, g.2.1, g.2.2.1, ?_⟩
    show r' (17 + i) = if sm_up (sCash s) m true i = true then 1 else 0
    by_cases e : i = m
    · subst e
      rw [h1]
      simp [sm_up]
    · rw [ho (17 + i) (by omega) (by omega) (by omega)]
      simp only [sm_up, if_neg e]
      exact g.2.2.2
  · rw [h8]
    show _ = sp_up (if sUp s = some m then none else sUp s)
    split
    · rfl
    · exact g2
  · rw [h9]
    show _ = nI (if sUp s = some m then 0 else sHeld s)
    split
    · rfl
    · exact g3
  · rw [ho (4 + j) (by omega) (by omega) (by omega)]
    exact g4 j hj
theorem c_X11_cashier {ex : sm_O} {n : Nat} {y : sm_Y} {I : Nat → Nat → Int32} {L : Nat → Nat → Int64} {R : Nat → Nat → Option Nat} {Q : sm_Q} {d m : Nat} {s : St} (hG : sm_G y R) (hs : mS s (I 125)) (hok : sp_ok s) (hm : m < sMen s)
    (k : ∀ (I' : Nat → Nat → Int32), mFm I I' L L → mS (sp_cashier s m) (I' 125) → Q none (n, y, I', L, R)) : sm_W ex d 0 0 193 0 [some (.ref 123), some (.int (nI m))] [] (n, y, I, L, R) Q := by
  have h7 := hok.1
  refine w_X11_cashier_0 hG ?_
  refine ⟨sm_ci17 (by omega) (by decide), ?_⟩
  rw [sm_cx17 (by omega), sm_st_j _ _ (by omega), hs.2.2.1]
  have f1 := mFm.r I L (i := 17 + m) 1 (by omega) (by omega)
  by_cases hu : sUp s = some m
  · rw [if_pos ((sp_up_eq hok.2.2.1 (by omega) hm).mpr hu)]
    refine k _ (f1.trans ((mFm.r _ L _ (by decide) (by decide)).trans (mFm.r _ L _ (by decide) (by decide)))) ?_
    refine mS_cashier hs hok hm ?_ ?_ ?_ (fun j h1 h2 h3 => ?_)
    · rw [sm_st_j _ _ (by omega), sm_st_j _ _ (by omega), sm_st_s]
    · rw [if_pos hu, sm_st_j _ _ (by omega), sm_st_s]
    · rw [if_pos hu, sm_st_s]
    · rw [sm_st_j _ _ h3, sm_st_j _ _ h2, sm_st_j _ _ h1]
  · rw [if_neg (fun q => hu ((sp_up_eq hok.2.2.1 (by omega) hm).mp q))]
    refine k _ f1 ?_
    refine mS_cashier hs hok hm ?_ ?_ ?_ (fun j h1 h2 h3 => ?_)
    · rw [sm_st_s]
    · rw [if_neg hu, sm_st_j _ _ (by omega)]
    · rw [if_neg hu, sm_st_j _ _ (by omega)]
    · rw [sm_st_j _ _ h1]
theorem c_X11_pardonIt {ex : sm_O} {n : Nat} {y : sm_Y} {I : Nat → Nat → Int32} {L : Nat → Nat → Int64} {R : Nat → Nat → Option Nat} {Q : sm_Q} {d m : Nat} {s : St} (hG : sm_G y R) (hs : mS s (I 125)) (hok : sp_ok s) (hm : m < sMen s)
    (k : ∀ (I' : Nat → Nat → Int32), mFm I I' L L → mS (sp_pardon s m) (I' 125) → Q none (n, y, I', L, R)) : sm_W ex d 0 0 196 0 [some (.ref 123), some (.int (nI m))] [] (n, y, I, L, R) Q := by
  have h7 := hok.1
  refine w_X11_pardonIt_0 hG ?_
  refine ⟨sm_ci17 (by omega) (by decide), sm_ci10 (by omega) (by decide), ?_⟩
  rw [sm_cx17 (by omega), sm_cx10 (by omega)]
  refine k _ ((mFm.r I L (i := 17 + m) 0 (by omega) (by omega)).trans (mFm.r _ L (i := 10 + m) 0 (by omega) (by omega))) ?_
  obtain ⟨g0, g1, g2, g3, g4⟩ := hs
  have ho : ∀ j, j ≠ 17 + m → j ≠ 10 + m → sm_st (sm_st I 125 (17 + m) 0) 125 (10 + m) 0 125 j = I 125 j := fun j h1 h2 => by rw [sm_st_j _ _ h2, sm_st_j _ _ h1]
  refine ⟨by rw [ho 0 (by omega) (by omega)]; exact g0, fun i hi => ?_, by rw [ho 8 (by omega) (by omega)]; exact g2, by rw [ho 9 (by omega) (by omega)]; exact g3, fun j hj => by rw [ho (4 + j) (by omega) (by omega)]; exact g4 j hj⟩
  have hi' : i < sMen s := hi
  have g := g1 i hi'
  rw [ho (24 + i) (by omega) (by omega), ho (31 + i) (by omega) (by omega)]
  refine ⟨g.1, g.2.1, ?_, ?_⟩
  · show _ = nI (sm_up (sTired s) m 0 i)
    by_cases e : i = m
    · subst e
      rw [sm_st_s]
      simp [sm_up]
      rfl
    · rw [ho (10 + i) (by omega) (by omega)]
      simp only [sm_up, if_neg e]
      exact g.2.2.1
  · show _ = if sm_up (sCash s) m false i = true then 1 else 0
    by_cases e : i = m
    · subst e
      rw [sm_st_j _ _ (by omega), sm_st_s]
      simp [sm_up]
    · rw [ho (17 + i) (by omega) (by omega)]
      simp only [sm_up, if_neg e]
      exact g.2.2.2
end
section
set_option maxRecDepth 100000 in
theorem w_X11_passIt_0 {ex : sm_O} {d n : Nat} {y : sm_Y} {I : Nat → Nat → Int32} {L : Nat → Nat → Int64} {R : Nat → Nat → Option Nat} {Q : sm_Q} {w1 : Option Value} {w2 : Option Value} (hG : sm_G y R) (k : sm_W ex d 0 0 199 10 [some (.ref 123), some (.int (I 125 8)), some (.int 0)] [] (n, y, I, L, R) Q) : sm_W ex d 0 0 199 0 [some (.ref 123), w1, w2] [] (n, y, I, L, R) Q := sm_in (sm_in (And.intro (hG.1 123 (Nat.le_of_ble_eq_true rfl)) (sm_gfr rfl (hG.2 123 3 rfl) (sm_in (sm_in (Exists.intro 5450 (And.intro (hG.1 125 (Nat.le_of_ble_eq_true rfl)) (And.intro (sm_lin (by decide)) (sm_in (And.intro (Nat.le_of_ble_eq_true rfl) (sm_in (sm_in (And.intro (Nat.le_of_ble_eq_true rfl) (k))))))))))))))
set_option maxRecDepth 100000 in
theorem w_X11_passIt_10 {ex : sm_O} {d n : Nat} {y : sm_Y} {I : Nat → Nat → Int32} {L : Nat → Nat → Int64} {R : Nat → Nat → Option Nat} {Q : sm_Q} {a1 : Int32} {a2 : Int32} {d1 : Nat} (hG : sm_G y R) (h1 : d1 < d) (k : if (I 125 0) ≤ a2 then (sm_W ex d 0 0 199 72 [some (.ref 123), some (.int a1), some (.int 0)] [] (n, y, I, L, R) Q) else (if a2 = a1 then (vp_in (10 + a2) 5450 ∧ sm_W ex d1 0 0 185 0 [some (.ref 123), some (.int a2)] [] (n, y, I, L, R) (fun r μ1 => sm_W ex d 0 0 199 44 [some (.ref 123), some (.int a1), some (.int a2)] (r.toList ++ [.int (I 125 (10 + a2).toNatClampNeg), .int a2, .ref 144]) μ1 Q)) else (vp_in (10 + a2) 5450 ∧ sm_W ex d1 0 0 186 0 [some (.ref 123), some (.int a2)] [] (n, y, I, L, R) (fun r μ1 => sm_W ex d 0 0 199 62 [some (.ref 123), some (.int a1), some (.int a2)] (r.toList ++ [.int (I 125 (10 + a2).toNatClampNeg), .int a2, .ref 144]) μ1 Q)))) : sm_W ex d 0 0 199 10 [some (.ref 123), some (.int a1), some (.int a2)] [] (n, y, I, L, R) Q := sm_in (sm_in (sm_in (And.intro (hG.1 123 (Nat.le_of_ble_eq_true rfl)) (sm_gfr rfl (hG.2 123 3 rfl) (sm_in (sm_in (Exists.intro 5450 (And.intro (hG.1 125 (Nat.le_of_ble_eq_true rfl)) (And.intro (sm_lin (by decide)) (sm_in (And.intro (fun c1 => have k1t := Eq.mp (if_pos c1) k; sm_in (sm_in (And.intro (Nat.le_of_ble_eq_true rfl) (k1t)))) (fun c1 => have k1f := Eq.mp (if_neg c1) k; sm_in (sm_in (And.intro (hG.1 123 (Nat.le_of_ble_eq_true rfl)) (sm_gfr rfl (hG.2 123 41 rfl) (sm_in (sm_in (sm_in (sm_in (And.intro (fun c2 => have k2f := Eq.mp (if_neg c2) k1f; sm_in (sm_in (And.intro (hG.1 123 (Nat.le_of_ble_eq_true rfl)) (sm_gfr rfl (hG.2 123 3 rfl) (sm_in (sm_in (sm_in ((have e4 := k2f.1; have k4 := k2f.2; sm_in (Exists.intro 5450 (And.intro (hG.1 125 (Nat.le_of_ble_eq_true rfl)) (And.intro e4 (sm_in (sm_in (sm_in (Exists.intro 11 (And.intro (hG.1 123 (Nat.le_of_ble_eq_true rfl)) (And.intro rfl (sm_calln h1 (Nat.le_of_ble_eq_true rfl) (Nat.le_of_ble_eq_true rfl) k4))))))))))))))))))) (fun c2 => have k2t := Eq.mp (if_pos c2) k1f; sm_in (sm_in (And.intro (hG.1 123 (Nat.le_of_ble_eq_true rfl)) (sm_gfr rfl (hG.2 123 3 rfl) (sm_in (sm_in (sm_in ((have e3 := k2t.1; have k3 := k2t.2; sm_in (Exists.intro 5450 (And.intro (hG.1 125 (Nat.le_of_ble_eq_true rfl)) (And.intro e3 (sm_in (sm_in (sm_in (Exists.intro 11 (And.intro (hG.1 123 (Nat.le_of_ble_eq_true rfl)) (And.intro rfl (sm_calln h1 (Nat.le_of_ble_eq_true rfl) (Nat.le_of_ble_eq_true rfl) k3)))))))))))))))))))))))))))))))))))))))
set_option maxRecDepth 100000 in
theorem w_X11_passIt_44 {ex : sm_O} {d n : Nat} {y : sm_Y} {I : Nat → Nat → Int32} {L : Nat → Nat → Int64} {R : Nat → Nat → Option Nat} {Q : sm_Q} {w0 : Option Value} {a1 : Int32} {a2 : Int32} {s0 : Int32} {s1 : Int32} {s2 : Int32} (hG : sm_G y R) (k : vp_in s2 7 ∧ sm_W ex d 0 0 199 10 [w0, some (.int a1), some (.int (a2 + 1))] [] (n, y, sm_st I 144 s2.toNatClampNeg (s1 + s0), L, R) Q) : sm_W ex d 0 0 199 44 [w0, some (.int a1), some (.int a2)] [.int s0, .int s1, .int s2, .ref 144] (n, y, I, L, R) Q := sm_in (sm_in ((have e1 := k.1; have k1 := k.2; sm_in (Exists.intro 7 (And.intro (hG.1 144 (Nat.le_of_ble_eq_true rfl)) (And.intro e1 (sm_in (And.intro (Nat.le_of_ble_eq_true rfl) (sm_in (k1))))))))))
set_option maxRecDepth 100000 in
theorem w_X11_passIt_62 {ex : sm_O} {d n : Nat} {y : sm_Y} {I : Nat → Nat → Int32} {L : Nat → Nat → Int64} {R : Nat → Nat → Option Nat} {Q : sm_Q} {w0 : Option Value} {a1 : Int32} {a2 : Int32} {s0 : Int32} {s1 : Int32} {s2 : Int32} (hG : sm_G y R) (k : vp_in s2 7 ∧ sm_W ex d 0 0 199 10 [w0, some (.int a1), some (.int (a2 + 1))] [] (n, y, sm_st I 144 s2.toNatClampNeg (s1 - s0), L, R) Q) : sm_W ex d 0 0 199 62 [w0, some (.int a1), some (.int a2)] [.int s0, .int s1, .int s2, .ref 144] (n, y, I, L, R) Q := sm_in ((have e1 := k.1; have k1 := k.2; sm_in (Exists.intro 7 (And.intro (hG.1 144 (Nat.le_of_ble_eq_true rfl)) (And.intro e1 (sm_in (And.intro (Nat.le_of_ble_eq_true rfl) (sm_in (k1)))))))))
set_option maxRecDepth 100000 in
theorem w_X11_passIt_72 {ex : sm_O} {d n : Nat} {y : sm_Y} {I : Nat → Nat → Int32} {L : Nat → Nat → Int64} {R : Nat → Nat → Option Nat} {Q : sm_Q} {a1 : Int32} {a2 : Int32} {d1 : Nat} (hG : sm_G y R) (h1 : d1 < d) (k : if (I 125 0) ≤ a2 then (if a1 = (-1) then (Q (some (.int 0)) (n, y, sm_st I 125 4 ((I 125 4) + 1), L, R)) else (sm_W ex d1 0 0 126 0 [some (.long (((I 125 9).toInt64) + 1)), none, some (.int 0), some (.int 99)] [] (n, y, sm_st I 125 4 ((I 125 4) + 1), L, R) (fun r μ1 => sm_W ex d 0 0 199 149 [some (.ref 123), some (.int a1), some (.int a2)] (r.toList ++ [.int 9, .ref 125]) μ1 Q))) else (vp_in a2 7 ∧ sm_W ex d1 0 0 126 0 [some (.long ((I 144 a2.toNatClampNeg).toInt64)), none, some (.int 0), some (.int 99)] [] (n, y, I, L, R) (fun r μ1 => sm_W ex d 0 0 199 103 [some (.ref 123), some (.int a1), some (.int a2)] (r.toList ++ [.int (10 + a2), .ref 125]) μ1 Q))) : sm_W ex d 0 0 199 72 [some (.ref 123), some (.int a1), some (.int a2)] [] (n, y, I, L, R) Q := sm_in (sm_in (sm_in (And.intro (hG.1 123 (Nat.le_of_ble_eq_true rfl)) (sm_gfr rfl (hG.2 123 3 rfl) (sm_in (sm_in (Exists.intro 5450 (And.intro (hG.1 125 (Nat.le_of_ble_eq_true rfl)) (And.intro (sm_lin (by decide)) (sm_in (And.intro (fun c1 => have k1t := Eq.mp (if_pos c1) k; sm_in (sm_in (And.intro (hG.1 123 (Nat.le_of_ble_eq_true rfl)) (sm_gfr rfl (hG.2 123 3 rfl) (sm_in (sm_in (And.intro rfl (And.intro rfl (sm_in (Exists.intro 5450 (And.intro (hG.1 125 (Nat.le_of_ble_eq_true rfl)) (And.intro (sm_lin (by decide)) (sm_in (sm_in (sm_in (Exists.intro 5450 (And.intro (hG.1 125 (Nat.le_of_ble_eq_true rfl)) (And.intro (sm_lin (by decide)) (sm_in (sm_in (sm_in (And.intro (fun c2 => have k2f := Eq.mp (if_neg c2) k1t; sm_in (sm_in (And.intro (hG.1 123 (Nat.le_of_ble_eq_true rfl)) (sm_gfr rfl (hG.2 123 3 rfl) (sm_in (sm_in (sm_in (And.intro (hG.1 123 (Nat.le_of_ble_eq_true rfl)) (sm_gfr rfl (hG.2 123 3 rfl) (sm_in (sm_in (Exists.intro 5450 (And.intro (hG.1 125 (Nat.le_of_ble_eq_true rfl)) (And.intro (sm_lin (by decide)) (sm_in (sm_in (sm_in (sm_in (sm_in (sm_in (And.intro (Nat.le_of_ble_eq_true rfl) (sm_calln h1 (Nat.le_of_ble_eq_true rfl) (Nat.le_of_ble_eq_true rfl) k2f)))))))))))))))))))))) (fun c2 => have k2t := Eq.mp (if_pos c2) k1t; sm_in (sm_in (And.intro rfl k2t))))))))))))))))))))))))) (fun c1 => have k1f := Eq.mp (if_neg c1) k; sm_in (sm_in (And.intro (hG.1 123 (Nat.le_of_ble_eq_true rfl)) (sm_gfr rfl (hG.2 123 3 rfl) (sm_in (sm_in (sm_in (sm_in (sm_in (And.intro (hG.1 123 (Nat.le_of_ble_eq_true rfl)) (sm_gfr rfl (hG.2 123 41 rfl) (sm_in ((have e3 := k1f.1; have k3 := k1f.2; sm_in (Exists.intro 7 (And.intro (hG.1 144 (Nat.le_of_ble_eq_true rfl)) (And.intro e3 (sm_in (sm_in (sm_in (sm_in (And.intro (Nat.le_of_ble_eq_true rfl) (sm_calln h1 (Nat.le_of_ble_eq_true rfl) (Nat.le_of_ble_eq_true rfl) k3))))))))))))))))))))))))))))))))))
set_option maxRecDepth 100000 in
theorem w_X11_passIt_103 {ex : sm_O} {d n : Nat} {y : sm_Y} {I : Nat → Nat → Int32} {L : Nat → Nat → Int64} {R : Nat → Nat → Option Nat} {Q : sm_Q} {w0 : Option Value} {a1 : Int32} {a2 : Int32} {s0 : Int32} {s1 : Int32} (hG : sm_G y R) (k : vp_in s1 5450 ∧ sm_W ex d 0 0 199 72 [w0, some (.int a1), some (.int (a2 + 1))] [] (n, y, sm_st I 125 s1.toNatClampNeg s0, L, R) Q) : sm_W ex d 0 0 199 103 [w0, some (.int a1), some (.int a2)] [.int s0, .int s1, .ref 125] (n, y, I, L, R) Q := (have e1 := k.1; have k1 := k.2; sm_in (Exists.intro 5450 (And.intro (hG.1 125 (Nat.le_of_ble_eq_true rfl)) (And.intro e1 (sm_in (And.intro (Nat.le_of_ble_eq_true rfl) (sm_in (k1))))))))
set_option maxRecDepth 100000 in
theorem w_X11_passIt_149 {ex : sm_O} {d n : Nat} {y : sm_Y} {I : Nat → Nat → Int32} {L : Nat → Nat → Int64} {R : Nat → Nat → Option Nat} {Q : sm_Q} {w2 : Option Value} {a1 : Int32} {s0 : Int32} {s1 : Int32} {d1 : Nat} (hG : sm_G y R) (h1 : d1 < d) (k : vp_in s1 5450 ∧ vp_in (10 + a1) 5450 ∧ vp_in (24 + a1) 5450 ∧ (if ((sm_st I 125 s1.toNatClampNeg s0) 125 (24 + a1).toNatClampNeg) < ((sm_st I 125 s1.toNatClampNeg s0) 125 (10 + a1).toNatClampNeg) then (sm_W ex d1 0 0 193 0 [some (.ref 123), some (.int a1)] [] (n, y, sm_st I 125 s1.toNatClampNeg s0, L, R) (fun r μ1 => sm_W ex d 0 0 199 178 [some (.ref 123), some (.int a1), w2] (r.toList ++ []) μ1 Q)) else (Q (some (.int 0)) (n, y, sm_st I 125 s1.toNatClampNeg s0, L, R)))) : sm_W ex d 0 0 199 149 [some (.ref 123), some (.int a1), w2] [.int s0, .int s1, .ref 125] (n, y, I, L, R) Q := (have e1 := k.1; have k1 := k.2; sm_in (Exists.intro 5450 (And.intro (hG.1 125 (Nat.le_of_ble_eq_true rfl)) (And.intro e1 (sm_in (sm_in (And.intro (hG.1 123 (Nat.le_of_ble_eq_true rfl)) (sm_gfr rfl (hG.2 123 3 rfl) (sm_in (sm_in (sm_in ((have e2 := k1.1; have k2 := k1.2; sm_in (Exists.intro 5450 (And.intro (hG.1 125 (Nat.le_of_ble_eq_true rfl)) (And.intro e2 (sm_in (sm_in (And.intro (hG.1 123 (Nat.le_of_ble_eq_true rfl)) (sm_gfr rfl (hG.2 123 3 rfl) (sm_in (sm_in (sm_in ((have e3 := k2.1; have k3 := k2.2; sm_in (Exists.intro 5450 (And.intro (hG.1 125 (Nat.le_of_ble_eq_true rfl)) (And.intro e3 (sm_in (And.intro (fun c4 => have k4t := Eq.mp (if_pos c4) k3; sm_in (sm_in (sm_in (Exists.intro 11 (And.intro (hG.1 123 (Nat.le_of_ble_eq_true rfl)) (And.intro rfl (sm_calln h1 (Nat.le_of_ble_eq_true rfl) (Nat.le_of_ble_eq_true rfl) k4t))))))) (fun c4 => have k4f := Eq.mp (if_neg c4) k3; sm_in (sm_in (And.intro rfl k4f)))))))))))))))))))))))))))))))))
set_option maxRecDepth 100000 in
theorem w_X11_passIt_178 {ex : sm_O} {d n : Nat} {y : sm_Y} {I : Nat → Nat → Int32} {L : Nat → Nat → Int64} {R : Nat → Nat → Option Nat} {Q : sm_Q} {w0 : Option Value} {w1 : Option Value} {w2 : Option Value} (k : Q (some (.int 1)) (n, y, I, L, R)) : sm_W ex d 0 0 199 178 [w0, w1, w2] [] (n, y, I, L, R) Q := sm_in (sm_in (And.intro rfl k))
-- THE HOUR (the model)
def sp_tire (F : Option (Nat × Law)) (s : St) (m : Nat) : Nat := if sUp s = some m then min 99 (sTired s m + sp_tires F s m) else sTired s m - sp_rests F s m
def sp_hour0 (F : Option (Nat × Law)) (s : St) : St := (sMen s, sHold s, sLook s, sp_tire F s, sCash s, sUp s, (match sUp s with
  | none => sHeld s
  | some _ => min 99 (sHeld s + 1)), sm_up (sTerm s) 0 (sTerm s 0 + 1))
/-- an hour: the state behind it, how many shake -/
def sp_hour (F : Option (Nat × Law)) (s : St) : St × Nat := match sUp s with
  | none => (sp_hour0 F s, 0)
  | some u => if sp_tire F s u ≤ sHold s u then (sp_hour0 F s, 0) else (sp_cashier (sp_hour0 F s) u, 1)
def sp_tv (F : Option (Nat × Law)) (s : St) (m : Nat) : Int := if sUp s = some m then (sTired s m : Int) + sp_tires F s m else (sTired s m : Int) - sp_rests F s m
theorem sp_tv_cl (F : Option (Nat × Law)) (s : St) (m : Nat) (h : sTired s m ≤ 99) : sp_clN 99 (sp_tv F s m) = sp_tire F s m := by
  unfold sp_clN sp_tv sp_tire
  by_cases hu : sUp s = some m
  · simp only [if_pos hu]
    rw [if_neg (by omega)]
    split
    · omega
    · omega
  · simp only [if_neg hu]
    split
    · omega
    · split <;> omega
theorem sp_tire_le (F : Option (Nat × Law)) (s : St) (m : Nat) (h : sTired s m ≤ 99) : sp_tire F s m ≤ 99 := by
  rw [← sp_tv_cl F s m h]
  exact sp_clN_le 99 _
theorem sp_hour0_ok {F : Option (Nat × Law)} {s : St} (h : sp_ok s) (ht : sTerm s 0 < 100000) : sp_ok (sp_hour0 F s) := by
  obtain ⟨h1, h2, h3, h4, h5, h6, h7, h8⟩ := h
  refine ⟨h1, fun i hi => ⟨(h2 i hi).1, (h2 i hi).2.1, (h2 i hi).2.2.1, sp_tire_le F s i (h2 i hi).2.2.2⟩, h3, ?_, ?_, h6, h7, h8⟩
  · show (match sUp s with | none => sHeld s | some _ => min 99 (sHeld s + 1)) ≤ 99
    cases sUp s with
    | none => exact h4
    | some u => exact Nat.min_le_left 99 _
  · show sm_up (sTerm s) 0 (sTerm s 0 + 1) 0 ≤ 100000
    simp [sm_up]
    omega
theorem sp_cashier_ok {s : St} {m : Nat} (h : sp_ok s) : sp_ok (sp_cashier s m) := by
  obtain ⟨h1, h2, h3, h4, h5, h6, h7, h8⟩ := h
  refine ⟨h1, h2, fun u hu => ?_, ?_, h5, h6, h7, h8⟩
  · have hu : (if sUp s = some m then none else sUp s) = some u := hu
    split at hu
    · cases hu
    · exact h3 u hu
  · show (if sUp s = some m then 0 else sHeld s) ≤ 99
    split <;> omega
theorem sp_hour_ok {F : Option (Nat × Law)} {s : St} (h : sp_ok s) (ht : sTerm s 0 < 100000) : sp_ok (sp_hour F s).1 := by
  unfold sp_hour
  split
  · exact sp_hour0_ok h ht
  · split
    · exact sp_hour0_ok h ht
    · exact sp_cashier_ok (sp_hour0_ok h ht)
theorem sp_hour_term (F : Option (Nat × Law)) (s : St) : sTerm (sp_hour F s).1 = sm_up (sTerm s) 0 (sTerm s 0 + 1) := by
  unfold sp_hour
  split
  · rfl
  · split <;> rfl
set_option maxHeartbeats 2000000 in
theorem c_X11_passIt {ex : sm_O} {n : Nat} {y : sm_Y} {I : Nat → Nat → Int32} {L : Nat → Nat → Int64} {R : Nat → Nat → Option Nat} {Q : sm_Q} {d : Nat} {w1 w2 : Option Value} {s : St} {F : Option (Nat × Law)} (hd : 6 ≤ d) (hG : sm_G y R) (hs : mS s (I 125)) (hok : sp_ok s) (ht0 : sTerm s 0 < 100000) (h20 : I 123 20 = 0) (hF : mForce I F)
    (k : ∀ (I' : Nat → Nat → Int32) (L' : Nat → Nat → Int64), mFm I I' L L' → mS (sp_hour F s).1 (I' 125) → Q (some (.int (nI (sp_hour F s).2))) (n, y, I', L', R)) : sm_W ex d 0 0 199 0 [some (.ref 123), w1, w2] [] (n, y, I, L, R) Q := by
  have h7 := hok.1
  -- behind both loops
  have fin : ∀ (I2 : Nat → Nat → Int32) (L2 : Nat → Nat → Int64), mFm I I2 L L2 → (∀ x, I2 125 x = if 10 ≤ x ∧ x < 10 + sMen s then nI (sp_tire F s (x - 10)) else I 125 x) → sm_W ex d 0 0 199 72 [some (.ref 123), some (.int (sp_up (sUp s))), some (.int (nI (sMen s)))] [] (n, y, I2, L2, R) Q := by
    intro I2 L2 hf hr
    have r0 : I2 125 0 = nI (sMen s) := by rw [hr, if_neg (by omega)]; exact hs.1
    have r4 : I2 125 4 = nI (sTerm s 0) := by rw [hr, if_neg (by omega)]; exact hs.2.2.2.2 0 (by decide)
    refine w_X11_passIt_72 (d1 := 0) hG (by omega) ?_
    rw [r0, if_pos (Int32.le_refl _), r4, sm_n1]
    have hf4 : mFm I (sm_st I2 125 4 (nI (sTerm s 0 + 1))) L L2 := hf.trans (mFm.r I2 L2 _ (by decide) (by decide))
    have ho : ∀ x, x ≠ 4 → sm_st I2 125 4 (nI (sTerm s 0 + 1)) 125 x = if 10 ≤ x ∧ x < 10 + sMen s then nI (sp_tire F s (x - 10)) else I 125 x := fun x hx => by rw [sm_st_j _ _ hx]; exact hr x
    -- the state behind, whatever held is
    have hS : ∀ (I3 : Nat → Nat → Int32), I3 125 4 = nI (sTerm s 0 + 1) → I3 125 9 = nI (sHeld (sp_hour0 F s)) → (∀ x, x ≠ 4 → x ≠ 9 → I3 125 x = if 10 ≤ x ∧ x < 10 + sMen s then nI (sp_tire F s (x - 10)) else I 125 x) → mS (sp_hour0 F s) (I3 125) := by
      intro I3 e4 e9 eo
      refine ⟨by rw [eo 0 (by decide) (by decide), if_neg (by omega)]; exact hs.1, fun i hi => ?_, by rw [eo 8 (by decide) (by decide), if_neg (by omega)]; exact hs.2.2.1, e9, fun j hj => ?_⟩
      · have hi' : i < sMen s := hi
        have g := hs.2.1 i hi'
        refine ⟨by rw [eo (24 + i) (by omega) (by omega), if_neg (by omega)]; exact g.1, by rw [eo (31 + i) (by omega) (by omega), if_neg (by omega)]; exact g.2.1, ?_, by rw [eo (17 + i) (by omega) (by omega), if_neg (by omega)]; exact g.2.2.2⟩
        rw [eo (10 + i) (by omega) (by omega), if_pos (by omega), show 10 + i - 10 = i by omega]
        rfl
      · show I3 125 (4 + j) = nI (sm_up (sTerm s) 0 (sTerm s 0 + 1) j)
        by_cases e : j = 0
        · subst e
          simp only [sm_up, if_true]
          exact e4
        · rw [eo (4 + j) (by omega) (by omega), if_neg (by omega)]
          simp only [sm_up, if_neg e]
          exact hs.2.2.2.2 j hj
    cases hu : sUp s with
    | none =>
      rw [if_pos (show sp_up none = -1 from rfl)]
      have hh : sp_hour F s = (sp_hour0 F s, 0) := by unfold sp_hour; rw [hu]
      have k9 := k _ L2 hf4 (by
        rw [hh]
        refine hS _ (sm_st_s _ _ _ _) ?_ (fun x h4 _ => ho x h4)
        rw [ho 9 (by decide), if_neg (by omega)]
        show _ = nI (match sUp s with | none => sHeld s | some _ => min 99 (sHeld s + 1))
        rw [hu]
        exact hs.2.2.2.1)
      rw [hh] at k9
      exact k9
    | some u =>
      have hum : u < sMen s := hok.2.2.1 u hu
      rw [if_neg (by
        intro q
        have := congrArg Int32.toInt q
        rw [show sp_up (some u) = nI u from rfl, nI_toInt (by omega)] at this
        have z : (-1 : Int32).toInt = -1 := rfl
        omega)]
      have h9 : I2 125 9 = nI (sHeld s) := by rw [hr, if_neg (by omega)]; exact hs.2.2.2.1
      have hhe := hok.2.2.2.1
      rw [h9]
      refine c_X11_bounded (hi := 99) (by decide) ?_
      have ecl : sp_clN 99 (((nI (sHeld s)).toInt64 + 1).toInt) = min 99 (sHeld s + 1) := by
        have e1 : ((nI (sHeld s)).toInt64 + 1).toInt = (sHeld s : Int) + 1 := by
          rw [nI_l (by omega), lN_1, lN_toInt (by omega)]
          omega
        rw [e1]
        unfold sp_clN
        rw [if_neg (by omega)]
        split <;> omega
      rw [ecl]
      refine w_X11_passIt_149 (d1 := 0) hG (by omega) ?_
      have eh : sHeld (sp_hour0 F s) = min 99 (sHeld s + 1) := by
        show (match sUp s with | none => sHeld s | some _ => min 99 (sHeld s + 1)) = _
        rw [hu]
      have e9 : (9 : Int32).toNatClampNeg = 9 := rfl
      refine ⟨sm_lin (by decide), sm_ci10 (by omega) (by decide), sm_ci24 (by omega) (by decide), ?_⟩
      rw [e9, show sp_up (some u) = nI u from rfl, sm_cx10 (by omega), sm_cx24 (by omega)]
      have hf9 := hf4.trans (mFm.r (sm_st I2 125 4 (nI (sTerm s 0 + 1))) L2 (i := 9) (nI (min 99 (sHeld s + 1))) (by decide) (by decide))
      have hS9 : mS (sp_hour0 F s) (sm_st (sm_st I2 125 4 (nI (sTerm s 0 + 1))) 125 9 (nI (min 99 (sHeld s + 1))) 125) := hS _ (by rw [sm_st_j _ _ (by decide), sm_st_s]) (by rw [sm_st_s, eh]) (fun x h4 h9 => by rw [sm_st_j _ _ h9]; exact ho x h4)
      have gu := hS9.2.1 u hum
      rw [gu.1, gu.2.2.1]
      have htl := sp_tire_le F s u (hok.2.1 u hum).2.2.2
      have hhl := (hok.2.1 u hum).2.1
      by_cases hsh : sp_tire F s u ≤ sHold s u
      · have hh : sp_hour F s = (sp_hour0 F s, 0) := by unfold sp_hour; rw [hu]; dsimp only; rw [if_pos hsh]
        rw [if_neg (by
          rw [nI_ltI (by show sHold s u < _; omega) (by show sp_tire F s u < _; omega)]
          show ¬ sHold s u < sp_tire F s u
          omega)]
        have k9 := k _ L2 hf9 (by rw [hh]; exact hS9)
        rw [hh] at k9
        exact k9
      · have hh : sp_hour F s = (sp_cashier (sp_hour0 F s) u, 1) := by unfold sp_hour; rw [hu]; dsimp only; rw [if_neg hsh]
        rw [if_pos (by
          rw [nI_ltI (by show sHold s u < _; omega) (by show sp_tire F s u < _; omega)]
          show sHold s u < sp_tire F s u
          omega)]
        refine c_X11_cashier (s := sp_hour0 F s) hG hS9 (sp_hour0_ok hok ht0) hum ?_
        intro I4 hf5 hS5
        refine w_X11_passIt_178 ?_
        have k9 := k I4 L2 (hf9.trans hf5) (by rw [hh]; exact hS5)
        rw [hh] at k9
        exact k9
  -- the second loop
  have loop2 : ∀ (q j : Nat) (I2 : Nat → Nat → Int32) (L2 : Nat → Nat → Int64), j + q = sMen s → mFm I I2 L L2 → (∀ i, i < sMen s → (I2 144 i).toInt = sp_tv F s i) → (∀ x, I2 125 x = if 10 ≤ x ∧ x < 10 + j then nI (sp_tire F s (x - 10)) else I 125 x) → sm_W ex d 0 0 199 72 [some (.ref 123), some (.int (sp_up (sUp s))), some (.int (nI j))] [] (n, y, I2, L2, R) Q := by
    intro q
    induction q with
    | zero =>
      intro j I2 L2 hj hf _ hr
      obtain rfl : j = sMen s := by omega
      exact fin I2 L2 hf hr
    | succ q ih =>
      intro j I2 L2 hj hf hv hr
      have r0 : I2 125 0 = nI (sMen s) := by rw [hr, if_neg (by omega)]; exact hs.1
      refine w_X11_passIt_72 (d1 := 0) hG (by omega) ?_
      rw [r0, if_neg (by rw [nI_leI (by omega) (by omega)]; omega)]
      refine ⟨vp_in_nI (by omega) (by decide), ?_⟩
      rw [nI_clamp (by omega)]
      refine c_X11_bounded (hi := 99) (by decide) ?_
      rw [Int32.toInt_toInt64, hv j (by omega), sp_tv_cl F s j (hok.2.1 j (by omega)).2.2.2]
      refine w_X11_passIt_103 hG ?_
      refine ⟨sm_ci10 (by omega) (by decide), ?_⟩
      rw [sm_cx10 (by omega), sm_n1]
      refine ih (j + 1) _ L2 (by omega) (hf.trans (mFm.r I2 L2 _ (by omega) (by omega))) (fun i hi => by rw [sm_st_o _ _ (by decide)]; exact hv i hi) (fun x => ?_)
      by_cases hx : x = 10 + j
      · subst hx
        rw [sm_st_s, if_pos (by omega), show 10 + j - 10 = j by omega]
      · rw [sm_st_j _ _ hx, hr]
        by_cases h1 : 10 ≤ x ∧ x < 10 + j
        · rw [if_pos h1, if_pos (by omega)]
        · rw [if_neg h1, if_neg (by omega)]
  -- the first loop
  have loop1 : ∀ (q j : Nat) (I1 : Nat → Nat → Int32) (L1 : Nat → Nat → Int64), j + q = sMen s → mFm I I1 L L1 → (∀ x, I1 125 x = I 125 x) → (∀ i, i < j → (I1 144 i).toInt = sp_tv F s i) → sm_W ex d 0 0 199 10 [some (.ref 123), some (.int (sp_up (sUp s))), some (.int (nI j))] [] (n, y, I1, L1, R) Q := by
    intro q
    induction q with
    | zero =>
      intro j I1 L1 hj hf hr hv
      obtain rfl : j = sMen s := by omega
      refine w_X11_passIt_10 (d1 := 5) hG (by omega) ?_
      rw [hr 0, hs.1, if_pos (Int32.le_refl _)]
      exact loop2 (sMen s) 0 I1 L1 (by omega) hf hv (fun x => by rw [if_neg (by omega)]; exact hr x)
    | succ q ih =>
      intro j I1 L1 hj hf hr hv
      have hjm : j < sMen s := by omega
      have hs1 : mS s (I1 125) := by
        have : I1 125 = I 125 := funext hr
        rw [this]
        exact hs
      have h201 : I1 123 20 = 0 := by rw [hf.1 123 20 (by simp) (by simp) (by simp)]; exact h20
      have hF1 := hf.F hF
      have htj := (hok.2.1 j hjm).2.2.2
      -- on
      have go : ∀ (I2 : Nat → Nat → Int32) (L2 : Nat → Nat → Int64) (v : Int32), mFt I1 I2 L1 L2 → v.toInt = sp_tv F s j → sm_W ex d 0 0 199 10 [some (.ref 123), some (.int (sp_up (sUp s))), some (.int (nI j + 1))] [] (n, y, sm_st I2 144 j v, L2, R) Q := by
        intro I2 L2 v hft hvj
        rw [sm_n1]
        refine ih (j + 1) _ L2 (by omega) ((hf.trans hft.m).trans (mFm.t I2 L2 j v)) (fun x => ?_) (fun i hi => ?_)
        · rw [sm_st_o _ _ (by decide), hft.1 125 x (by simp)]
          exact hr x
        · by_cases e : i = j
          · subst e
            rw [sm_st_s]
            exact hvj
          · rw [sm_st_j _ _ e, hft.1 144 i (by simp)]
            exact hv i (by omega)
      refine w_X11_passIt_10 (d1 := 5) hG (by omega) ?_
      rw [hr 0, hs.1, if_neg (by rw [nI_leI (by omega) (by omega)]; omega)]
      rw [sm_cx10 (by omega), hr (10 + j), (hs.2.1 j hjm).2.2.1]
      by_cases hu : sUp s = some j
      · rw [if_pos ((sp_up_eq hok.2.2.1 (by omega) hjm).mpr hu).symm]
        refine ⟨sm_ci10 (by omega) (by decide), ?_⟩
        refine c_X11_tires (s := s) (F := F) (Nat.le_refl 5) hG hs1 hok hjm h201 hF1 ?_
        intro I2 L2 hft
        refine w_X11_passIt_44 hG ?_
        refine ⟨vp_in_nI (by omega) (by decide), ?_⟩
        rw [nI_clamp (by omega)]
        refine go I2 L2 _ hft ?_
        have := sp_clN_le 9 (sp_get (sp_toldF F 0 (sp_env s j none)) 1)
        have ht9 : sp_tires F s j ≤ 9 := this
        rw [nI_add, nI_toInt (by omega)]
        unfold sp_tv
        rw [if_pos hu]
        omega
      · rw [if_neg (fun z => hu ((sp_up_eq hok.2.2.1 (by omega) hjm).mp z.symm))]
        refine ⟨sm_ci10 (by omega) (by decide), ?_⟩
        refine c_X11_rests (s := s) (F := F) (Nat.le_refl 5) hG hs1 hok hjm h201 hF1 ?_
        intro I2 L2 hft
        refine w_X11_passIt_62 hG ?_
        refine ⟨vp_in_nI (by omega) (by decide), ?_⟩
        rw [nI_clamp (by omega)]
        refine go I2 L2 _ hft ?_
        have := sp_clN_le 9 (sp_get (sp_toldF F 1 (sp_env s j none)) 1)
        have ht9 : sp_rests F s j ≤ 9 := this
        rw [pk_sub_toInt (by omega) (by omega)]
        unfold sp_tv
        rw [if_neg hu]
  refine w_X11_passIt_0 hG ?_
  rw [hs.2.2.1]
  exact loop1 (sMen s) 0 I L (by omega) (mFm.rfl' I L) (fun _ => rfl) (fun i hi => absurd hi (by omega))
end
section
set_option maxRecDepth 100000 in
theorem w_X2_join_0 {ex : sm_O} {d n : Nat} {y : sm_Y} {I : Nat → Nat → Int32} {L : Nat → Nat → Int64} {R : Nat → Nat → Option Nat} {Q : sm_Q} {w2 : Option Value} {w3 : Option Value} {w4 : Option Value} {w5 : Option Value} {w6 : Option Value} {w7 : Option Value} {a0 : Nat} {a1 : Int32} (ho0 : ok2 y R a0) (k : if 2 ≤ (I a0 2) then (vp_in ((I a0 2) - 2) 40 ∧ vp_in ((I a0 2) - 1) 40 ∧ (if (lg_cmp ((I (a0 + 2) ((I a0 2) - 1).toNatClampNeg).toInt64) 0) = 0 then (if a1 = 6 then (sm_W ex d 0 0 12 56 [some (.ref a0), some (.int a1), some (.long ((I (a0 + 2) ((I a0 2) - 2).toNatClampNeg).toInt64)), none, some (.long ((I (a0 + 2) ((I a0 2) - 1).toNatClampNeg).toInt64)), none, w6, w7] [] (n, y, I, L, R) Q) else (if a1 = 7 then (sm_W ex d 0 0 12 56 [some (.ref a0), some (.int a1), some (.long ((I (a0 + 2) ((I a0 2) - 2).toNatClampNeg).toInt64)), none, some (.long ((I (a0 + 2) ((I a0 2) - 1).toNatClampNeg).toInt64)), none, w6, w7] [] (n, y, I, L, R) Q) else (sm_W ex d 0 0 12 58 [some (.ref a0), some (.int a1), some (.long ((I (a0 + 2) ((I a0 2) - 2).toNatClampNeg).toInt64)), none, some (.long ((I (a0 + 2) ((I a0 2) - 1).toNatClampNeg).toInt64)), none, w6, w7] [] (n, y, I, L, R) Q))) else (sm_W ex d 0 0 12 58 [some (.ref a0), some (.int a1), some (.long ((I (a0 + 2) ((I a0 2) - 2).toNatClampNeg).toInt64)), none, some (.long ((I (a0 + 2) ((I a0 2) - 1).toNatClampNeg).toInt64)), none, w6, w7] [] (n, y, I, L, R) Q))) else (Q (some (.int 0)) (n, y, I, L, R))) : sm_W ex d 0 0 12 0 [some (.ref a0), some (.int a1), w2, w3, w4, w5, w6, w7] [] (n, y, I, L, R) Q := sm_in (sm_in (And.intro (ok2_y0 ho0) (sm_in (sm_in (And.intro (fun c1 => have k1t := Eq.mp (if_pos c1) k; sm_in (sm_in (And.intro (ok2_y0 ho0) (sm_gfr rfl (ok2_r1 ho0) (sm_in (sm_in (And.intro (ok2_y0 ho0) (sm_in (sm_in ((have e2 := k1t.1; have k2 := k1t.2; sm_in (Exists.intro 40 (And.intro (ok2_a2 ho0) (And.intro e2 (sm_in (sm_in (And.intro (Nat.le_of_ble_eq_true rfl) (sm_in (sm_in (And.intro (ok2_y0 ho0) (sm_gfr rfl (ok2_r1 ho0) (sm_in (sm_in (And.intro (ok2_y0 ho0) (sm_in (sm_in ((have e3 := k2.1; have k3 := k2.2; sm_in (Exists.intro 40 (And.intro (ok2_a2 ho0) (And.intro e3 (sm_in (sm_in (And.intro (Nat.le_of_ble_eq_true rfl) (sm_in (sm_in (sm_in (sm_in (And.intro (fun c4 => have k4f := Eq.mp (if_neg c4) k3; k4f) (fun c4 => have k4t := Eq.mp (if_pos c4) k3; sm_in (sm_in (sm_in (And.intro (fun c5 => have k5t := Eq.mp (if_pos c5) k4t; k5t) (fun c5 => have k5f := Eq.mp (if_neg c5) k4t; sm_in (sm_in (sm_in (And.intro (fun c6 => have k6f := Eq.mp (if_neg c6) k5f; k6f) (fun c6 => have k6t := Eq.mp (if_pos c6) k5f; k6t)))))))))))))))))))))))))))))))))))))))))))))))) (fun c1 => have k1f := Eq.mp (if_neg c1) k; sm_in (sm_in (And.intro rfl (And.intro (Or.inl rfl) k1f)))))))))
set_option maxRecDepth 100000 in
theorem w_X2_join_56 {ex : sm_O} {d n : Nat} {y : sm_Y} {I : Nat → Nat → Int32} {L : Nat → Nat → Int64} {R : Nat → Nat → Option Nat} {Q : sm_Q} {w0 : Option Value} {w1 : Option Value} {w2 : Option Value} {w3 : Option Value} {w4 : Option Value} {w5 : Option Value} {w6 : Option Value} {w7 : Option Value} (k : Q (some (.int 0)) (n, y, I, L, R)) : sm_W ex d 0 0 12 56 [w0, w1, w2, w3, w4, w5, w6, w7] [] (n, y, I, L, R) Q := sm_in (sm_in (And.intro rfl (And.intro (Or.inl rfl) k)))
set_option maxRecDepth 100000 in
theorem w_X2_join_58 {ex : sm_O} {d n : Nat} {y : sm_Y} {I : Nat → Nat → Int32} {L : Nat → Nat → Int64} {R : Nat → Nat → Option Nat} {Q : sm_Q} {w0 : Option Value} {w3 : Option Value} {w5 : Option Value} {w6 : Option Value} {w7 : Option Value} {a1 : Int32} {a2 : Int64} {a4 : Int64} (k : ((a1.toInt < 3 ∨ 9 < a1.toInt) → (if (lg_cmp a2 a4) = 0 then (sm_W ex d 0 0 12 213 [w0, some (.int a1), some (.long a2), w3, some (.long a4), w5, w6, w7] [.long 1] (n, y, I, L, R) Q) else (sm_W ex d 0 0 12 213 [w0, some (.int a1), some (.long a2), w3, some (.long a4), w5, w6, w7] [.long 0] (n, y, I, L, R) Q))) ∧ (a1.toInt = 3 → (sm_W ex d 0 0 12 215 [w0, some (.int a1), some (.long a2), w3, some (.long a4), sm_iv w5, some (.long (a2 + a4)), none] [] (n, y, I, L, R) Q)) ∧ (a1.toInt = 4 → (sm_W ex d 0 0 12 215 [w0, some (.int a1), some (.long a2), w3, some (.long a4), sm_iv w5, some (.long (a2 - a4)), none] [] (n, y, I, L, R) Q)) ∧ (a1.toInt = 5 → (sm_W ex d 0 0 12 215 [w0, some (.int a1), some (.long a2), w3, some (.long a4), sm_iv w5, some (.long (a2 * a4)), none] [] (n, y, I, L, R) Q)) ∧ (a1.toInt = 6 → (if (lg_cmp a4 0) = 0 then (sm_W ex d 0 0 12 142 [w0, some (.int a1), some (.long a2), w3, some (.long a4), w5, w6, w7] [.long 0] (n, y, I, L, R) Q) else (¬ a4 = 0 ∧ sm_W ex d 0 0 12 142 [w0, some (.int a1), some (.long a2), w3, some (.long a4), w5, w6, w7] [.long (a2 / a4)] (n, y, I, L, R) Q))) ∧ (a1.toInt = 7 → (if (lg_cmp a4 0) = 0 then (sm_W ex d 0 0 12 162 [w0, some (.int a1), some (.long a2), w3, some (.long a4), w5, w6, w7] [.long 0] (n, y, I, L, R) Q) else (¬ a4 = 0 ∧ sm_W ex d 0 0 12 162 [w0, some (.int a1), some (.long a2), w3, some (.long a4), w5, w6, w7] [.long (a2 - a2 / a4 * a4)] (n, y, I, L, R) Q))) ∧ (a1.toInt = 8 → (if 0 ≤ (lg_cmp a2 a4) then (sm_W ex d 0 0 12 179 [w0, some (.int a1), some (.long a2), w3, some (.long a4), w5, w6, w7] [.long 0] (n, y, I, L, R) Q) else (sm_W ex d 0 0 12 179 [w0, some (.int a1), some (.long a2), w3, some (.long a4), w5, w6, w7] [.long 1] (n, y, I, L, R) Q))) ∧ (a1.toInt = 9 → (if (lg_cmp a2 a4) ≤ 0 then (sm_W ex d 0 0 12 196 [w0, some (.int a1), some (.long a2), w3, some (.long a4), w5, w6, w7] [.long 0] (n, y, I, L, R) Q) else (sm_W ex d 0 0 12 196 [w0, some (.int a1), some (.long a2), w3, some (.long a4), w5, w6, w7] [.long 1] (n, y, I, L, R) Q)))) : sm_W ex d 0 0 12 58 [w0, some (.int a1), some (.long a2), w3, some (.long a4), w5, w6, w7] [] (n, y, I, L, R) Q := sm_in (sm_in (And.intro (fun hd => have kds1_ := k.1 hd; sm_in (sm_in (sm_in (sm_in (And.intro (fun c2 => have k2f := Eq.mp (if_neg c2) kds1_; sm_in (k2f)) (fun c2 => have k2t := Eq.mp (if_pos c2) kds1_; sm_in (sm_in (k2t)))))))) (fun j off ho hj => match j, ho, hj with | 0, ho, hj => by cases ho; exact (have ks1_0 := k.2.1 hj; sm_in (sm_in (sm_in (sm_in (And.intro (Nat.le_of_ble_eq_true rfl) (sm_in (ks1_0))))))) | 1, ho, hj => by cases ho; exact (have ks1_1 := k.2.2.1 hj; sm_in (sm_in (sm_in (sm_in (And.intro (Nat.le_of_ble_eq_true rfl) (sm_in (ks1_1))))))) | 2, ho, hj => by cases ho; exact (have ks1_2 := k.2.2.2.1 hj; sm_in (sm_in (sm_in (sm_in (And.intro (Nat.le_of_ble_eq_true rfl) (sm_in (ks1_2))))))) | 3, ho, hj => by cases ho; exact (have ks1_3 := k.2.2.2.2.1 hj; sm_in (sm_in (sm_in (sm_in (And.intro (fun c3 => have k3f := Eq.mp (if_neg c3) ks1_3; sm_in (sm_in ((have e4 := k3f.1; have k4 := k3f.2; sm_in (And.intro e4 (k4)))))) (fun c3 => have k3t := Eq.mp (if_pos c3) ks1_3; sm_in (sm_in (k3t)))))))) | 4, ho, hj => by cases ho; exact (have ks1_4 := k.2.2.2.2.2.1 hj; sm_in (sm_in (sm_in (sm_in (And.intro (fun c5 => have k5f := Eq.mp (if_neg c5) ks1_4; sm_in (sm_in ((have e6 := k5f.1; have k6 := k5f.2; sm_in (And.intro e6 (k6)))))) (fun c5 => have k5t := Eq.mp (if_pos c5) ks1_4; sm_in (sm_in (k5t)))))))) | 5, ho, hj => by cases ho; exact (have ks1_5 := k.2.2.2.2.2.2.1 hj; sm_in (sm_in (sm_in (sm_in (And.intro (fun c7 => have k7t := Eq.mp (if_pos c7) ks1_5; sm_in (k7t)) (fun c7 => have k7f := Eq.mp (if_neg c7) ks1_5; sm_in (sm_in (k7f)))))))) | 6, ho, hj => by cases ho; exact (have ks1_6 := k.2.2.2.2.2.2.2 hj; sm_in (sm_in (sm_in (sm_in (And.intro (fun c8 => have k8t := Eq.mp (if_pos c8) ks1_6; sm_in (k8t)) (fun c8 => have k8f := Eq.mp (if_neg c8) ks1_6; sm_in (sm_in (k8f)))))))) | j + 7, ho, _ => by cases ho)))
set_option maxRecDepth 100000 in
theorem w_X2_join_142 {ex : sm_O} {d n : Nat} {y : sm_Y} {I : Nat → Nat → Int32} {L : Nat → Nat → Int64} {R : Nat → Nat → Option Nat} {Q : sm_Q} {w0 : Option Value} {w1 : Option Value} {w2 : Option Value} {w3 : Option Value} {w4 : Option Value} {w5 : Option Value} {w6 : Option Value} {w7 : Option Value} {s0 : Int64} (k : sm_W ex d 0 0 12 215 [w0, w1, w2, w3, w4, sm_iv w5, some (.long s0), none] [] (n, y, I, L, R) Q) : sm_W ex d 0 0 12 142 [w0, w1, w2, w3, w4, w5, w6, w7] [.long s0] (n, y, I, L, R) Q := sm_in (And.intro (Nat.le_of_ble_eq_true rfl) (sm_in (k)))
set_option maxRecDepth 100000 in
theorem w_X2_join_162 {ex : sm_O} {d n : Nat} {y : sm_Y} {I : Nat → Nat → Int32} {L : Nat → Nat → Int64} {R : Nat → Nat → Option Nat} {Q : sm_Q} {w0 : Option Value} {w1 : Option Value} {w2 : Option Value} {w3 : Option Value} {w4 : Option Value} {w5 : Option Value} {w6 : Option Value} {w7 : Option Value} {s0 : Int64} (k : sm_W ex d 0 0 12 215 [w0, w1, w2, w3, w4, sm_iv w5, some (.long s0), none] [] (n, y, I, L, R) Q) : sm_W ex d 0 0 12 162 [w0, w1, w2, w3, w4, w5, w6, w7] [.long s0] (n, y, I, L, R) Q := sm_in (And.intro (Nat.le_of_ble_eq_true rfl) (sm_in (k)))
set_option maxRecDepth 100000 in
theorem w_X2_join_179 {ex : sm_O} {d n : Nat} {y : sm_Y} {I : Nat → Nat → Int32} {L : Nat → Nat → Int64} {R : Nat → Nat → Option Nat} {Q : sm_Q} {w0 : Option Value} {w1 : Option Value} {w2 : Option Value} {w3 : Option Value} {w4 : Option Value} {w5 : Option Value} {w6 : Option Value} {w7 : Option Value} {s0 : Int64} (k : sm_W ex d 0 0 12 215 [w0, w1, w2, w3, w4, sm_iv w5, some (.long s0), none] [] (n, y, I, L, R) Q) : sm_W ex d 0 0 12 179 [w0, w1, w2, w3, w4, w5, w6, w7] [.long s0] (n, y, I, L, R) Q := sm_in (And.intro (Nat.le_of_ble_eq_true rfl) (sm_in (k)))
set_option maxRecDepth 100000 in
theorem w_X2_join_196 {ex : sm_O} {d n : Nat} {y : sm_Y} {I : Nat → Nat → Int32} {L : Nat → Nat → Int64} {R : Nat → Nat → Option Nat} {Q : sm_Q} {w0 : Option Value} {w1 : Option Value} {w2 : Option Value} {w3 : Option Value} {w4 : Option Value} {w5 : Option Value} {w6 : Option Value} {w7 : Option Value} {s0 : Int64} (k : sm_W ex d 0 0 12 215 [w0, w1, w2, w3, w4, sm_iv w5, some (.long s0), none] [] (n, y, I, L, R) Q) : sm_W ex d 0 0 12 196 [w0, w1, w2, w3, w4, w5, w6, w7] [.long s0] (n, y, I, L, R) Q := sm_in (And.intro (Nat.le_of_ble_eq_true rfl) (sm_in (k)))
set_option maxRecDepth 100000 in
theorem w_X2_join_213 {ex : sm_O} {d n : Nat} {y : sm_Y} {I : Nat → Nat → Int32} {L : Nat → Nat → Int64} {R : Nat → Nat → Option Nat} {Q : sm_Q} {w0 : Option Value} {w1 : Option Value} {w2 : Option Value} {w3 : Option Value} {w4 : Option Value} {w5 : Option Value} {w6 : Option Value} {w7 : Option Value} {s0 : Int64} (k : sm_W ex d 0 0 12 215 [w0, w1, w2, w3, w4, sm_iv w5, some (.long s0), none] [] (n, y, I, L, R) Q) : sm_W ex d 0 0 12 213 [w0, w1, w2, w3, w4, w5, w6, w7] [.long s0] (n, y, I, L, R) Q := sm_in (And.intro (Nat.le_of_ble_eq_true rfl) (k))
set_option maxRecDepth 100000 in
theorem w_X2_join_215 {ex : sm_O} {d n : Nat} {y : sm_Y} {I : Nat → Nat → Int32} {L : Nat → Nat → Int64} {R : Nat → Nat → Option Nat} {Q : sm_Q} {w1 : Option Value} {w2 : Option Value} {w3 : Option Value} {w4 : Option Value} {w5 : Option Value} {w7 : Option Value} {a0 : Nat} {a6 : Int64} (ho0 : ok2 y R a0) (k : if 0 < (lg_cmp a6 1000000000) then (sm_W ex d 0 0 12 233 [some (.ref a0), w1, w2, w3, w4, w5, some (.long a6), w7] [] (n, y, I, L, R) Q) else (if 0 ≤ (lg_cmp a6 (-1000000000)) then (vp_in (((sm_st I a0 2 ((I a0 2) - 1)) a0 2) - 1) 40 ∧ Q (some (.int 1)) (n, y, sm_st (sm_st I a0 2 ((I a0 2) - 1)) (a0 + 2) ((((sm_st I a0 2 ((I a0 2) - 1)) a0 2) - 1).toNatClampNeg) a6.toInt32, L, R)) else (sm_W ex d 0 0 12 233 [some (.ref a0), w1, w2, w3, w4, w5, some (.long a6), w7] [] (n, y, I, L, R) Q))) : sm_W ex d 0 0 12 215 [some (.ref a0), w1, w2, w3, w4, w5, some (.long a6), w7] [] (n, y, I, L, R) Q := sm_in (sm_in (sm_in (sm_in (And.intro (fun c1 => have k1t := Eq.mp (if_pos c1) k; k1t) (fun c1 => have k1f := Eq.mp (if_neg c1) k; sm_in (sm_in (sm_in (sm_in (And.intro (fun c2 => have k2t := Eq.mp (if_pos c2) k1f; sm_in (sm_in (And.intro rfl (sm_in (And.intro (ok2_y0 ho0) (sm_in (sm_in (sm_in (And.intro (ok2_y0 ho0) (sm_in (sm_in (And.intro (ok2_y0 ho0) (sm_gfr rfl (ok2_r1 ho0) (sm_in (sm_in (And.intro (ok2_y0 ho0) (sm_in (sm_in (sm_in (sm_in ((have e3 := k2t.1; have k3 := k2t.2; sm_in (Exists.intro 40 (And.intro (ok2_a2 ho0) (And.intro e3 (sm_in (sm_in (And.intro rfl (And.intro (Or.inr rfl) k3))))))))))))))))))))))))))))) (fun c2 => have k2f := Eq.mp (if_neg c2) k1f; k2f))))))))))
set_option maxRecDepth 100000 in
theorem w_X2_join_233 {ex : sm_O} {d n : Nat} {y : sm_Y} {I : Nat → Nat → Int32} {L : Nat → Nat → Int64} {R : Nat → Nat → Option Nat} {Q : sm_Q} {w0 : Option Value} {w1 : Option Value} {w2 : Option Value} {w3 : Option Value} {w4 : Option Value} {w5 : Option Value} {w6 : Option Value} {w7 : Option Value} (k : Q (some (.int 0)) (n, y, I, L, R)) : sm_W ex d 0 0 12 233 [w0, w1, w2, w3, w4, w5, w6, w7] [] (n, y, I, L, R) Q := sm_in (sm_in (And.intro rfl (And.intro (Or.inl rfl) k)))
set_option maxRecDepth 100000 in
theorem w_X2_works_0 {ex : sm_O} {d n : Nat} {y : sm_Y} {I : Nat → Nat → Int32} {L : Nat → Nat → Int64} {R : Nat → Nat → Option Nat} {Q : sm_Q} {w1 : Option Value} {w3 : Option Value} {w4 : Option Value} {w5 : Option Value} {a0 : Nat} {a2 : Int32} (ho0 : ok2 y R a0) (h1 : 1 ≤ d) (k : sm_W ex d 0 0 11 11 [some (.ref a0), w1, some (.int a2), some (.int (if a2 < 0 then 0 else a2)), w4, w5] [] (n, y, sm_st I a0 2 0, L, R) Q) : sm_W ex d 0 0 11 0 [some (.ref a0), w1, some (.int a2), w3, w4, w5] [] (n, y, I, L, R) Q := sm_in (sm_in (sm_in (And.intro (ok2_y0 ho0) (sm_in (sm_in (sm_in (And.intro h1 (And.intro (Nat.le_of_ble_eq_true rfl) (sm_in (And.intro (Nat.le_of_ble_eq_true rfl) (k)))))))))))
set_option maxRecDepth 100000 in
theorem w_X2_works_11 {ex : sm_O} {d n : Nat} {y : sm_Y} {I : Nat → Nat → Int32} {L : Nat → Nat → Int64} {R : Nat → Nat → Option Nat} {Q : sm_Q} {w0 : Option Value} {w2 : Option Value} {w4 : Option Value} {w5 : Option Value} {a1 : Nat} {a3 : Int32} {ns0 nc0 : Nat} (ho0 : ok6 y R a1 ns0 nc0) (k : if (I a1 6) ≤ a3 then (sm_W ex d 0 0 11 245 [w0, some (.ref a1), w2, some (.int a3), w4, w5] [] (n, y, I, L, R) Q) else (vp_in a3 ns0 ∧ sm_W ex d 0 0 11 40 [w0, some (.ref a1), w2, some (.int a3), some (.int ((I (a1 + 1) a3.toNatClampNeg) &&& 15)), some (.int ((I (a1 + 1) a3.toNatClampNeg) >>> ((4 : Int32) &&& 31)))] [] (n, y, I, L, R) Q)) : sm_W ex d 0 0 11 11 [w0, some (.ref a1), w2, some (.int a3), w4, w5] [] (n, y, I, L, R) Q := sm_in (sm_in (sm_in (And.intro (ok6_y0 ho0) (sm_in (And.intro (fun c1 => have k1t := Eq.mp (if_pos c1) k; k1t) (fun c1 => have k1f := Eq.mp (if_neg c1) k; sm_in (sm_in (And.intro (ok6_y0 ho0) (sm_gfr rfl (ok6_r0 ho0) (sm_in ((have e2 := k1f.1; have k2 := k1f.2; sm_in (Exists.intro ns0 (And.intro (ok6_a1 ho0) (And.intro e2 (sm_in (sm_in (sm_in (And.intro (Nat.le_of_ble_eq_true rfl) (sm_in (sm_in (And.intro (ok6_y0 ho0) (sm_gfr rfl (ok6_r0 ho0) (sm_in (sm_in (Exists.intro ns0 (And.intro (ok6_a1 ho0) (And.intro e2 (sm_in (sm_in (sm_in (And.intro (Nat.le_of_ble_eq_true rfl) (k2)))))))))))))))))))))))))))))))))
set_option maxRecDepth 100000 in
theorem w_X2_works_40 {ex : sm_O} {d n : Nat} {y : sm_Y} {I : Nat → Nat → Int32} {L : Nat → Nat → Int64} {R : Nat → Nat → Option Nat} {Q : sm_Q} {w1 : Option Value} {a0 : Nat} {a2 : Int32} {a3 : Int32} {a4 : Int32} {a5 : Int32} {d1 : Nat} (ho0 : ok2 y R a0) (h1 : d1 < d) (k : if a4 = 0 then (sm_W ex d 0 0 11 245 [some (.ref a0), w1, some (.int a2), some (.int a3), some (.int a4), some (.int a5)] [] (n, y, I, L, R) Q) else (if a4 = 1 then (if 40 ≤ (I a0 2) then (Q (some (.int 0)) (n, y, I, L, R)) else (if a4 = 2 then (if a5 < 13 then (vp_in a5 13 ∧ vp_in (I a0 2) 40 ∧ sm_W ex d 0 0 11 11 [some (.ref a0), w1, some (.int a2), some (.int (a3 + 1)), some (.int a4), some (.int a5)] [] (n, y, sm_st (sm_st I (a0 + 2) ((I a0 2).toNatClampNeg) (I (a0 + 1) a5.toNatClampNeg)) a0 2 (((sm_st I (a0 + 2) ((I a0 2).toNatClampNeg) (I (a0 + 1) a5.toNatClampNeg)) a0 2) + 1), L, R) Q) else (Q (some (.int 0)) (n, y, I, L, R))) else (vp_in (I a0 2) 40 ∧ sm_W ex d 0 0 11 11 [some (.ref a0), w1, some (.int a2), some (.int (a3 + 1)), some (.int a4), some (.int a5)] [] (n, y, sm_st (sm_st I (a0 + 2) ((I a0 2).toNatClampNeg) a5) a0 2 (((sm_st I (a0 + 2) ((I a0 2).toNatClampNeg) a5) a0 2) + 1), L, R) Q))) else (if a4 = 2 then (if 40 ≤ (I a0 2) then (Q (some (.int 0)) (n, y, I, L, R)) else (if a5 < 13 then (vp_in a5 13 ∧ vp_in (I a0 2) 40 ∧ sm_W ex d 0 0 11 11 [some (.ref a0), w1, some (.int a2), some (.int (a3 + 1)), some (.int a4), some (.int a5)] [] (n, y, sm_st (sm_st I (a0 + 2) ((I a0 2).toNatClampNeg) (I (a0 + 1) a5.toNatClampNeg)) a0 2 (((sm_st I (a0 + 2) ((I a0 2).toNatClampNeg) (I (a0 + 1) a5.toNatClampNeg)) a0 2) + 1), L, R) Q) else (Q (some (.int 0)) (n, y, I, L, R)))) else (if (I a0 2) = 0 then (Q (some (.int 0)) (n, y, I, L, R)) else (if a4 = 11 then (vp_in ((I a0 2) - 1) 40 ∧ sm_W ex d 0 0 11 11 [some (.ref a0), w1, some (.int a2), some (.int (a3 + 1)), some (.int a4), some (.int a5)] [] (n, y, sm_st I (a0 + 2) (((I a0 2) - 1).toNatClampNeg) (1 - (I (a0 + 2) ((I a0 2) - 1).toNatClampNeg)), L, R) Q) else (if a4 = 12 then (vp_in ((I a0 2) - 1) 40 ∧ (if (I (a0 + 2) ((I a0 2) - 1).toNatClampNeg) = 1 then (sm_W ex d 0 0 11 11 [some (.ref a0), w1, some (.int a2), some (.int ((a3 + a5) + 1)), some (.int a4), some (.int a5)] [] (n, y, I, L, R) Q) else (sm_W ex d 0 0 11 11 [some (.ref a0), w1, some (.int a2), some (.int (a3 + 1)), some (.int a4), some (.int a5)] [] (n, y, sm_st I a0 2 ((I a0 2) - 1), L, R) Q))) else (if a4 = 13 then (vp_in ((I a0 2) - 1) 40 ∧ (if (I (a0 + 2) ((I a0 2) - 1).toNatClampNeg) = 0 then (sm_W ex d 0 0 11 11 [some (.ref a0), w1, some (.int a2), some (.int ((a3 + a5) + 1)), some (.int a4), some (.int a5)] [] (n, y, I, L, R) Q) else (sm_W ex d 0 0 11 11 [some (.ref a0), w1, some (.int a2), some (.int (a3 + 1)), some (.int a4), some (.int a5)] [] (n, y, sm_st I a0 2 ((I a0 2) - 1), L, R) Q))) else (sm_W ex d1 0 0 12 0 [some (.ref a0), some (.int a4), none, none, none, none, none, none] [] (n, y, I, L, R) (fun r μ1 => sm_W ex d 0 0 11 234 [some (.ref a0), w1, some (.int a2), some (.int a3), some (.int a4), some (.int a5)] (r.toList ++ []) μ1 Q))))))))) : sm_W ex d 0 0 11 40 [some (.ref a0), w1, some (.int a2), some (.int a3), some (.int a4), some (.int a5)] [] (n, y, I, L, R) Q := sm_in (sm_in (And.intro (fun c1 => have k1f := Eq.mp (if_neg c1) k; sm_in (sm_in (sm_in (And.intro (fun c2 => have k2t := Eq.mp (if_pos c2) k1f; sm_in (sm_in (And.intro (ok2_y0 ho0) (sm_in (sm_in (And.intro (fun c3 => have k3t := Eq.mp (if_pos c3) k2t; sm_in (sm_in (And.intro rfl (And.intro (Or.inl rfl) k3t)))) (fun c3 => have k3f := Eq.mp (if_neg c3) k2t; sm_in (sm_in (sm_in (And.intro (fun c4 => have k4f := Eq.mp (if_neg c4) k3f; sm_in (sm_in (And.intro (ok2_y0 ho0) (sm_gfr rfl (ok2_r1 ho0) (sm_in (sm_in (And.intro (ok2_y0 ho0) (sm_in (sm_in (sm_in (And.intro (fun _ => sm_in ((have e8 := k4f.1; have k8 := k4f.2; sm_in (Exists.intro 40 (And.intro (ok2_a2 ho0) (And.intro e8 (sm_in (sm_in (And.intro rfl (sm_in (And.intro (ok2_y0 ho0) (sm_in (sm_in (sm_in (And.intro (ok2_y0 ho0) (sm_in (sm_in (And.intro (Nat.le_of_ble_eq_true rfl) (sm_in (k8)))))))))))))))))))) (fun c => absurd c c4)))))))))))) (fun c4 => have k4t := Eq.mp (if_pos c4) k3f; sm_in (sm_in (sm_in (And.intro (fun c5 => have k5t := Eq.mp (if_pos c5) k4t; sm_in (sm_in (And.intro (ok2_y0 ho0) (sm_gfr rfl (ok2_r1 ho0) (sm_in (sm_in (And.intro (ok2_y0 ho0) (sm_in (sm_in (sm_in (And.intro (fun c => absurd c4 c) (fun _ => sm_in (sm_in (And.intro (ok2_y0 ho0) (sm_gfr rfl (ok2_r0 ho0) (sm_in ((have e6 := k5t.1; have k6 := k5t.2; sm_in (Exists.intro 13 (And.intro (ok2_a1 ho0) (And.intro e6 (sm_in ((have e7 := k6.1; have k7 := k6.2; sm_in (Exists.intro 40 (And.intro (ok2_a2 ho0) (And.intro e7 (sm_in (sm_in (And.intro rfl (sm_in (And.intro (ok2_y0 ho0) (sm_in (sm_in (sm_in (And.intro (ok2_y0 ho0) (sm_in (sm_in (And.intro (Nat.le_of_ble_eq_true rfl) (sm_in (k7))))))))))))))))))))))))))))))))))))))))) (fun c5 => have k5f := Eq.mp (if_neg c5) k4t; sm_in (sm_in (And.intro rfl (And.intro (Or.inl rfl) k5f)))))))))))))))))) (fun c2 => have k2f := Eq.mp (if_neg c2) k1f; sm_in (sm_in (sm_in (And.intro (fun c9 => have k9f := Eq.mp (if_neg c9) k2f; sm_in (sm_in (And.intro (ok2_y0 ho0) (sm_in (And.intro (fun c14 => have k14f := Eq.mp (if_neg c14) k9f; sm_in (sm_in (sm_in (And.intro (fun c15 => have k15f := Eq.mp (if_neg c15) k14f; sm_in (sm_in (sm_in (And.intro (fun c17 => have k17t := Eq.mp (if_pos c17) k15f; sm_in (sm_in (And.intro (ok2_y0 ho0) (sm_gfr rfl (ok2_r1 ho0) (sm_in (sm_in (And.intro (ok2_y0 ho0) (sm_in (sm_in ((have e18 := k17t.1; have k18 := k17t.2; sm_in (Exists.intro 40 (And.intro (ok2_a2 ho0) (And.intro e18 (sm_in (sm_in (sm_in (And.intro (fun c => absurd c17 c) (fun _ => sm_in (sm_in (sm_in (And.intro (fun c19 => have k19f := Eq.mp (if_neg c19) k18; sm_in (sm_in (And.intro rfl (sm_in (And.intro (ok2_y0 ho0) (sm_in (sm_in (sm_in (And.intro (ok2_y0 ho0) (sm_in (sm_in (And.intro (Nat.le_of_ble_eq_true rfl) (sm_in (k19f)))))))))))))) (fun c19 => have k19t := Eq.mp (if_pos c19) k18; sm_in (sm_in (sm_in (sm_in (And.intro (Nat.le_of_ble_eq_true rfl) (sm_in (sm_in (And.intro (Nat.le_of_ble_eq_true rfl) (sm_in (k19t)))))))))))))))))))))))))))))))) (fun c17 => have k17f := Eq.mp (if_neg c17) k15f; sm_in (sm_in (sm_in (And.intro (fun c20 => have k20f := Eq.mp (if_neg c20) k17f; sm_in (sm_in (sm_in (Exists.intro 2 (And.intro (ok2_y0 ho0) (And.intro rfl (sm_calln h1 (Nat.le_of_ble_eq_true rfl) (Nat.le_of_ble_eq_true rfl) k20f))))))) (fun c20 => have k20t := Eq.mp (if_pos c20) k17f; sm_in (sm_in (And.intro (ok2_y0 ho0) (sm_gfr rfl (ok2_r1 ho0) (sm_in (sm_in (And.intro (ok2_y0 ho0) (sm_in (sm_in ((have e21 := k20t.1; have k21 := k20t.2; sm_in (Exists.intro 40 (And.intro (ok2_a2 ho0) (And.intro e21 (sm_in (sm_in (sm_in (And.intro (fun _ => sm_in (sm_in (And.intro (fun c22 => have k22f := Eq.mp (if_neg c22) k21; sm_in (sm_in (And.intro rfl (sm_in (And.intro (ok2_y0 ho0) (sm_in (sm_in (sm_in (And.intro (ok2_y0 ho0) (sm_in (sm_in (And.intro (Nat.le_of_ble_eq_true rfl) (sm_in (k22f)))))))))))))) (fun c22 => have k22t := Eq.mp (if_pos c22) k21; sm_in (sm_in (sm_in (sm_in (And.intro (Nat.le_of_ble_eq_true rfl) (sm_in (sm_in (And.intro (Nat.le_of_ble_eq_true rfl) (sm_in (k22t))))))))))))) (fun c => absurd c c17))))))))))))))))))))))))))) (fun c15 => have k15t := Eq.mp (if_pos c15) k14f; sm_in (sm_in (And.intro (ok2_y0 ho0) (sm_gfr rfl (ok2_r1 ho0) (sm_in (sm_in (And.intro (ok2_y0 ho0) (sm_in (sm_in (sm_in (sm_in (sm_in (And.intro (ok2_y0 ho0) (sm_gfr rfl (ok2_r1 ho0) (sm_in (sm_in (And.intro (ok2_y0 ho0) (sm_in (sm_in ((have e16 := k15t.1; have k16 := k15t.2; sm_in (Exists.intro 40 (And.intro (ok2_a2 ho0) (And.intro e16 (sm_in (sm_in (Exists.intro 40 (And.intro (ok2_a2 ho0) (And.intro e16 (sm_in (sm_in (And.intro (Nat.le_of_ble_eq_true rfl) (sm_in (k16)))))))))))))))))))))))))))))))))))))) (fun c14 => have k14t := Eq.mp (if_pos c14) k9f; sm_in (sm_in (And.intro rfl (And.intro (Or.inl rfl) k14t))))))))) (fun c9 => have k9t := Eq.mp (if_pos c9) k2f; sm_in (sm_in (And.intro (ok2_y0 ho0) (sm_in (sm_in (And.intro (fun c10 => have k10t := Eq.mp (if_pos c10) k9t; sm_in (sm_in (And.intro rfl (And.intro (Or.inl rfl) k10t)))) (fun c10 => have k10f := Eq.mp (if_neg c10) k9t; sm_in (sm_in (sm_in (And.intro (fun c => absurd c9 c) (fun _ => sm_in (sm_in (sm_in (And.intro (fun c11 => have k11t := Eq.mp (if_pos c11) k10f; sm_in (sm_in (And.intro (ok2_y0 ho0) (sm_gfr rfl (ok2_r1 ho0) (sm_in (sm_in (And.intro (ok2_y0 ho0) (sm_in (sm_in (sm_in (And.intro (fun c => absurd c9 c) (fun _ => sm_in (sm_in (And.intro (ok2_y0 ho0) (sm_gfr rfl (ok2_r0 ho0) (sm_in ((have e12 := k11t.1; have k12 := k11t.2; sm_in (Exists.intro 13 (And.intro (ok2_a1 ho0) (And.intro e12 (sm_in ((have e13 := k12.1; have k13 := k12.2; sm_in (Exists.intro 40 (And.intro (ok2_a2 ho0) (And.intro e13 (sm_in (sm_in (And.intro rfl (sm_in (And.intro (ok2_y0 ho0) (sm_in (sm_in (sm_in (And.intro (ok2_y0 ho0) (sm_in (sm_in (And.intro (Nat.le_of_ble_eq_true rfl) (sm_in (k13))))))))))))))))))))))))))))))))))))))))) (fun c11 => have k11f := Eq.mp (if_neg c11) k10f; sm_in (sm_in (And.intro rfl (And.intro (Or.inl rfl) k11f)))))))))))))))))))))))))) (fun c1 => have k1t := Eq.mp (if_pos c1) k; sm_in (k1t))))
set_option maxRecDepth 100000 in
theorem w_X2_works_234 {ex : sm_O} {d n : Nat} {y : sm_Y} {I : Nat → Nat → Int32} {L : Nat → Nat → Int64} {R : Nat → Nat → Option Nat} {Q : sm_Q} {w0 : Option Value} {w1 : Option Value} {w4 : Option Value} {w5 : Option Value} {a2 : Int32} {a3 : Int32} {s0 : Int32} (k : if s0 = 0 then (Q (some (.int 0)) (n, y, I, L, R)) else (sm_W ex d 0 0 11 11 [w0, w1, some (.int a2), some (.int (a3 + 1)), w4, w5] [] (n, y, I, L, R) Q)) : sm_W ex d 0 0 11 234 [w0, w1, some (.int a2), some (.int a3), w4, w5] [.int s0] (n, y, I, L, R) Q := sm_in (And.intro (fun c1 => have k1f := Eq.mp (if_neg c1) k; sm_in (And.intro (Nat.le_of_ble_eq_true rfl) (sm_in (k1f)))) (fun c1 => have k1t := Eq.mp (if_pos c1) k; sm_in (sm_in (And.intro rfl (And.intro (Or.inl rfl) k1t)))))
set_option maxRecDepth 100000 in
theorem w_X2_works_245 {ex : sm_O} {d n : Nat} {y : sm_Y} {I : Nat → Nat → Int32} {L : Nat → Nat → Int64} {R : Nat → Nat → Option Nat} {Q : sm_Q} {w1 : Option Value} {w2 : Option Value} {w3 : Option Value} {w4 : Option Value} {w5 : Option Value} {a0 : Nat} (ho0 : ok2 y R a0) (k : if (I a0 2) ≤ 0 then (if ((sm_st I a0 3 0) a0 2) ≤ 0 then (Q (some (.int 0)) (n, y, sm_st I a0 3 0, L, R)) else (Q (some (.int 1)) (n, y, sm_st I a0 3 0, L, R))) else (vp_in ((I a0 2) - 1) 40 ∧ (if ((sm_st I a0 3 (I (a0 + 2) ((I a0 2) - 1).toNatClampNeg)) a0 2) ≤ 0 then (Q (some (.int 0)) (n, y, sm_st I a0 3 (I (a0 + 2) ((I a0 2) - 1).toNatClampNeg), L, R)) else (Q (some (.int 1)) (n, y, sm_st I a0 3 (I (a0 + 2) ((I a0 2) - 1).toNatClampNeg), L, R))))) : sm_W ex d 0 0 11 245 [some (.ref a0), w1, w2, w3, w4, w5] [] (n, y, I, L, R) Q := sm_in (sm_in (sm_in (And.intro (ok2_y0 ho0) (sm_in (And.intro (fun c1 => have k1t := Eq.mp (if_pos c1) k; sm_in (sm_in (And.intro (ok2_y0 ho0) (sm_in (sm_in (And.intro (ok2_y0 ho0) (sm_in (And.intro (fun c2 => have k2t := Eq.mp (if_pos c2) k1t; sm_in (sm_in (And.intro rfl (And.intro (Or.inl rfl) k2t)))) (fun c2 => have k2f := Eq.mp (if_neg c2) k1t; sm_in (sm_in (sm_in (And.intro rfl (And.intro (Or.inr rfl) k2f))))))))))))) (fun c1 => have k1f := Eq.mp (if_neg c1) k; sm_in (sm_in (And.intro (ok2_y0 ho0) (sm_gfr rfl (ok2_r1 ho0) (sm_in (sm_in (And.intro (ok2_y0 ho0) (sm_in (sm_in ((have e3 := k1f.1; have k3 := k1f.2; sm_in (Exists.intro 40 (And.intro (ok2_a2 ho0) (And.intro e3 (sm_in (sm_in (And.intro (ok2_y0 ho0) (sm_in (sm_in (And.intro (ok2_y0 ho0) (sm_in (And.intro (fun c4 => have k4t := Eq.mp (if_pos c4) k3; sm_in (sm_in (And.intro rfl (And.intro (Or.inl rfl) k4t)))) (fun c4 => have k4f := Eq.mp (if_neg c4) k3; sm_in (sm_in (sm_in (And.intro rfl (And.intro (Or.inr rfl) k4f))))))))))))))))))))))))))))))))
-- THE CLASS'S MACHINE OF SUMS
set_option maxHeartbeats 1000000 in
theorem c_X2_join {ex : sm_O} {n : Nat} {y : sm_Y} {I : Nat → Nat → Int32} {L : Nat → Nat → Int64} {R : Nat → Nat → Option Nat} {Q : sm_Q} {d o t : Nat} {w2 w3 w4 w5 w6 w7 : Option Value} {op : Int32} (ho : ok2 y R o) (htop : I o 2 = nI (t + 2)) (ht : t + 2 ≤ 40)
    (k1 : ∀ v, sp_rk (op + 17) (I (o + 2) t).toInt64 (I (o + 2) (t + 1)).toInt64 = some v → Q (some (.int 1)) (n, y, sm_st (sm_st I o 2 (nI (t + 1))) (o + 2) t v.toInt32, L, R))
    (k0 : sp_rk (op + 17) (I (o + 2) t).toInt64 (I (o + 2) (t + 1)).toInt64 = none → Q (some (.int 0)) (n, y, I, L, R)) : sm_W ex d 0 0 12 0 [some (.ref o), some (.int op), w2, w3, w4, w5, w6, w7] [] (n, y, I, L, R) Q := by
  generalize ha : (I (o + 2) t).toInt64 = a at k1 k0
  generalize hb : (I (o + 2) (t + 1)).toInt64 = b at k1 k0
  have i2 : nI (t + 2) - 2 = nI t := by rw [sm_of 2, pk_sub (by omega)]; rfl
  have i1 : nI (t + 2) - 1 = nI (t + 1) := nI_pred (t + 1)
  have i0 : nI (t + 1) - 1 = nI t := nI_pred t
  refine w_X2_join_0 ho ?_
  rw [htop, i2, i1, if_pos (by rw [sm_of 2, nI_leI (by decide) (by omega)]; omega), nI_clamp (by omega), nI_clamp (by omega), ha, hb]
  refine ⟨vp_in_nI (by omega) (by decide), vp_in_nI (by omega) (by decide), ?_⟩
  have inj : ∀ (c : Int32), op + 17 = c + 17 ↔ op = c := fun c => ⟨fun q => by
    have := congrArg (· - 17) q
    simpa using this, fun q => by rw [q]⟩
  have e6 : op + 17 = 23 ↔ op = 6 := inj 6
  have e7 : op + 17 = 24 ↔ op = 7 := inj 7
  -- the end
  have fin : ∀ (v : Int64) (u1 u2 u3 u4 u5 u7 : Option Value), v = rk_val (op + 17) a b → ¬ ((op + 17 = 23 ∨ op + 17 = 24) ∧ b = 0) → sm_W ex d 0 0 12 215 [some (.ref o), u1, u2, u3, u4, u5, some (.long v), u7] [] (n, y, I, L, R) Q := by
    intro v u1 u2 u3 u4 u5 u7 hv hz
    refine w_X2_join_215 ho ?_
    have hgt : 0 < lg_cmp v 1000000000 ↔ ¬ v ≤ 1000000000 := by rw [sm_cmp_gt, Int64.not_le]
    have hge : 0 ≤ lg_cmp v (-1000000000) ↔ -1000000000 ≤ v := by rw [← Int32.not_lt, sm_cmp_lt, Int64.not_lt]
    simp only [hgt, hge]
    have hs : ∀ (i : Nat), sm_st I o 2 (I o 2 - 1) o 2 = nI (t + 1) := fun _ => by rw [sm_st_s, htop, i1]
    rw [htop, i1, sm_st_s, i0, nI_clamp (by omega)]
    by_cases q1 : v ≤ 1000000000
    · rw [if_neg (fun z => z q1)]
      by_cases q2 : -1000000000 ≤ v
      · rw [if_pos q2]
        refine ⟨vp_in_nI (by omega) (by decide), ?_⟩
        refine k1 v ?_
        unfold sp_rk
        rw [if_neg hz, ← hv, if_pos ⟨q2, q1⟩]
      · rw [if_neg q2]
        refine w_X2_join_233 (k0 ?_)
        unfold sp_rk
        rw [if_neg hz, ← hv, if_neg (fun z => q2 z.1)]
    · rw [if_pos q1]
      refine w_X2_join_233 (k0 ?_)
      unfold sp_rk
      rw [if_neg hz, ← hv, if_neg (fun z => q1 z.2)]
  -- the switch
  have sw : ¬ ((op + 17 = 23 ∨ op + 17 = 24) ∧ b = 0) → ∀ (u6 u7 : Option Value), sm_W ex d 0 0 12 58 [some (.ref o), some (.int op), some (.long a), none, some (.long b), none, u6, u7] [] (n, y, I, L, R) Q := by
    intro hz u6 u7
    refine w_X2_join_58 ⟨fun h => ?_, fun h => ?_, fun h => ?_, fun h => ?_, fun h => ?_, fun h => ?_, fun h => ?_, fun h => ?_⟩
    · have n0 : ¬ op + 17 = 20 := fun e => by obtain rfl := (inj 3).mp e; revert h; decide
      have n1 : ¬ op + 17 = 21 := fun e => by obtain rfl := (inj 4).mp e; revert h; decide
      have n2 : ¬ op + 17 = 22 := fun e => by obtain rfl := (inj 5).mp e; revert h; decide
      have n3 : ¬ op + 17 = 23 := fun e => by obtain rfl := (inj 6).mp e; revert h; decide
      have n4 : ¬ op + 17 = 24 := fun e => by obtain rfl := (inj 7).mp e; revert h; decide
      have n5 : ¬ op + 17 = 25 := fun e => by obtain rfl := (inj 8).mp e; revert h; decide
      have n6 : ¬ op + 17 = 26 := fun e => by obtain rfl := (inj 9).mp e; revert h; decide
      simp only [sm_cmp_eq]
      split
      · rename_i q
        exact w_X2_join_213 (fin _ _ _ _ _ _ _ (by simp only [rk_val, n0, n1, n2, n3, n4, n5, n6, if_false, if_pos q]) hz)
      · rename_i q
        exact w_X2_join_213 (fin _ _ _ _ _ _ _ (by simp only [rk_val, n0, n1, n2, n3, n4, n5, n6, if_false, if_neg q]) hz)
    · obtain rfl := (sm_i32 3 rfl).mp h
      exact fin _ _ _ _ _ _ _ rfl hz
    · obtain rfl := (sm_i32 4 rfl).mp h
      exact fin _ _ _ _ _ _ _ rfl hz
    · obtain rfl := (sm_i32 5 rfl).mp h
      exact fin _ _ _ _ _ _ _ rfl hz
    · obtain rfl := (sm_i32 6 rfl).mp h
      have hb0 : ¬ b = 0 := fun q => hz ⟨Or.inl rfl, q⟩
      simp only [sm_cmp_eq]
      rw [if_neg hb0]
      refine ⟨hb0, w_X2_join_142 (fin _ _ _ _ _ _ _ ?_ hz)⟩
      show a / b = if b = 0 then 0 else a / b
      rw [if_neg hb0]
    · obtain rfl := (sm_i32 7 rfl).mp h
      have hb0 : ¬ b = 0 := fun q => hz ⟨Or.inr rfl, q⟩
      simp only [sm_cmp_eq]
      rw [if_neg hb0]
      refine ⟨hb0, w_X2_join_162 (fin _ _ _ _ _ _ _ ?_ hz)⟩
      show a - a / b * b = if b = 0 then 0 else a - a / b * b
      rw [if_neg hb0]
    · obtain rfl := (sm_i32 8 rfl).mp h
      have hc : 0 ≤ lg_cmp a b ↔ ¬ a < b := by rw [← Int32.not_lt, sm_cmp_lt]
      simp only [hc]
      split
      · rename_i q
        refine w_X2_join_179 (fin _ _ _ _ _ _ _ ?_ hz)
        show 0 = if a < b then 1 else 0
        rw [if_neg q]
      · rename_i q
        refine w_X2_join_179 (fin _ _ _ _ _ _ _ ?_ hz)
        show 1 = if a < b then 1 else 0
        rw [if_pos (Decidable.not_not.mp q)]
    · obtain rfl := (sm_i32 9 rfl).mp h
      have hc : lg_cmp a b ≤ 0 ↔ ¬ b < a := by rw [← Int32.not_lt, sm_cmp_gt]
      simp only [hc]
      split
      · rename_i q
        refine w_X2_join_196 (fin _ _ _ _ _ _ _ ?_ hz)
        show 0 = if b < a then 1 else 0
        rw [if_neg q]
      · rename_i q
        refine w_X2_join_196 (fin _ _ _ _ _ _ _ ?_ hz)
        show 1 = if b < a then 1 else 0
        rw [if_pos (Decidable.not_not.mp q)]
  simp only [sm_cmp_eq]
  by_cases hb0 : b = 0
  · rw [if_pos hb0]
    by_cases h6 : op = 6
    · rw [if_pos h6]
      refine w_X2_join_56 (k0 ?_)
      unfold sp_rk
      rw [if_pos ⟨Or.inl (e6.mpr h6), hb0⟩]
    · rw [if_neg h6]
      by_cases h7 : op = 7
      · rw [if_pos h7]
        refine w_X2_join_56 (k0 ?_)
        unfold sp_rk
        rw [if_pos ⟨Or.inr (e7.mpr h7), hb0⟩]
      · rw [if_neg h7]
        exact sw (fun z => z.1.elim (fun q => h6 (e6.mp q)) (fun q => h7 (e7.mp q))) _ _
  · rw [if_neg hb0]
    exact sw (fun z => hb0 z.2) _ _
end
section
-- THE CLASS'S MACHINE AT A PROGRAM
theorem sm_st15 {s w : Nat} (hs : s < 16) (hw : w < 100000) : nI (s + 16 * w) &&& 15 = nI s := by
  rw [pk_andN (by omega) 4 (by decide)]
  congr 1
  omega
theorem sm_st4 {s w : Nat} (hs : s < 16) (hw : w < 100000) : nI (s + 16 * w) >>> ((4 : Int32) &&& 31) = nI w := by
  rw [pk_shrN (by omega) _ 4 (by decide)]
  congr 1
  omega
/-- the class's code from k on, on a pile (the top first): P of the top where it stops, or of none (it doesn't work) -/
def cEv (cd : Nat → Nat × Nat) (len : Nat) (w : Nat → Int32) : Nat → Nat → List Int32 → (Option Int32 → Prop) → Prop
  | 0, _, _, _ => False
  | f + 1, k, st, P => k < len ∧ (if (cd k).1 = 0 then (match st with
      | [] => False
      | a :: _ => P (some a))
    else if (cd k).1 = 1 then st.length < 40 ∧ cEv cd len w f (k + 1) (nI (cd k).2 :: st) P
    else if (cd k).1 = 2 then st.length < 40 ∧ (cd k).2 < 13 ∧ cEv cd len w f (k + 1) (w (cd k).2 :: st) P
    else if (cd k).1 = 11 then (match st with
      | [] => False
      | a :: t => cEv cd len w f (k + 1) ((1 - a) :: t) P)
    else if (cd k).1 = 12 ∨ (cd k).1 = 13 then (match st with
      | [] => False
      | a :: t => if a = (if (cd k).1 = 12 then 1 else 0) then cEv cd len w f (k + (cd k).2 + 1) (a :: t) P else cEv cd len w f (k + 1) t P)
    else (match st with
      | b :: a :: t => (match sp_rk (nI (cd k).1 + 17) a.toInt64 b.toInt64 with
        | some v => cEv cd len w f (k + 1) (v.toInt32 :: t) P
        | none => P none)
      | _ => False))
def stC (g : Nat → Int32) : List Int32 → Prop
  | [] => True
  | a :: t => g t.length = a ∧ stC g t
theorem stC_kept {g g' : Nat → Int32} : ∀ (t : List Int32), (∀ i, i < t.length → g' i = g i) → stC g t → stC g' t
  | [], _, _ => trivial
  | a :: t, h, hs => ⟨by rw [h _ (by simp)]; exact hs.1, stC_kept t (fun i hi => h i (by simp; omega)) hs.2⟩
/-- the steps of a Program of the class -/
def cPr (I : Nat → Nat → Int32) (p : Nat) (cd : Nat → Nat × Nat) (len : Nat) : Prop := I p 6 = nI len ∧ len ≤ 200 ∧ ∀ k, k < len → I (p + 1) k = nI ((cd k).1 + 16 * (cd k).2) ∧ (cd k).1 < 14 ∧ (cd k).2 < 100000
/-- what the machine at o touches in a sum -/
def cFr (o : Nat) (I I' : Nat → Nat → Int32) : Prop := ∀ a j, ¬ (a = o ∧ (j = 2 ∨ j = 3)) → a ≠ o + 2 → I' a j = I a j
theorem cFr.rfl' (o : Nat) (I : Nat → Nat → Int32) : cFr o I I := fun _ _ _ _ => rfl
theorem cFr.trans {o : Nat} {I I' I2 : Nat → Nat → Int32} (h1 : cFr o I I') (h2 : cFr o I' I2) : cFr o I I2 := fun a j h g => (h2 a j h g).trans (h1 a j h g)
theorem cFr.s (o : Nat) (I : Nat → Nat → Int32) (i : Nat) (v : Int32) : cFr o I (sm_st I (o + 2) i v) := fun _ _ _ h => sm_st_o _ _ h
theorem cFr.t (o : Nat) (I : Nat → Nat → Int32) {i : Nat} (hi : i = 2 ∨ i = 3) (v : Int32) : cFr o I (sm_st I o i v) := fun a j h _ => by
  by_cases ha : a = o
  · exact sm_st_j _ _ (fun hj => h ⟨ha, hj ▸ hi⟩)
  · exact sm_st_o _ _ ha
def cApart (o p : Nat) : Prop := p + 1 < o ∨ o + 2 < p
theorem cFr.p {o p : Nat} {I I' : Nat → Nat → Int32} (h : cFr o I I') (hp : cApart o p) {cd : Nat → Nat × Nat} {len : Nat} (hc : cPr I p cd len) : cPr I' p cd len := by
  unfold cApart at hp
  refine ⟨?_, hc.2.1, fun k hk => ?_⟩
  · rw [h p 6 (by omega) (by omega)]
    exact hc.1
  · rw [h (p + 1) k (by omega) (by omega)]
    exact hc.2.2 k hk
theorem cFr.w {o : Nat} {I I' : Nat → Nat → Int32} (h : cFr o I I') : I' (o + 1) = I (o + 1) := by
  funext j
  exact h (o + 1) j (by omega) (by omega)
theorem sp_rk32 {op : Int32} {a b v : Int64} (h : sp_rk op a b = some v) : v.toInt32.toInt64 = v := by
  unfold sp_rk at h
  split at h
  · cases h
  · split at h
    · rename_i q
      cases h
      obtain ⟨q1, q2⟩ := q
      rw [Int64.le_iff_toInt_le] at q1 q2
      have z1 : (-1000000000 : Int64).toInt = -1000000000 := rfl
      have z2 : (1000000000 : Int64).toInt = 1000000000 := rfl
      apply Int64.toInt_inj.mp
      rw [Int32.toInt_toInt64, Int64.toInt_toInt32]
      apply Int.bmod_eq_of_le <;> omega
    · cases h
set_option maxHeartbeats 2000000 in
theorem lp_works {ex : sm_O} {d n o p ns nc len : Nat} {y : sm_Y} {L : Nat → Nat → Int64} {R : Nat → Nat → Option Nat} {Q : sm_Q} {cd : Nat → Nat × Nat} {w : Nat → Int32} {P : Option Int32 → Prop} {a2 : Int32} (hd : 1 ≤ d) (ho : ok2 y R o) (hp : ok6 y R p ns nc) (hns : ns = 200) (ha : cApart o p) :
    ∀ (f k : Nat) (st : List Int32) (I : Nat → Nat → Int32) (w4 w5 : Option Value), cPr I p cd len → I (o + 1) = w → I o 2 = nI st.length → st.length ≤ 40 → stC (I (o + 2)) st → cEv cd len w f k st P →
    (∀ (r : Option Int32) (I' : Nat → Nat → Int32), P r → cFr o I I' → (match r with
      | some v => I' o 3 = v
      | none => True) → Q (some (.int (if r.isSome = true then 1 else 0))) (n, y, I', L, R)) →
    sm_W ex d 0 0 11 11 [some (.ref o), some (.ref p), some (.int a2), some (.int (nI k)), w4, w5] [] (n, y, I, L, R) Q := by
  intro f
  induction f with
  | zero => intro k st I w4 w5 _ _ _ _ _ h; exact h.elim
  | succ f ih =>
    intro k st I w4 w5 hpr hw htop hlen hst h kk
    unfold cEv at h
    obtain ⟨hk, h⟩ := h
    obtain ⟨hs, h14, hwi⟩ := hpr.2.2 k hk
    have hl200 := hpr.2.1
    refine w_X2_works_11 hp ?_
    rw [hpr.1, if_neg (by rw [nI_leI (by omega) (by omega)]; omega), nI_clamp (by omega), hs, sm_st15 (by omega) hwi, sm_st4 (by omega) hwi]
    refine ⟨vp_in_nI (by omega) (by omega), ?_⟩
    generalize hop : (cd k).1 = op at h hs h14
    generalize hwith : (cd k).2 = wi at h hs hwi
    have e0 : ∀ c : Nat, c < 100 → (nI op = nI c ↔ op = c) := fun c hc => nI_eq (by omega) (by omega)
    have q0 : nI op = (0 : Int32) ↔ op = 0 := e0 0 (by omega)
    have q1 : nI op = (1 : Int32) ↔ op = 1 := e0 1 (by omega)
    have q2 : nI op = (2 : Int32) ↔ op = 2 := e0 2 (by omega)
    have q11 : nI op = (11 : Int32) ↔ op = 11 := e0 11 (by omega)
    have q12 : nI op = (12 : Int32) ↔ op = 12 := e0 12 (by omega)
    have q13 : nI op = (13 : Int32) ↔ op = 13 := e0 13 (by omega)
    refine w_X2_works_40 (d1 := 0) ho (by omega) ?_
    simp only [q0, q1, q2, q11, q12, q13]
    -- one more step
    have more : ∀ (k' : Nat) (st' : List Int32) (I' : Nat → Nat → Int32) (v4 v5 : Option Value), cFr o I I' → I' o 2 = nI st'.length → st'.length ≤ 40 → stC (I' (o + 2)) st' → cEv cd len w f k' st' P → sm_W ex d 0 0 11 11 [some (.ref o), some (.ref p), some (.int a2), some (.int (nI k')), v4, v5] [] (n, y, I', L, R) Q := by
      intro k' st' I' v4 v5 hf ht' hl' hst' h'
      refine ih k' st' I' v4 v5 (hf.p ha hpr) (by rw [hf.w, hw]) ht' hl' hst' h' ?_
      intro r I2 hP hf2 hr
      exact kk r I2 hP (hf.trans hf2) hr
    have fail : P none → Q (some (.int 0)) (n, y, I, L, R) := fun hP => kk none I hP (cFr.rfl' o I) trivial
    -- pushing a number
    have push : ∀ v : Int32, st.length < 40 → cEv cd len w f (k + 1) (v :: st) P → ∀ v4 v5 : Option Value, sm_W ex d 0 0 11 11 [some (.ref o), some (.ref p), some (.int a2), some (.int (nI k + 1)), v4, v5] [] (n, y, sm_st (sm_st I (o + 2) st.length v) o 2 ((sm_st I (o + 2) st.length v) o 2 + 1), L, R) Q := by
      intro v h40 h' v4 v5
      rw [sm_n1]
      refine more (k + 1) (v :: st) _ v4 v5 ((cFr.s o I _ _).trans (cFr.t o _ (Or.inl rfl) _)) ?_ (by simp; omega) ?_ h'
      · rw [sm_st_s, sm_st_o _ _ (by omega), htop, sm_n1]
        rfl
      · refine ⟨?_, stC_kept st (fun i hi => ?_) hst⟩
        · rw [sm_st_o _ _ (by omega), sm_st_s]
        · rw [sm_st_o _ _ (by omega), sm_st_j _ _ (by omega)]
    by_cases c0 : op = 0
    · rw [if_pos c0] at h ⊢
      match st, h, htop, hst, hlen with
      | a :: t, h, htop, hst, hlen =>
        simp only [List.length_cons] at htop hlen
        refine w_X2_works_245 ho ?_
        rw [htop, if_neg (nI_nle (by omega) (by omega)), nI_pred, nI_clamp (by omega)]
        refine ⟨vp_in_nI (by omega) (by decide), ?_⟩
        rw [sm_st_j _ _ (by decide), htop, if_neg (nI_nle (by omega) (by omega)), hst.1]
        exact kk (some a) _ h (cFr.t o I (Or.inr rfl) _) (sm_st_s _ _ _ _)
    rw [if_neg c0] at h ⊢
    by_cases c1 : op = 1
    · rw [if_pos c1] at h ⊢
      obtain ⟨h40, h⟩ := h
      rw [htop, if_neg (by rw [sm_of 40, nI_leI (by omega) (by omega)]; omega), if_neg (by omega), nI_clamp (by omega)]
      exact ⟨vp_in_nI h40 (by decide), push _ h40 h _ _⟩
    rw [if_neg c1] at h ⊢
    by_cases c2 : op = 2
    · rw [if_pos c2] at h ⊢
      obtain ⟨h40, h13, h⟩ := h
      rw [htop, if_neg (by rw [sm_of 40, nI_leI (by omega) (by omega)]; omega), if_pos (by rw [sm_of 13, nI_ltI (by omega) (by omega)]; exact h13), nI_clamp (by omega), nI_clamp (by omega)]
      rw [← hw] at h
      exact ⟨vp_in_nI h13 (by decide), vp_in_nI h40 (by decide), push _ h40 (hw ▸ h) _ _⟩
    rw [if_neg c2] at h ⊢
    match st, h, htop, hst, hlen with
    | [], h, htop, hst, hlen =>
      exfalso
      split at h
      · exact h
      · split at h <;> exact h
    | a :: t, h, htop, hst, hlen =>
      simp only [List.length_cons] at htop hlen
      rw [htop, if_neg (nI_ne0 (by omega) (by omega))]
      have i1 : nI (t.length + 1) - 1 = nI t.length := nI_pred _
      rw [i1]
      have hin : vp_in (nI t.length) 40 := vp_in_nI (by omega) (by decide)
      have hct : (nI t.length).toNatClampNeg = t.length := nI_clamp (by omega)
      rw [hct]
      by_cases c11 : op = 11
      · rw [if_pos c11] at h ⊢
        rw [hst.1, sm_n1]
        refine ⟨hin, ?_⟩
        refine more (k + 1) ((1 - a) :: t) _ _ _ (cFr.s o I _ _) ?_ (by simp; omega) ⟨sm_st_s _ _ _ _, stC_kept t (fun i hi => sm_st_j _ _ (by omega)) hst.2⟩ h
        rw [sm_st_o _ _ (by omega), htop]
        rfl
      rw [if_neg c11] at h ⊢
      have jump : ∀ c : Int32, (if a = c then cEv cd len w f (k + wi + 1) (a :: t) P else cEv cd len w f (k + 1) t P) → vp_in (nI t.length) 40 ∧ (if I (o + 2) t.length = c then sm_W ex d 0 0 11 11 [some (.ref o), some (.ref p), some (.int a2), some (.int (nI k + nI wi + 1)), some (.int (nI op)), some (.int (nI wi))] [] (n, y, I, L, R) Q else sm_W ex d 0 0 11 11 [some (.ref o), some (.ref p), some (.int a2), some (.int (nI k + 1)), some (.int (nI op)), some (.int (nI wi))] [] (n, y, sm_st I o 2 (nI t.length), L, R) Q) := by
        intro c hc
        refine ⟨hin, ?_⟩
        rw [hst.1]
        split
        · rename_i q
          rw [if_pos q] at hc
          rw [nI_add, sm_n1]
          exact more (k + wi + 1) (a :: t) I _ _ (cFr.rfl' o I) htop hlen hst hc
        · rename_i q
          rw [if_neg q] at hc
          rw [sm_n1]
          refine more (k + 1) t _ _ _ (cFr.t o I (Or.inl rfl) _) (sm_st_s _ _ _ _) (by omega) (stC_kept t (fun i hi => sm_st_o _ _ (by omega)) hst.2) hc
      by_cases c12 : op = 12
      · rw [if_pos c12]
        rw [if_pos (Or.inl c12)] at h
        dsimp only at h
        rw [if_pos c12] at h
        exact jump 1 h
      rw [if_neg c12]
      by_cases c13 : op = 13
      · rw [if_pos c13]
        rw [if_pos (Or.inr c13)] at h
        dsimp only at h
        rw [if_neg c12] at h
        exact jump 0 h
      rw [if_neg c13]
      rw [if_neg (by omega)] at h
      match t, h, htop, hst, hlen with
      | [], h, _, _, _ => exact h.elim
      | b :: t, h, htop, hst, hlen =>
        dsimp only at h
        simp only [List.length_cons] at htop hlen
        have ea : I (o + 2) (t.length + 1) = a := hst.1
        have eb : I (o + 2) t.length = b := hst.2.1
        refine c_X2_join (t := t.length) ho htop (by omega) (fun v hv => ?_) (fun hv => ?_)
        · rw [ea, eb] at hv
          rw [hv] at h
          dsimp only at h
          refine w_X2_works_234 ?_
          rw [if_neg (by decide), sm_n1]
          refine more (k + 1) (v.toInt32 :: t) _ _ _ ((cFr.t o I (Or.inl rfl) _).trans (cFr.s o _ _ _)) ?_ (by simp; omega) ⟨sm_st_s _ _ _ _, stC_kept t (fun i hi => ?_) hst.2.2⟩ h
          · rw [sm_st_o _ _ (by omega), sm_st_s]
            rfl
          · rw [sm_st_j _ _ (by omega), sm_st_o _ _ (by omega)]
        · rw [ea, eb] at hv
          rw [hv] at h
          dsimp only at h
          refine w_X2_works_234 ?_
          rw [if_pos rfl]
          exact fail h

/-- the code from a to b pushes what D tells, or doesn't work; it wants hh cells of the pile -/
def cSeg (cd : Nat → Nat × Nat) (a b hh : Nat) (D : (Nat → Int32) → Option Int32) : Prop := a ≤ b ∧ ∀ (w : Nat → Int32) (len : Nat) (st : List Int32) (P : Option Int32 → Prop) (f : Nat), b < len → st.length + hh ≤ 40 → (match D w with
  | some v => cEv cd len w f b (v :: st) P
  | none => P none) → ∃ f', cEv cd len w f' a st P
theorem c_X2_works {ex : sm_O} {n : Nat} {y : sm_Y} {I : Nat → Nat → Int32} {L : Nat → Nat → Int64} {R : Nat → Nat → Option Nat} {Q : sm_Q} {d o p a b hh len ns nc : Nat} {w3 w4 w5 : Option Value} {cd : Nat → Nat × Nat} {D : (Nat → Int32) → Option Int32} (hd : 1 ≤ d) (ho : ok2 y R o) (hp : ok6 y R p ns nc) (hns : ns = 200) (ha : cApart o p) (hpr : cPr I p cd len) (hs : cSeg cd a b hh D) (hh40 : hh ≤ 40) (hb : b < len) (hb0 : (cd b).1 = 0)
    (k : ∀ (I' : Nat → Nat → Int32), cFr o I I' → (match D (I (o + 1)) with
      | some v => I' o 3 = v
      | none => True) → Q (some (.int (if (D (I (o + 1))).isSome = true then 1 else 0))) (n, y, I', L, R)) : sm_W ex d 0 0 11 0 [some (.ref o), some (.ref p), some (.int (nI a)), w3, w4, w5] [] (n, y, I, L, R) Q := by
  have hl200 := hpr.2.1
  refine w_X2_works_0 ho hd ?_
  rw [if_neg (nI_pos (by have := hs.1; omega))]
  obtain ⟨f, hf⟩ := hs.2 (I (o + 1)) len [] (fun r => r = D (I (o + 1))) 1 hb (by simpa using hh40) (by
    cases hD : D (I (o + 1)) with
    | none => rfl
    | some v =>
      show cEv _ _ _ 1 _ _ _
      unfold cEv
      rw [if_pos hb0]
      exact ⟨hb, rfl⟩)
  have hf0 : cFr o I (sm_st I o 2 0) := cFr.t o I (Or.inl rfl) _
  refine lp_works (cd := cd) (w := I (o + 1)) hd ho hp hns ha f a [] _ _ _ (hf0.p ha hpr) hf0.w (sm_st_s _ _ _ _) (by simp) trivial hf ?_
  intro r I' hr hf1 hv
  subst hr
  exact k I' (hf0.trans hf1) hv
end
