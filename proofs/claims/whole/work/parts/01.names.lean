-- ===== PART A: goes FIRST, ahead of the names: the tables' words, and 'selects' of the private methods out of them =====
/-- a private method of a class that the tables say can be made, by its rows of tables_1 -/
def lw_okq (q : MethodName × Nat) : Prop := (q.1.cls ≠ "java/lang/invoke/MethodHandle" ∧ q.1.cls ≠ "java/lang/invoke/VarHandle") ∧ Cond.instantiable q.1.cls q.2 ∈ tables_1 ∧ Cond.privateMethod q.1 ∈ tables_1 ∧ Cond.instanceMethod q.1 ∈ tables_1
theorem lw_p0 : lw_okq (⟨"CoinLand$Table", "isInside", "(II)Z"⟩, 4) := ⟨⟨by decide +kernel, by decide +kernel⟩, List.mem_of_getElem? (i := 37) (by decide +kernel), List.mem_of_getElem? (i := 301) (by decide +kernel), List.mem_of_getElem? (i := 302) (by decide +kernel)⟩
theorem lw_p1 : lw_okq (⟨"CoinLand$Reader", "unroll", "()V"⟩, 8) := ⟨⟨by decide +kernel, by decide +kernel⟩, List.mem_of_getElem? (i := 110) (by decide +kernel), List.mem_of_getElem? (i := 318) (by decide +kernel), List.mem_of_getElem? (i := 319) (by decide +kernel)⟩
theorem lw_p2 : lw_okq (⟨"CoinLand$Reader", "readClause", "()LCoinLand$Clause;"⟩, 8) := ⟨⟨by decide +kernel, by decide +kernel⟩, List.mem_of_getElem? (i := 110) (by decide +kernel), List.mem_of_getElem? (i := 345) (by decide +kernel), List.mem_of_getElem? (i := 346) (by decide +kernel)⟩
theorem lw_p3 : lw_okq (⟨"CoinLand$Reader", "readWord", "()I"⟩, 8) := ⟨⟨by decide +kernel, by decide +kernel⟩, List.mem_of_getElem? (i := 110) (by decide +kernel), List.mem_of_getElem? (i := 349) (by decide +kernel), List.mem_of_getElem? (i := 350) (by decide +kernel)⟩
theorem lw_p4 : lw_okq (⟨"CoinLand$Reader", "next", "()I"⟩, 8) := ⟨⟨by decide +kernel, by decide +kernel⟩, List.mem_of_getElem? (i := 110) (by decide +kernel), List.mem_of_getElem? (i := 353) (by decide +kernel), List.mem_of_getElem? (i := 354) (by decide +kernel)⟩
theorem lw_p5 : lw_okq (⟨"CoinLand$Reader", "takeAll", "(Ljava/lang/String;)Z"⟩, 8) := ⟨⟨by decide +kernel, by decide +kernel⟩, List.mem_of_getElem? (i := 110) (by decide +kernel), List.mem_of_getElem? (i := 358) (by decide +kernel), List.mem_of_getElem? (i := 359) (by decide +kernel)⟩
theorem lw_p6 : lw_okq (⟨"CoinLand$Reader", "take", "(I)Z"⟩, 8) := ⟨⟨by decide +kernel, by decide +kernel⟩, List.mem_of_getElem? (i := 110) (by decide +kernel), List.mem_of_getElem? (i := 410) (by decide +kernel), List.mem_of_getElem? (i := 411) (by decide +kernel)⟩
theorem lw_p7 : lw_okq (⟨"CoinLand$Reader", "readNumber", "()I"⟩, 8) := ⟨⟨by decide +kernel, by decide +kernel⟩, List.mem_of_getElem? (i := 110) (by decide +kernel), List.mem_of_getElem? (i := 417) (by decide +kernel), List.mem_of_getElem? (i := 418) (by decide +kernel)⟩
theorem lw_p8 : lw_okq (⟨"CoinLand$Reader", "takeDigit", "()I"⟩, 8) := ⟨⟨by decide +kernel, by decide +kernel⟩, List.mem_of_getElem? (i := 110) (by decide +kernel), List.mem_of_getElem? (i := 421) (by decide +kernel), List.mem_of_getElem? (i := 422) (by decide +kernel)⟩
theorem lw_p9 : lw_okq (⟨"CoinLand$Reader", "readCondition", "()Z"⟩, 8) := ⟨⟨by decide +kernel, by decide +kernel⟩, List.mem_of_getElem? (i := 110) (by decide +kernel), List.mem_of_getElem? (i := 425) (by decide +kernel), List.mem_of_getElem? (i := 426) (by decide +kernel)⟩
theorem lw_p10 : lw_okq (⟨"CoinLand$Reader", "takeOpening", "()Z"⟩, 8) := ⟨⟨by decide +kernel, by decide +kernel⟩, List.mem_of_getElem? (i := 110) (by decide +kernel), List.mem_of_getElem? (i := 429) (by decide +kernel), List.mem_of_getElem? (i := 430) (by decide +kernel)⟩
theorem lw_p11 : lw_okq (⟨"CoinLand$Reader", "emit", "(I)V"⟩, 8) := ⟨⟨by decide +kernel, by decide +kernel⟩, List.mem_of_getElem? (i := 110) (by decide +kernel), List.mem_of_getElem? (i := 433) (by decide +kernel), List.mem_of_getElem? (i := 434) (by decide +kernel)⟩
theorem lw_p12 : lw_okq (⟨"CoinLand$Reader", "readTest", "()Z"⟩, 8) := ⟨⟨by decide +kernel, by decide +kernel⟩, List.mem_of_getElem? (i := 110) (by decide +kernel), List.mem_of_getElem? (i := 437) (by decide +kernel), List.mem_of_getElem? (i := 438) (by decide +kernel)⟩
theorem lw_p13 : lw_okq (⟨"CoinLand$Reader", "takeOneOf", "(Ljava/lang/String;)I"⟩, 8) := ⟨⟨by decide +kernel, by decide +kernel⟩, List.mem_of_getElem? (i := 110) (by decide +kernel), List.mem_of_getElem? (i := 442) (by decide +kernel), List.mem_of_getElem? (i := 443) (by decide +kernel)⟩
theorem lw_p14 : lw_okq (⟨"CoinLand$Reader", "closeTurns", "()V"⟩, 8) := ⟨⟨by decide +kernel, by decide +kernel⟩, List.mem_of_getElem? (i := 110) (by decide +kernel), List.mem_of_getElem? (i := 505) (by decide +kernel), List.mem_of_getElem? (i := 506) (by decide +kernel)⟩
theorem lw_p15 : lw_okq (⟨"CoinLand$Reader", "close", "()V"⟩, 8) := ⟨⟨by decide +kernel, by decide +kernel⟩, List.mem_of_getElem? (i := 110) (by decide +kernel), List.mem_of_getElem? (i := 509) (by decide +kernel), List.mem_of_getElem? (i := 510) (by decide +kernel)⟩
def lw_privs_1 : List (MethodName × Nat) := [(⟨"CoinLand$Table", "isInside", "(II)Z"⟩, 4), (⟨"CoinLand$Reader", "unroll", "()V"⟩, 8), (⟨"CoinLand$Reader", "readClause", "()LCoinLand$Clause;"⟩, 8), (⟨"CoinLand$Reader", "readWord", "()I"⟩, 8), (⟨"CoinLand$Reader", "next", "()I"⟩, 8), (⟨"CoinLand$Reader", "takeAll", "(Ljava/lang/String;)Z"⟩, 8), (⟨"CoinLand$Reader", "take", "(I)Z"⟩, 8), (⟨"CoinLand$Reader", "readNumber", "()I"⟩, 8), (⟨"CoinLand$Reader", "takeDigit", "()I"⟩, 8), (⟨"CoinLand$Reader", "readCondition", "()Z"⟩, 8), (⟨"CoinLand$Reader", "takeOpening", "()Z"⟩, 8), (⟨"CoinLand$Reader", "emit", "(I)V"⟩, 8), (⟨"CoinLand$Reader", "readTest", "()Z"⟩, 8), (⟨"CoinLand$Reader", "takeOneOf", "(Ljava/lang/String;)I"⟩, 8), (⟨"CoinLand$Reader", "closeTurns", "()V"⟩, 8), (⟨"CoinLand$Reader", "close", "()V"⟩, 8)]
theorem lw_r1 : ∀ q ∈ lw_privs_1, lw_okq q := List.forall_mem_cons.mpr ⟨lw_p0, List.forall_mem_cons.mpr ⟨lw_p1, List.forall_mem_cons.mpr ⟨lw_p2, List.forall_mem_cons.mpr ⟨lw_p3, List.forall_mem_cons.mpr ⟨lw_p4, List.forall_mem_cons.mpr ⟨lw_p5, List.forall_mem_cons.mpr ⟨lw_p6, List.forall_mem_cons.mpr ⟨lw_p7, List.forall_mem_cons.mpr ⟨lw_p8, List.forall_mem_cons.mpr ⟨lw_p9, List.forall_mem_cons.mpr ⟨lw_p10, List.forall_mem_cons.mpr ⟨lw_p11, List.forall_mem_cons.mpr ⟨lw_p12, List.forall_mem_cons.mpr ⟨lw_p13, List.forall_mem_cons.mpr ⟨lw_p14, List.forall_mem_cons.mpr ⟨lw_p15, fun _ h => absurd h List.not_mem_nil⟩⟩⟩⟩⟩⟩⟩⟩⟩⟩⟩⟩⟩⟩⟩⟩
theorem lw_p16 : lw_okq (⟨"CoinLand$Reader", "takeClosing", "()V"⟩, 8) := ⟨⟨by decide +kernel, by decide +kernel⟩, List.mem_of_getElem? (i := 110) (by decide +kernel), List.mem_of_getElem? (i := 513) (by decide +kernel), List.mem_of_getElem? (i := 514) (by decide +kernel)⟩
theorem lw_p17 : lw_okq (⟨"CoinLand$World", "lookAt", "(IIII)V"⟩, 11) := ⟨⟨by decide +kernel, by decide +kernel⟩, List.mem_of_getElem? (i := 31) (by decide +kernel), List.mem_of_getElem? (i := 588) (by decide +kernel), List.mem_of_getElem? (i := 589) (by decide +kernel)⟩
theorem lw_p18 : lw_okq (⟨"CoinLand$Payer", "weigh", "()V"⟩, 6) := ⟨⟨by decide +kernel, by decide +kernel⟩, List.mem_of_getElem? (i := 186) (by decide +kernel), List.mem_of_getElem? (i := 647) (by decide +kernel), List.mem_of_getElem? (i := 648) (by decide +kernel)⟩
theorem lw_p19 : lw_okq (⟨"CoinLand", "isTaken", "(II)Z"⟩, 8) := ⟨⟨by decide +kernel, by decide +kernel⟩, List.mem_of_getElem? (i := 23) (by decide +kernel), List.mem_of_getElem? (i := 661) (by decide +kernel), List.mem_of_getElem? (i := 662) (by decide +kernel)⟩
theorem lw_p20 : lw_okq (⟨"CoinLand$Guesses", "start", "()I"⟩, 7) := ⟨⟨by decide +kernel, by decide +kernel⟩, List.mem_of_getElem? (i := 141) (by decide +kernel), List.mem_of_getElem? (i := 678) (by decide +kernel), List.mem_of_getElem? (i := 679) (by decide +kernel)⟩
theorem lw_p21 : lw_okq (⟨"CoinLand$Guesses", "weigh", "()V"⟩, 7) := ⟨⟨by decide +kernel, by decide +kernel⟩, List.mem_of_getElem? (i := 141) (by decide +kernel), List.mem_of_getElem? (i := 694) (by decide +kernel), List.mem_of_getElem? (i := 695) (by decide +kernel)⟩
theorem lw_p22 : lw_okq (⟨"CoinLand$Guesses", "soFar", "(I)I"⟩, 7) := ⟨⟨by decide +kernel, by decide +kernel⟩, List.mem_of_getElem? (i := 141) (by decide +kernel), List.mem_of_getElem? (i := 702) (by decide +kernel), List.mem_of_getElem? (i := 703) (by decide +kernel)⟩
theorem lw_p23 : lw_okq (⟨"CoinLand$Guesses", "surplus", "(I)I"⟩, 7) := ⟨⟨by decide +kernel, by decide +kernel⟩, List.mem_of_getElem? (i := 141) (by decide +kernel), List.mem_of_getElem? (i := 706) (by decide +kernel), List.mem_of_getElem? (i := 707) (by decide +kernel)⟩
theorem lw_p24 : lw_okq (⟨"CoinLand$Guesses", "noteOne", "()V"⟩, 7) := ⟨⟨by decide +kernel, by decide +kernel⟩, List.mem_of_getElem? (i := 141) (by decide +kernel), List.mem_of_getElem? (i := 715) (by decide +kernel), List.mem_of_getElem? (i := 716) (by decide +kernel)⟩
theorem lw_p25 : lw_okq (⟨"CoinLand$Guesses", "outcomes", "(III)I"⟩, 7) := ⟨⟨by decide +kernel, by decide +kernel⟩, List.mem_of_getElem? (i := 141) (by decide +kernel), List.mem_of_getElem? (i := 777) (by decide +kernel), List.mem_of_getElem? (i := 778) (by decide +kernel)⟩
theorem lw_p26 : lw_okq (⟨"CoinLand$Guesses", "cheatNeeded", "()I"⟩, 7) := ⟨⟨by decide +kernel, by decide +kernel⟩, List.mem_of_getElem? (i := 141) (by decide +kernel), List.mem_of_getElem? (i := 797) (by decide +kernel), List.mem_of_getElem? (i := 798) (by decide +kernel)⟩
theorem lw_p27 : lw_okq (⟨"CoinLand$Payer", "start", "(I)I"⟩, 6) := ⟨⟨by decide +kernel, by decide +kernel⟩, List.mem_of_getElem? (i := 186) (by decide +kernel), List.mem_of_getElem? (i := 822) (by decide +kernel), List.mem_of_getElem? (i := 823) (by decide +kernel)⟩
theorem lw_p28 : lw_okq (⟨"CoinLand", "ofBest", "(II)I"⟩, 8) := ⟨⟨by decide +kernel, by decide +kernel⟩, List.mem_of_getElem? (i := 23) (by decide +kernel), List.mem_of_getElem? (i := 846) (by decide +kernel), List.mem_of_getElem? (i := 847) (by decide +kernel)⟩
theorem lw_p29 : lw_okq (⟨"CoinLand$Payer", "paysUpTo", "(I)Z"⟩, 6) := ⟨⟨by decide +kernel, by decide +kernel⟩, List.mem_of_getElem? (i := 186) (by decide +kernel), List.mem_of_getElem? (i := 882) (by decide +kernel), List.mem_of_getElem? (i := 883) (by decide +kernel)⟩
theorem lw_p30 : lw_okq (⟨"CoinLand", "areSlatesBy", "(I)Z"⟩, 8) := ⟨⟨by decide +kernel, by decide +kernel⟩, List.mem_of_getElem? (i := 23) (by decide +kernel), List.mem_of_getElem? (i := 919) (by decide +kernel), List.mem_of_getElem? (i := 920) (by decide +kernel)⟩
theorem lw_p31 : lw_okq (⟨"CoinLand", "coinsInPurse", "()I"⟩, 8) := ⟨⟨by decide +kernel, by decide +kernel⟩, List.mem_of_getElem? (i := 23) (by decide +kernel), List.mem_of_getElem? (i := 927) (by decide +kernel), List.mem_of_getElem? (i := 928) (by decide +kernel)⟩
def lw_privs_2 : List (MethodName × Nat) := [(⟨"CoinLand$Reader", "takeClosing", "()V"⟩, 8), (⟨"CoinLand$World", "lookAt", "(IIII)V"⟩, 11), (⟨"CoinLand$Payer", "weigh", "()V"⟩, 6), (⟨"CoinLand", "isTaken", "(II)Z"⟩, 8), (⟨"CoinLand$Guesses", "start", "()I"⟩, 7), (⟨"CoinLand$Guesses", "weigh", "()V"⟩, 7), (⟨"CoinLand$Guesses", "soFar", "(I)I"⟩, 7), (⟨"CoinLand$Guesses", "surplus", "(I)I"⟩, 7), (⟨"CoinLand$Guesses", "noteOne", "()V"⟩, 7), (⟨"CoinLand$Guesses", "outcomes", "(III)I"⟩, 7), (⟨"CoinLand$Guesses", "cheatNeeded", "()I"⟩, 7), (⟨"CoinLand$Payer", "start", "(I)I"⟩, 6), (⟨"CoinLand", "ofBest", "(II)I"⟩, 8), (⟨"CoinLand$Payer", "paysUpTo", "(I)Z"⟩, 6), (⟨"CoinLand", "areSlatesBy", "(I)Z"⟩, 8), (⟨"CoinLand", "coinsInPurse", "()I"⟩, 8)]
theorem lw_r2 : ∀ q ∈ lw_privs_2, lw_okq q := List.forall_mem_cons.mpr ⟨lw_p16, List.forall_mem_cons.mpr ⟨lw_p17, List.forall_mem_cons.mpr ⟨lw_p18, List.forall_mem_cons.mpr ⟨lw_p19, List.forall_mem_cons.mpr ⟨lw_p20, List.forall_mem_cons.mpr ⟨lw_p21, List.forall_mem_cons.mpr ⟨lw_p22, List.forall_mem_cons.mpr ⟨lw_p23, List.forall_mem_cons.mpr ⟨lw_p24, List.forall_mem_cons.mpr ⟨lw_p25, List.forall_mem_cons.mpr ⟨lw_p26, List.forall_mem_cons.mpr ⟨lw_p27, List.forall_mem_cons.mpr ⟨lw_p28, List.forall_mem_cons.mpr ⟨lw_p29, List.forall_mem_cons.mpr ⟨lw_p30, List.forall_mem_cons.mpr ⟨lw_p31, fun _ h => absurd h List.not_mem_nil⟩⟩⟩⟩⟩⟩⟩⟩⟩⟩⟩⟩⟩⟩⟩⟩
theorem lw_p32 : lw_okq (⟨"CoinLand$Acts", "run", "(IIII)I"⟩, 5) := ⟨⟨by decide +kernel, by decide +kernel⟩, List.mem_of_getElem? (i := 235) (by decide +kernel), List.mem_of_getElem? (i := 979) (by decide +kernel), List.mem_of_getElem? (i := 980) (by decide +kernel)⟩
theorem lw_p33 : lw_okq (⟨"CoinLand$Acts", "answer", "(III)I"⟩, 5) := ⟨⟨by decide +kernel, by decide +kernel⟩, List.mem_of_getElem? (i := 235) (by decide +kernel), List.mem_of_getElem? (i := 994) (by decide +kernel), List.mem_of_getElem? (i := 995) (by decide +kernel)⟩
theorem lw_p34 : lw_okq (⟨"CoinLandModel", "clauseHere", "()V"⟩, 34) := ⟨⟨by decide +kernel, by decide +kernel⟩, List.mem_of_getElem? (i := 1036) (by decide +kernel), List.mem_of_getElem? (i := 1155) (by decide +kernel), List.mem_of_getElem? (i := 1156) (by decide +kernel)⟩
theorem lw_p35 : lw_okq (⟨"CoinLandModel", "here", "()I"⟩, 34) := ⟨⟨by decide +kernel, by decide +kernel⟩, List.mem_of_getElem? (i := 1036) (by decide +kernel), List.mem_of_getElem? (i := 1159) (by decide +kernel), List.mem_of_getElem? (i := 1160) (by decide +kernel)⟩
theorem lw_p36 : lw_okq (⟨"CoinLandModel", "tellsHere", "(ILjava/lang/String;)V"⟩, 34) := ⟨⟨by decide +kernel, by decide +kernel⟩, List.mem_of_getElem? (i := 1036) (by decide +kernel), List.mem_of_getElem? (i := 1164) (by decide +kernel), List.mem_of_getElem? (i := 1165) (by decide +kernel)⟩
theorem lw_p37 : lw_okq (⟨"CoinLandModel", "spells", "(Ljava/lang/String;)V"⟩, 34) := ⟨⟨by decide +kernel, by decide +kernel⟩, List.mem_of_getElem? (i := 1036) (by decide +kernel), List.mem_of_getElem? (i := 1168) (by decide +kernel), List.mem_of_getElem? (i := 1169) (by decide +kernel)⟩
theorem lw_p38 : lw_okq (⟨"CoinLandModel", "must", "(I)V"⟩, 34) := ⟨⟨by decide +kernel, by decide +kernel⟩, List.mem_of_getElem? (i := 1036) (by decide +kernel), List.mem_of_getElem? (i := 1174) (by decide +kernel), List.mem_of_getElem? (i := 1175) (by decide +kernel)⟩
theorem lw_p39 : lw_okq (⟨"CoinLandModel", "figures", "()I"⟩, 34) := ⟨⟨by decide +kernel, by decide +kernel⟩, List.mem_of_getElem? (i := 1036) (by decide +kernel), List.mem_of_getElem? (i := 1178) (by decide +kernel), List.mem_of_getElem? (i := 1179) (by decide +kernel)⟩
theorem lw_p40 : lw_okq (⟨"CoinLandModel", "much", "(ILjava/lang/String;)V"⟩, 34) := ⟨⟨by decide +kernel, by decide +kernel⟩, List.mem_of_getElem? (i := 1036) (by decide +kernel), List.mem_of_getElem? (i := 1184) (by decide +kernel), List.mem_of_getElem? (i := 1185) (by decide +kernel)⟩
theorem lw_p41 : lw_okq (⟨"CoinLandModel", "some", "()V"⟩, 34) := ⟨⟨by decide +kernel, by decide +kernel⟩, List.mem_of_getElem? (i := 1036) (by decide +kernel), List.mem_of_getElem? (i := 1188) (by decide +kernel), List.mem_of_getElem? (i := 1189) (by decide +kernel)⟩
theorem lw_p42 : lw_okq (⟨"CoinLandModel", "every", "()V"⟩, 34) := ⟨⟨by decide +kernel, by decide +kernel⟩, List.mem_of_getElem? (i := 1036) (by decide +kernel), List.mem_of_getElem? (i := 1192) (by decide +kernel), List.mem_of_getElem? (i := 1193) (by decide +kernel)⟩
theorem lw_p43 : lw_okq (⟨"CoinLandModel", "factor", "()V"⟩, 34) := ⟨⟨by decide +kernel, by decide +kernel⟩, List.mem_of_getElem? (i := 1036) (by decide +kernel), List.mem_of_getElem? (i := 1196) (by decide +kernel), List.mem_of_getElem? (i := 1197) (by decide +kernel)⟩
theorem lw_p44 : lw_okq (⟨"CoinLandModel", "emits", "(I)V"⟩, 34) := ⟨⟨by decide +kernel, by decide +kernel⟩, List.mem_of_getElem? (i := 1036) (by decide +kernel), List.mem_of_getElem? (i := 1200) (by decide +kernel), List.mem_of_getElem? (i := 1201) (by decide +kernel)⟩
theorem lw_p45 : lw_okq (⟨"CoinLandModel", "among", "(Ljava/lang/String;)I"⟩, 34) := ⟨⟨by decide +kernel, by decide +kernel⟩, List.mem_of_getElem? (i := 1036) (by decide +kernel), List.mem_of_getElem? (i := 1205) (by decide +kernel), List.mem_of_getElem? (i := 1206) (by decide +kernel)⟩
theorem lw_p46 : lw_okq (⟨"CoinLandModel", "isCoin", "(I)Z"⟩, 34) := ⟨⟨by decide +kernel, by decide +kernel⟩, List.mem_of_getElem? (i := 1036) (by decide +kernel), List.mem_of_getElem? (i := 1219) (by decide +kernel), List.mem_of_getElem? (i := 1220) (by decide +kernel)⟩
theorem lw_p47 : lw_okq (⟨"CoinLandModel", "worthOf", "(II)I"⟩, 34) := ⟨⟨by decide +kernel, by decide +kernel⟩, List.mem_of_getElem? (i := 1036) (by decide +kernel), List.mem_of_getElem? (i := 1223) (by decide +kernel), List.mem_of_getElem? (i := 1224) (by decide +kernel)⟩
def lw_privs_3 : List (MethodName × Nat) := [(⟨"CoinLand$Acts", "run", "(IIII)I"⟩, 5), (⟨"CoinLand$Acts", "answer", "(III)I"⟩, 5), (⟨"CoinLandModel", "clauseHere", "()V"⟩, 34), (⟨"CoinLandModel", "here", "()I"⟩, 34), (⟨"CoinLandModel", "tellsHere", "(ILjava/lang/String;)V"⟩, 34), (⟨"CoinLandModel", "spells", "(Ljava/lang/String;)V"⟩, 34), (⟨"CoinLandModel", "must", "(I)V"⟩, 34), (⟨"CoinLandModel", "figures", "()I"⟩, 34), (⟨"CoinLandModel", "much", "(ILjava/lang/String;)V"⟩, 34), (⟨"CoinLandModel", "some", "()V"⟩, 34), (⟨"CoinLandModel", "every", "()V"⟩, 34), (⟨"CoinLandModel", "factor", "()V"⟩, 34), (⟨"CoinLandModel", "emits", "(I)V"⟩, 34), (⟨"CoinLandModel", "among", "(Ljava/lang/String;)I"⟩, 34), (⟨"CoinLandModel", "isCoin", "(I)Z"⟩, 34), (⟨"CoinLandModel", "worthOf", "(II)I"⟩, 34)]
theorem lw_r3 : ∀ q ∈ lw_privs_3, lw_okq q := List.forall_mem_cons.mpr ⟨lw_p32, List.forall_mem_cons.mpr ⟨lw_p33, List.forall_mem_cons.mpr ⟨lw_p34, List.forall_mem_cons.mpr ⟨lw_p35, List.forall_mem_cons.mpr ⟨lw_p36, List.forall_mem_cons.mpr ⟨lw_p37, List.forall_mem_cons.mpr ⟨lw_p38, List.forall_mem_cons.mpr ⟨lw_p39, List.forall_mem_cons.mpr ⟨lw_p40, List.forall_mem_cons.mpr ⟨lw_p41, List.forall_mem_cons.mpr ⟨lw_p42, List.forall_mem_cons.mpr ⟨lw_p43, List.forall_mem_cons.mpr ⟨lw_p44, List.forall_mem_cons.mpr ⟨lw_p45, List.forall_mem_cons.mpr ⟨lw_p46, List.forall_mem_cons.mpr ⟨lw_p47, fun _ h => absurd h List.not_mem_nil⟩⟩⟩⟩⟩⟩⟩⟩⟩⟩⟩⟩⟩⟩⟩⟩
theorem lw_p48 : lw_okq (⟨"CoinLandModel", "looks", "(II)I"⟩, 34) := ⟨⟨by decide +kernel, by decide +kernel⟩, List.mem_of_getElem? (i := 1036) (by decide +kernel), List.mem_of_getElem? (i := 1227) (by decide +kernel), List.mem_of_getElem? (i := 1228) (by decide +kernel)⟩
theorem lw_p49 : lw_okq (⟨"CoinLandModel", "tellsOf", "(II)I"⟩, 34) := ⟨⟨by decide +kernel, by decide +kernel⟩, List.mem_of_getElem? (i := 1036) (by decide +kernel), List.mem_of_getElem? (i := 1231) (by decide +kernel), List.mem_of_getElem? (i := 1232) (by decide +kernel)⟩
theorem lw_p50 : lw_okq (⟨"CoinLandModel", "topNow", "()I"⟩, 34) := ⟨⟨by decide +kernel, by decide +kernel⟩, List.mem_of_getElem? (i := 1036) (by decide +kernel), List.mem_of_getElem? (i := 1258) (by decide +kernel), List.mem_of_getElem? (i := 1259) (by decide +kernel)⟩
theorem lw_p51 : lw_okq (⟨"CoinLandModel", "cheatNow", "()I"⟩, 34) := ⟨⟨by decide +kernel, by decide +kernel⟩, List.mem_of_getElem? (i := 1036) (by decide +kernel), List.mem_of_getElem? (i := 1262) (by decide +kernel), List.mem_of_getElem? (i := 1263) (by decide +kernel)⟩
theorem lw_p52 : lw_okq (⟨"CoinLandModel", "rich", "()I"⟩, 34) := ⟨⟨by decide +kernel, by decide +kernel⟩, List.mem_of_getElem? (i := 1036) (by decide +kernel), List.mem_of_getElem? (i := 1266) (by decide +kernel), List.mem_of_getElem? (i := 1267) (by decide +kernel)⟩
theorem lw_p53 : lw_okq (⟨"CoinLandModel", "looksForWorths", "()V"⟩, 34) := ⟨⟨by decide +kernel, by decide +kernel⟩, List.mem_of_getElem? (i := 1036) (by decide +kernel), List.mem_of_getElem? (i := 1270) (by decide +kernel), List.mem_of_getElem? (i := 1271) (by decide +kernel)⟩
theorem lw_p54 : lw_okq (⟨"CoinLandModel", "looksForLeftNow", "()V"⟩, 34) := ⟨⟨by decide +kernel, by decide +kernel⟩, List.mem_of_getElem? (i := 1036) (by decide +kernel), List.mem_of_getElem? (i := 1282) (by decide +kernel), List.mem_of_getElem? (i := 1283) (by decide +kernel)⟩
theorem lw_p55 : lw_okq (⟨"CoinLandModel", "looksForLeft", "(I)V"⟩, 34) := ⟨⟨by decide +kernel, by decide +kernel⟩, List.mem_of_getElem? (i := 1036) (by decide +kernel), List.mem_of_getElem? (i := 1286) (by decide +kernel), List.mem_of_getElem? (i := 1287) (by decide +kernel)⟩
theorem lw_p56 : lw_okq (⟨"CoinLandModel", "looksForAll", "()V"⟩, 34) := ⟨⟨by decide +kernel, by decide +kernel⟩, List.mem_of_getElem? (i := 1036) (by decide +kernel), List.mem_of_getElem? (i := 1290) (by decide +kernel), List.mem_of_getElem? (i := 1291) (by decide +kernel)⟩
theorem lw_p57 : lw_okq (⟨"CoinLandModel", "guesses", "()I"⟩, 34) := ⟨⟨by decide +kernel, by decide +kernel⟩, List.mem_of_getElem? (i := 1036) (by decide +kernel), List.mem_of_getElem? (i := 1295) (by decide +kernel), List.mem_of_getElem? (i := 1296) (by decide +kernel)⟩
theorem lw_p58 : lw_okq (⟨"CoinLandModel", "tellsGuess", "(I)V"⟩, 34) := ⟨⟨by decide +kernel, by decide +kernel⟩, List.mem_of_getElem? (i := 1036) (by decide +kernel), List.mem_of_getElem? (i := 1299) (by decide +kernel), List.mem_of_getElem? (i := 1300) (by decide +kernel)⟩
theorem lw_p59 : lw_okq (⟨"CoinLandModel", "cheatBy", "(I)I"⟩, 34) := ⟨⟨by decide +kernel, by decide +kernel⟩, List.mem_of_getElem? (i := 1036) (by decide +kernel), List.mem_of_getElem? (i := 1303) (by decide +kernel), List.mem_of_getElem? (i := 1304) (by decide +kernel)⟩
theorem lw_p60 : lw_okq (⟨"CoinLandModel", "sumBy", "(I)I"⟩, 34) := ⟨⟨by decide +kernel, by decide +kernel⟩, List.mem_of_getElem? (i := 1036) (by decide +kernel), List.mem_of_getElem? (i := 1307) (by decide +kernel), List.mem_of_getElem? (i := 1308) (by decide +kernel)⟩
theorem lw_p61 : lw_okq (⟨"CoinLandModel", "lowOf", "(I)I"⟩, 34) := ⟨⟨by decide +kernel, by decide +kernel⟩, List.mem_of_getElem? (i := 1036) (by decide +kernel), List.mem_of_getElem? (i := 1315) (by decide +kernel), List.mem_of_getElem? (i := 1316) (by decide +kernel)⟩
theorem lw_p62 : lw_okq (⟨"CoinLandModel", "highOf", "(I)I"⟩, 34) := ⟨⟨by decide +kernel, by decide +kernel⟩, List.mem_of_getElem? (i := 1036) (by decide +kernel), List.mem_of_getElem? (i := 1319) (by decide +kernel), List.mem_of_getElem? (i := 1320) (by decide +kernel)⟩
theorem lw_p63 : lw_okq (⟨"CoinLandModel", "weighs", "(II)V"⟩, 34) := ⟨⟨by decide +kernel, by decide +kernel⟩, List.mem_of_getElem? (i := 1036) (by decide +kernel), List.mem_of_getElem? (i := 1339) (by decide +kernel), List.mem_of_getElem? (i := 1340) (by decide +kernel)⟩
def lw_privs_4 : List (MethodName × Nat) := [(⟨"CoinLandModel", "looks", "(II)I"⟩, 34), (⟨"CoinLandModel", "tellsOf", "(II)I"⟩, 34), (⟨"CoinLandModel", "topNow", "()I"⟩, 34), (⟨"CoinLandModel", "cheatNow", "()I"⟩, 34), (⟨"CoinLandModel", "rich", "()I"⟩, 34), (⟨"CoinLandModel", "looksForWorths", "()V"⟩, 34), (⟨"CoinLandModel", "looksForLeftNow", "()V"⟩, 34), (⟨"CoinLandModel", "looksForLeft", "(I)V"⟩, 34), (⟨"CoinLandModel", "looksForAll", "()V"⟩, 34), (⟨"CoinLandModel", "guesses", "()I"⟩, 34), (⟨"CoinLandModel", "tellsGuess", "(I)V"⟩, 34), (⟨"CoinLandModel", "cheatBy", "(I)I"⟩, 34), (⟨"CoinLandModel", "sumBy", "(I)I"⟩, 34), (⟨"CoinLandModel", "lowOf", "(I)I"⟩, 34), (⟨"CoinLandModel", "highOf", "(I)I"⟩, 34), (⟨"CoinLandModel", "weighs", "(II)V"⟩, 34)]
theorem lw_r4 : ∀ q ∈ lw_privs_4, lw_okq q := List.forall_mem_cons.mpr ⟨lw_p48, List.forall_mem_cons.mpr ⟨lw_p49, List.forall_mem_cons.mpr ⟨lw_p50, List.forall_mem_cons.mpr ⟨lw_p51, List.forall_mem_cons.mpr ⟨lw_p52, List.forall_mem_cons.mpr ⟨lw_p53, List.forall_mem_cons.mpr ⟨lw_p54, List.forall_mem_cons.mpr ⟨lw_p55, List.forall_mem_cons.mpr ⟨lw_p56, List.forall_mem_cons.mpr ⟨lw_p57, List.forall_mem_cons.mpr ⟨lw_p58, List.forall_mem_cons.mpr ⟨lw_p59, List.forall_mem_cons.mpr ⟨lw_p60, List.forall_mem_cons.mpr ⟨lw_p61, List.forall_mem_cons.mpr ⟨lw_p62, List.forall_mem_cons.mpr ⟨lw_p63, fun _ h => absurd h List.not_mem_nil⟩⟩⟩⟩⟩⟩⟩⟩⟩⟩⟩⟩⟩⟩⟩⟩
theorem lw_p64 : lw_okq (⟨"CoinLandModel", "worst", "()I"⟩, 34) := ⟨⟨by decide +kernel, by decide +kernel⟩, List.mem_of_getElem? (i := 1036) (by decide +kernel), List.mem_of_getElem? (i := 1355) (by decide +kernel), List.mem_of_getElem? (i := 1356) (by decide +kernel)⟩
theorem lw_p65 : lw_okq (⟨"CoinLandModel", "paysNow", "(II)V"⟩, 34) := ⟨⟨by decide +kernel, by decide +kernel⟩, List.mem_of_getElem? (i := 1036) (by decide +kernel), List.mem_of_getElem? (i := 1363) (by decide +kernel), List.mem_of_getElem? (i := 1364) (by decide +kernel)⟩
theorem lw_p66 : lw_okq (⟨"CoinLandModel", "pursed", "()V"⟩, 34) := ⟨⟨by decide +kernel, by decide +kernel⟩, List.mem_of_getElem? (i := 1036) (by decide +kernel), List.mem_of_getElem? (i := 1367) (by decide +kernel), List.mem_of_getElem? (i := 1368) (by decide +kernel)⟩
theorem lw_p67 : lw_okq (⟨"CoinLandModel", "pays", "(II)V"⟩, 34) := ⟨⟨by decide +kernel, by decide +kernel⟩, List.mem_of_getElem? (i := 1036) (by decide +kernel), List.mem_of_getElem? (i := 1371) (by decide +kernel), List.mem_of_getElem? (i := 1372) (by decide +kernel)⟩
theorem lw_p68 : lw_okq (⟨"CoinLandModel", "paysFrom", "(IIII)V"⟩, 34) := ⟨⟨by decide +kernel, by decide +kernel⟩, List.mem_of_getElem? (i := 1036) (by decide +kernel), List.mem_of_getElem? (i := 1375) (by decide +kernel), List.mem_of_getElem? (i := 1376) (by decide +kernel)⟩
theorem lw_p69 : lw_okq (⟨"CoinLandModel", "looksForSums", "()V"⟩, 34) := ⟨⟨by decide +kernel, by decide +kernel⟩, List.mem_of_getElem? (i := 1036) (by decide +kernel), List.mem_of_getElem? (i := 1391) (by decide +kernel), List.mem_of_getElem? (i := 1392) (by decide +kernel)⟩
theorem lw_p70 : lw_okq (⟨"CoinLandModel", "firstMissing", "()I"⟩, 34) := ⟨⟨by decide +kernel, by decide +kernel⟩, List.mem_of_getElem? (i := 1036) (by decide +kernel), List.mem_of_getElem? (i := 1395) (by decide +kernel), List.mem_of_getElem? (i := 1396) (by decide +kernel)⟩
theorem lw_p71 : lw_okq (⟨"CoinLandModel", "carriesFrom", "(IJIJ)V"⟩, 34) := ⟨⟨by decide +kernel, by decide +kernel⟩, List.mem_of_getElem? (i := 1036) (by decide +kernel), List.mem_of_getElem? (i := 1403) (by decide +kernel), List.mem_of_getElem? (i := 1404) (by decide +kernel)⟩
theorem lw_p72 : lw_okq (⟨"CoinLandModel", "bagsFrom", "(III)V"⟩, 34) := ⟨⟨by decide +kernel, by decide +kernel⟩, List.mem_of_getElem? (i := 1036) (by decide +kernel), List.mem_of_getElem? (i := 1419) (by decide +kernel), List.mem_of_getElem? (i := 1420) (by decide +kernel)⟩
theorem lw_p73 : lw_okq (⟨"CoinLandModel", "areRight", "(I)Z"⟩, 34) := ⟨⟨by decide +kernel, by decide +kernel⟩, List.mem_of_getElem? (i := 1036) (by decide +kernel), List.mem_of_getElem? (i := 1431) (by decide +kernel), List.mem_of_getElem? (i := 1432) (by decide +kernel)⟩
theorem lw_p74 : lw_okq (⟨"CoinLandModel", "purseMany", "()I"⟩, 34) := ⟨⟨by decide +kernel, by decide +kernel⟩, List.mem_of_getElem? (i := 1036) (by decide +kernel), List.mem_of_getElem? (i := 1439) (by decide +kernel), List.mem_of_getElem? (i := 1440) (by decide +kernel)⟩
theorem lw_p75 : lw_okq (⟨"CoinLandModel", "showsActs", "(I)I"⟩, 34) := ⟨⟨by decide +kernel, by decide +kernel⟩, List.mem_of_getElem? (i := 1036) (by decide +kernel), List.mem_of_getElem? (i := 1471) (by decide +kernel), List.mem_of_getElem? (i := 1472) (by decide +kernel)⟩
theorem lw_p76 : lw_okq (⟨"CoinLandModel", "ranBody", "(I)V"⟩, 34) := ⟨⟨by decide +kernel, by decide +kernel⟩, List.mem_of_getElem? (i := 1036) (by decide +kernel), List.mem_of_getElem? (i := 1478) (by decide +kernel), List.mem_of_getElem? (i := 1479) (by decide +kernel)⟩
theorem lw_p77 : lw_okq (⟨"CoinLandModel", "plainShows", "(I)I"⟩, 34) := ⟨⟨by decide +kernel, by decide +kernel⟩, List.mem_of_getElem? (i := 1036) (by decide +kernel), List.mem_of_getElem? (i := 1482) (by decide +kernel), List.mem_of_getElem? (i := 1483) (by decide +kernel)⟩
theorem lw_p78 : lw_okq (⟨"CoinLandModel", "paysActs", "(I)I"⟩, 34) := ⟨⟨by decide +kernel, by decide +kernel⟩, List.mem_of_getElem? (i := 1036) (by decide +kernel), List.mem_of_getElem? (i := 1486) (by decide +kernel), List.mem_of_getElem? (i := 1487) (by decide +kernel)⟩
theorem lw_p79 : lw_okq (⟨"CoinLandModel", "plainPays", "(I)I"⟩, 34) := ⟨⟨by decide +kernel, by decide +kernel⟩, List.mem_of_getElem? (i := 1036) (by decide +kernel), List.mem_of_getElem? (i := 1490) (by decide +kernel), List.mem_of_getElem? (i := 1491) (by decide +kernel)⟩
def lw_privs_5 : List (MethodName × Nat) := [(⟨"CoinLandModel", "worst", "()I"⟩, 34), (⟨"CoinLandModel", "paysNow", "(II)V"⟩, 34), (⟨"CoinLandModel", "pursed", "()V"⟩, 34), (⟨"CoinLandModel", "pays", "(II)V"⟩, 34), (⟨"CoinLandModel", "paysFrom", "(IIII)V"⟩, 34), (⟨"CoinLandModel", "looksForSums", "()V"⟩, 34), (⟨"CoinLandModel", "firstMissing", "()I"⟩, 34), (⟨"CoinLandModel", "carriesFrom", "(IJIJ)V"⟩, 34), (⟨"CoinLandModel", "bagsFrom", "(III)V"⟩, 34), (⟨"CoinLandModel", "areRight", "(I)Z"⟩, 34), (⟨"CoinLandModel", "purseMany", "()I"⟩, 34), (⟨"CoinLandModel", "showsActs", "(I)I"⟩, 34), (⟨"CoinLandModel", "ranBody", "(I)V"⟩, 34), (⟨"CoinLandModel", "plainShows", "(I)I"⟩, 34), (⟨"CoinLandModel", "paysActs", "(I)I"⟩, 34), (⟨"CoinLandModel", "plainPays", "(I)I"⟩, 34)]
theorem lw_r5 : ∀ q ∈ lw_privs_5, lw_okq q := List.forall_mem_cons.mpr ⟨lw_p64, List.forall_mem_cons.mpr ⟨lw_p65, List.forall_mem_cons.mpr ⟨lw_p66, List.forall_mem_cons.mpr ⟨lw_p67, List.forall_mem_cons.mpr ⟨lw_p68, List.forall_mem_cons.mpr ⟨lw_p69, List.forall_mem_cons.mpr ⟨lw_p70, List.forall_mem_cons.mpr ⟨lw_p71, List.forall_mem_cons.mpr ⟨lw_p72, List.forall_mem_cons.mpr ⟨lw_p73, List.forall_mem_cons.mpr ⟨lw_p74, List.forall_mem_cons.mpr ⟨lw_p75, List.forall_mem_cons.mpr ⟨lw_p76, List.forall_mem_cons.mpr ⟨lw_p77, List.forall_mem_cons.mpr ⟨lw_p78, List.forall_mem_cons.mpr ⟨lw_p79, fun _ h => absurd h List.not_mem_nil⟩⟩⟩⟩⟩⟩⟩⟩⟩⟩⟩⟩⟩⟩⟩⟩
theorem lw_p80 : lw_okq (⟨"CoinLandModel", "tellsActs", "(I)I"⟩, 34) := ⟨⟨by decide +kernel, by decide +kernel⟩, List.mem_of_getElem? (i := 1036) (by decide +kernel), List.mem_of_getElem? (i := 1494) (by decide +kernel), List.mem_of_getElem? (i := 1495) (by decide +kernel)⟩
theorem lw_p81 : lw_okq (⟨"CoinLandModel", "plainTells", "(I)I"⟩, 34) := ⟨⟨by decide +kernel, by decide +kernel⟩, List.mem_of_getElem? (i := 1036) (by decide +kernel), List.mem_of_getElem? (i := 1498) (by decide +kernel), List.mem_of_getElem? (i := 1499) (by decide +kernel)⟩
def lw_privs_6 : List (MethodName × Nat) := [(⟨"CoinLandModel", "tellsActs", "(I)I"⟩, 34), (⟨"CoinLandModel", "plainTells", "(I)I"⟩, 34)]
theorem lw_r6 : ∀ q ∈ lw_privs_6, lw_okq q := List.forall_mem_cons.mpr ⟨lw_p80, List.forall_mem_cons.mpr ⟨lw_p81, fun _ h => absurd h List.not_mem_nil⟩⟩
def lw_privs : List (MethodName × Nat) := lw_privs_1 ++ (lw_privs_2 ++ (lw_privs_3 ++ (lw_privs_4 ++ (lw_privs_5 ++ (lw_privs_6)))))
def lw_tbl : List Cond := k2_sels lw_privs ++ tables_1
theorem lw_privs_ok : ∀ q ∈ lw_privs, lw_okq q := by
  show ∀ q ∈ lw_privs_1 ++ (lw_privs_2 ++ (lw_privs_3 ++ (lw_privs_4 ++ (lw_privs_5 ++ (lw_privs_6))))), lw_okq q
  exact List.forall_mem_append.mpr ⟨lw_r1, List.forall_mem_append.mpr ⟨lw_r2, List.forall_mem_append.mpr ⟨lw_r3, List.forall_mem_append.mpr ⟨lw_r4, List.forall_mem_append.mpr ⟨lw_r5, lw_r6⟩⟩⟩⟩⟩

def RX0 : String := "CoinLand$Acts"
def TX0 : u_T := fun k => match k with
  | 0 => ("CoinLand$Acts", "trace", "[I", true)
  | 1 => ("CoinLand$Acts", "ran", "I", false)
  | 2 => ("CoinLand$Acts", "number", "I", false)
  | 3 => ("CoinLand$Acts", "kind", "I", false)
  | _ => ("CoinLand$Acts", "v", "I", false)
def tyX0 : Nat → FieldType := fun k => match k with
  | 0 => .array .int
  | 1 => .int
  | 2 => .int
  | 3 => .int
  | _ => .int
abbrev wsX00 : List Cond := u_ws RX0 TX0 5
theorem nmX0 : ∀ a, a < 5 → ∀ b, b < 5 → a ≠ b → (TX0 a).2.1 ≠ (TX0 b).2.1 := by decide +kernel
theorem tyX0_ok : ∀ k, k < 5 → parseFieldDescriptor (TX0 k).2.2.1 = some (tyX0 k) := by decide +kernel
abbrev cX0_init : ByteArray := prog_2_method_1_code
def yX0_init : MethodName := ⟨RX0, "<init>", "()V"⟩
abbrev cX0_forget : ByteArray := prog_2_method_2_code
def yX0_forget : MethodName := ⟨RX0, "forget", "()V"⟩
abbrev cX0_take : ByteArray := prog_2_method_3_code
def yX0_take : MethodName := ⟨RX0, "take", "(III)V"⟩
abbrev cX0_perform : ByteArray := prog_2_method_4_code
def yX0_perform : MethodName := ⟨RX0, "perform", "(II)I"⟩
abbrev cX0_traced : ByteArray := prog_2_method_5_code
def yX0_traced : MethodName := ⟨RX0, "traced", "(I)I"⟩
abbrev cX0_howManyRan : ByteArray := prog_2_method_6_code
def yX0_howManyRan : MethodName := ⟨RX0, "howManyRan", "()I"⟩
abbrev cX0_run : ByteArray := prog_2_method_7_code
def yX0_run : MethodName := ⟨RX0, "run", "(IIII)I"⟩
abbrev cX0_answer : ByteArray := prog_2_method_8_code
def yX0_answer : MethodName := ⟨RX0, "answer", "(III)I"⟩
abbrev cX0_bodyOf : ByteArray := prog_2_method_9_code
def yX0_bodyOf : MethodName := ⟨RX0, "bodyOf", "(II)I"⟩
def RX1 : String := "CoinLand$Basket"
def TX1 : u_T := fun k => match k with
  | 0 => ("CoinLand$Basket", "wares", "LCoinLand$Table;", true)
  | 1 => ("CoinLand$Basket", "rows", "LCoinLand$Rows;", true)
  | 2 => ("CoinLand$Basket", "prices", "[I", true)
  | _ => ("CoinLand$Basket", "first", "[I", true)
def tyX1 : Nat → FieldType := fun k => match k with
  | 0 => .object "CoinLand$Table"
  | 1 => .object "CoinLand$Rows"
  | 2 => .array .int
  | _ => .array .int
abbrev wsX10 : List Cond := u_ws RX1 TX1 4
theorem nmX1 : ∀ a, a < 4 → ∀ b, b < 4 → a ≠ b → (TX1 a).2.1 ≠ (TX1 b).2.1 := by decide +kernel
theorem tyX1_ok : ∀ k, k < 4 → parseFieldDescriptor (TX1 k).2.2.1 = some (tyX1 k) := by decide +kernel
abbrev cX1_init : ByteArray := prog_3_method_1_code
def yX1_init : MethodName := ⟨RX1, "<init>", "(LCoinLand$Table;)V"⟩
abbrev cX1_findAll : ByteArray := prog_3_method_2_code
def yX1_findAll : MethodName := ⟨RX1, "findAll", "(I)I"⟩
abbrev cX1_ofFirst : ByteArray := prog_3_method_3_code
def yX1_ofFirst : MethodName := ⟨RX1, "ofFirst", "(I)I"⟩
def RX2 : String := "CoinLand$Clause"
def TX2 : u_T := fun k => match k with
  | 0 => ("CoinLand$Clause", "word", "I", true)
  | 1 => ("CoinLand$Clause", "n", "I", true)
  | _ => ("CoinLand$Clause", "code", "[I", true)
def tyX2 : Nat → FieldType := fun k => match k with
  | 0 => .int
  | 1 => .int
  | _ => .array .int
abbrev wsX20 : List Cond := u_ws RX2 TX2 3
theorem nmX2 : ∀ a, a < 3 → ∀ b, b < 3 → a ≠ b → (TX2 a).2.1 ≠ (TX2 b).2.1 := by decide +kernel
theorem tyX2_ok : ∀ k, k < 3 → parseFieldDescriptor (TX2 k).2.2.1 = some (tyX2 k) := by decide +kernel
abbrev cX2_init : ByteArray := prog_4_method_1_code
def yX2_init : MethodName := ⟨RX2, "<init>", "(II[I)V"⟩
abbrev cX2_packed : ByteArray := prog_4_method_2_code
def yX2_packed : MethodName := ⟨RX2, "packed", "(III)I"⟩
abbrev cX2_holds : ByteArray := prog_4_method_3_code
def yX2_holds : MethodName := ⟨RX2, "holds", "([I)Z"⟩
abbrev cX2_isSo : ByteArray := prog_4_method_4_code
def yX2_isSo : MethodName := ⟨RX2, "isSo", "(I[I)Z"⟩
def RX3 : String := "CoinLand$Guesses"
def TX3 : u_T := fun k => match k with
  | 0 => ("CoinLand$Guesses", "world", "LCoinLand$World;", true)
  | 1 => ("CoinLand$Guesses", "bases", "LCoinLand$Rows;", true)
  | 2 => ("CoinLand$Guesses", "worthBy", "[I", true)
  | 3 => ("CoinLand$Guesses", "worths", "[I", true)
  | 4 => ("CoinLand$Guesses", "left", "I", false)
  | 5 => ("CoinLand$Guesses", "haveBase", "[I", true)
  | _ => ("CoinLand$Guesses", "compared", "[I", true)
def tyX3 : Nat → FieldType := fun k => match k with
  | 0 => .object "CoinLand$World"
  | 1 => .object "CoinLand$Rows"
  | 2 => .array .int
  | 3 => .array .int
  | 4 => .int
  | 5 => .array .int
  | _ => .array .int
abbrev wsX30 : List Cond := u_ws RX3 TX3 7
theorem nmX3 : ∀ a, a < 7 → ∀ b, b < 7 → a ≠ b → (TX3 a).2.1 ≠ (TX3 b).2.1 := by decide +kernel
theorem tyX3_ok : ∀ k, k < 7 → parseFieldDescriptor (TX3 k).2.2.1 = some (tyX3 k) := by decide +kernel
abbrev cX3_init : ByteArray := prog_5_method_1_code
def yX3_init : MethodName := ⟨RX3, "<init>", "(LCoinLand$World;)V"⟩
abbrev cX3_start : ByteArray := prog_5_method_2_code
def yX3_start : MethodName := ⟨RX3, "start", "()I"⟩
abbrev cX3_weigh : ByteArray := prog_5_method_3_code
def yX3_weigh : MethodName := ⟨RX3, "weigh", "()V"⟩
abbrev cX3_surplus : ByteArray := prog_5_method_4_code
def yX3_surplus : MethodName := ⟨RX3, "surplus", "(I)I"⟩
abbrev cX3_soFar : ByteArray := prog_5_method_5_code
def yX3_soFar : MethodName := ⟨RX3, "soFar", "(I)I"⟩
abbrev cX3_survey : ByteArray := prog_5_method_6_code
def yX3_survey : MethodName := ⟨RX3, "survey", "()V"⟩
abbrev cX3_noteOne : ByteArray := prog_5_method_7_code
def yX3_noteOne : MethodName := ⟨RX3, "noteOne", "()V"⟩
abbrev cX3_outcome : ByteArray := prog_5_method_8_code
def yX3_outcome : MethodName := ⟨RX3, "outcome", "(III)I"⟩
abbrev cX3_outcomes : ByteArray := prog_5_method_9_code
def yX3_outcomes : MethodName := ⟨RX3, "outcomes", "(III)I"⟩
abbrev cX3_remaining : ByteArray := prog_5_method_10_code
def yX3_remaining : MethodName := ⟨RX3, "remaining", "()I"⟩
abbrev cX3_having : ByteArray := prog_5_method_11_code
def yX3_having : MethodName := ⟨RX3, "having", "(II)I"⟩
abbrev cX3_lowest : ByteArray := prog_5_method_12_code
def yX3_lowest : MethodName := ⟨RX3, "lowest", "(I)I"⟩
abbrev cX3_highest : ByteArray := prog_5_method_13_code
def yX3_highest : MethodName := ⟨RX3, "highest", "(I)I"⟩
abbrev cX3_areAlike : ByteArray := prog_5_method_14_code
def yX3_areAlike : MethodName := ⟨RX3, "areAlike", "(II)Z"⟩
abbrev cX3_pairToHold : ByteArray := prog_5_method_15_code
def yX3_pairToHold : MethodName := ⟨RX3, "pairToHold", "()I"⟩
abbrev cX3_worstOf : ByteArray := prog_5_method_16_code
def yX3_worstOf : MethodName := ⟨RX3, "worstOf", "(II)I"⟩
abbrev cX3_firstWrong : ByteArray := prog_5_method_17_code
def yX3_firstWrong : MethodName := ⟨RX3, "firstWrong", "()I"⟩
abbrev cX3_leastCheat : ByteArray := prog_5_method_18_code
def yX3_leastCheat : MethodName := ⟨RX3, "leastCheat", "()I"⟩
abbrev cX3_cheatNeeded : ByteArray := prog_5_method_19_code
def yX3_cheatNeeded : MethodName := ⟨RX3, "cheatNeeded", "()I"⟩
def RX4 : String := "CoinLand$Land"
def TX4 : u_T := fun k => match k with
  | 0 => ("CoinLand$Land", "clauses", "[LCoinLand$Clause;", true)
  | _ => ("CoinLand$Land", "size", "I", false)
def tyX4 : Nat → FieldType := fun k => match k with
  | 0 => .array (.object "CoinLand$Clause")
  | _ => .int
abbrev wsX40 : List Cond := u_ws RX4 TX4 2
theorem nmX4 : ∀ a, a < 2 → ∀ b, b < 2 → a ≠ b → (TX4 a).2.1 ≠ (TX4 b).2.1 := by decide +kernel
theorem tyX4_ok : ∀ k, k < 2 → parseFieldDescriptor (TX4 k).2.2.1 = some (tyX4 k) := by decide +kernel
abbrev cX4_init : ByteArray := prog_6_method_1_code
def yX4_init : MethodName := ⟨RX4, "<init>", "()V"⟩
abbrev cX4_add : ByteArray := prog_6_method_2_code
def yX4_add : MethodName := ⟨RX4, "add", "(LCoinLand$Clause;)V"⟩
abbrev cX4_last : ByteArray := prog_6_method_3_code
def yX4_last : MethodName := ⟨RX4, "last", "(I)I"⟩
abbrev cX4_dearer : ByteArray := prog_6_method_4_code
def yX4_dearer : MethodName := ⟨RX4, "dearer", "([I)I"⟩
def RX5 : String := "CoinLand$Payer"
def TX5 : u_T := fun k => match k with
  | 0 => ("CoinLand$Payer", "world", "LCoinLand$World;", true)
  | 1 => ("CoinLand$Payer", "purse", "[I", true)
  | 2 => ("CoinLand$Payer", "worths", "[I", true)
  | 3 => ("CoinLand$Payer", "rows", "LCoinLand$Rows;", true)
  | 4 => ("CoinLand$Payer", "best", "[I", true)
  | _ => ("CoinLand$Payer", "isPayable", "[Z", true)
def tyX5 : Nat → FieldType := fun k => match k with
  | 0 => .object "CoinLand$World"
  | 1 => .array .int
  | 2 => .array .int
  | 3 => .object "CoinLand$Rows"
  | 4 => .array .int
  | _ => .array .boolean
abbrev wsX50 : List Cond := u_ws RX5 TX5 6
theorem nmX5 : ∀ a, a < 6 → ∀ b, b < 6 → a ≠ b → (TX5 a).2.1 ≠ (TX5 b).2.1 := by decide +kernel
theorem tyX5_ok : ∀ k, k < 6 → parseFieldDescriptor (TX5 k).2.2.1 = some (tyX5 k) := by decide +kernel
abbrev cX5_init : ByteArray := prog_7_method_1_code
def yX5_init : MethodName := ⟨RX5, "<init>", "(LCoinLand$World;)V"⟩
abbrev cX5_openPurse : ByteArray := prog_7_method_2_code
def yX5_openPurse : MethodName := ⟨RX5, "openPurse", "()V"⟩
abbrev cX5_weigh : ByteArray := prog_7_method_3_code
def yX5_weigh : MethodName := ⟨RX5, "weigh", "()V"⟩
abbrev cX5_start : ByteArray := prog_7_method_4_code
def yX5_start : MethodName := ⟨RX5, "start", "(I)I"⟩
abbrev cX5_fewest : ByteArray := prog_7_method_5_code
def yX5_fewest : MethodName := ⟨RX5, "fewest", "(II)I"⟩
abbrev cX5_ofBest : ByteArray := prog_7_method_6_code
def yX5_ofBest : MethodName := ⟨RX5, "ofBest", "(I)I"⟩
abbrev cX5_howManyWays : ByteArray := prog_7_method_7_code
def yX5_howManyWays : MethodName := ⟨RX5, "howManyWays", "(I)I"⟩
abbrev cX5_leastUnpayable : ByteArray := prog_7_method_8_code
def yX5_leastUnpayable : MethodName := ⟨RX5, "leastUnpayable", "()I"⟩
abbrev cX5_fewestForUpTo : ByteArray := prog_7_method_9_code
def yX5_fewestForUpTo : MethodName := ⟨RX5, "fewestForUpTo", "(I)I"⟩
abbrev cX5_paysUpTo : ByteArray := prog_7_method_10_code
def yX5_paysUpTo : MethodName := ⟨RX5, "paysUpTo", "(I)Z"⟩
abbrev cX5_riches : ByteArray := prog_7_method_11_code
def yX5_riches : MethodName := ⟨RX5, "riches", "()I"⟩
abbrev cX5_payPlanned : ByteArray := prog_7_method_12_code
def yX5_payPlanned : MethodName := ⟨RX5, "payPlanned", "()I"⟩
def RX6 : String := "CoinLand$Reader"
def TX6 : u_T := fun k => match k with
  | 0 => ("CoinLand$Reader", "tape", "LCoinLand$Table;", true)
  | 1 => ("CoinLand$Reader", "signs", "[I", true)
  | 2 => ("CoinLand$Reader", "size", "I", false)
  | 3 => ("CoinLand$Reader", "at", "I", false)
  | 4 => ("CoinLand$Reader", "code", "[I", true)
  | 5 => ("CoinLand$Reader", "coded", "I", false)
  | 6 => ("CoinLand$Reader", "open", "I", false)
  | _ => ("CoinLand$Reader", "turns", "I", false)
def tyX6 : Nat → FieldType := fun k => match k with
  | 0 => .object "CoinLand$Table"
  | 1 => .array .int
  | 2 => .int
  | 3 => .int
  | 4 => .array .int
  | 5 => .int
  | 6 => .int
  | _ => .int
abbrev wsX60 : List Cond := u_ws RX6 TX6 8
theorem nmX6 : ∀ a, a < 8 → ∀ b, b < 8 → a ≠ b → (TX6 a).2.1 ≠ (TX6 b).2.1 := by decide +kernel
theorem tyX6_ok : ∀ k, k < 8 → parseFieldDescriptor (TX6 k).2.2.1 = some (tyX6 k) := by decide +kernel
abbrev cX6_init : ByteArray := prog_8_method_1_code
def yX6_init : MethodName := ⟨RX6, "<init>", "(LCoinLand$Table;)V"⟩
abbrev cX6_place : ByteArray := prog_8_method_2_code
def yX6_place : MethodName := ⟨RX6, "place", "()I"⟩
abbrev cX6_read : ByteArray := prog_8_method_3_code
def yX6_read : MethodName := ⟨RX6, "read", "()LCoinLand$Land;"⟩
abbrev cX6_unroll : ByteArray := prog_8_method_4_code
def yX6_unroll : MethodName := ⟨RX6, "unroll", "()V"⟩
abbrev cX6_readClause : ByteArray := prog_8_method_5_code
def yX6_readClause : MethodName := ⟨RX6, "readClause", "()LCoinLand$Clause;"⟩
abbrev cX6_readWord : ByteArray := prog_8_method_6_code
def yX6_readWord : MethodName := ⟨RX6, "readWord", "()I"⟩
abbrev cX6_readNumber : ByteArray := prog_8_method_7_code
def yX6_readNumber : MethodName := ⟨RX6, "readNumber", "()I"⟩
abbrev cX6_takeDigit : ByteArray := prog_8_method_8_code
def yX6_takeDigit : MethodName := ⟨RX6, "takeDigit", "()I"⟩
abbrev cX6_readCondition : ByteArray := prog_8_method_9_code
def yX6_readCondition : MethodName := ⟨RX6, "readCondition", "()Z"⟩
abbrev cX6_takeOpening : ByteArray := prog_8_method_10_code
def yX6_takeOpening : MethodName := ⟨RX6, "takeOpening", "()Z"⟩
abbrev cX6_takeClosing : ByteArray := prog_8_method_11_code
def yX6_takeClosing : MethodName := ⟨RX6, "takeClosing", "()V"⟩
abbrev cX6_closeTurns : ByteArray := prog_8_method_12_code
def yX6_closeTurns : MethodName := ⟨RX6, "closeTurns", "()V"⟩
abbrev cX6_close : ByteArray := prog_8_method_13_code
def yX6_close : MethodName := ⟨RX6, "close", "()V"⟩
abbrev cX6_readTest : ByteArray := prog_8_method_14_code
def yX6_readTest : MethodName := ⟨RX6, "readTest", "()Z"⟩
abbrev cX6_emit : ByteArray := prog_8_method_15_code
def yX6_emit : MethodName := ⟨RX6, "emit", "(I)V"⟩
abbrev cX6_next : ByteArray := prog_8_method_16_code
def yX6_next : MethodName := ⟨RX6, "next", "()I"⟩
abbrev cX6_take : ByteArray := prog_8_method_17_code
def yX6_take : MethodName := ⟨RX6, "take", "(I)Z"⟩
abbrev cX6_takeAll : ByteArray := prog_8_method_18_code
def yX6_takeAll : MethodName := ⟨RX6, "takeAll", "(Ljava/lang/String;)Z"⟩
abbrev cX6_takeOneOf : ByteArray := prog_8_method_19_code
def yX6_takeOneOf : MethodName := ⟨RX6, "takeOneOf", "(Ljava/lang/String;)I"⟩
def RX7 : String := "CoinLand$Rows"
def TX7 : u_T := fun k => match k with
  | 0 => ("CoinLand$Rows", "low", "[I", true)
  | 1 => ("CoinLand$Rows", "high", "[I", true)
  | _ => ("CoinLand$Rows", "at", "[I", true)
def tyX7 : Nat → FieldType := fun k => match k with
  | 0 => .array .int
  | 1 => .array .int
  | _ => .array .int
abbrev wsX70 : List Cond := u_ws RX7 TX7 3
theorem nmX7 : ∀ a, a < 3 → ∀ b, b < 3 → a ≠ b → (TX7 a).2.1 ≠ (TX7 b).2.1 := by decide +kernel
theorem tyX7_ok : ∀ k, k < 3 → parseFieldDescriptor (TX7 k).2.2.1 = some (tyX7 k) := by decide +kernel
abbrev cX7_init : ByteArray := prog_9_method_1_code
def yX7_init : MethodName := ⟨RX7, "<init>", "(I)V"⟩
abbrev cX7_bound : ByteArray := prog_9_method_2_code
def yX7_bound : MethodName := ⟨RX7, "bound", "(III)V"⟩
abbrev cX7_start : ByteArray := prog_9_method_3_code
def yX7_start : MethodName := ⟨RX7, "start", "()I"⟩
abbrev cX7_step : ByteArray := prog_9_method_4_code
def yX7_step : MethodName := ⟨RX7, "step", "()V"⟩
abbrev cX7_get : ByteArray := prog_9_method_5_code
def yX7_get : MethodName := ⟨RX7, "get", "(I)I"⟩
abbrev cX7_size : ByteArray := prog_9_method_6_code
def yX7_size : MethodName := ⟨RX7, "size", "()I"⟩
abbrev cX7_sum : ByteArray := prog_9_method_7_code
def yX7_sum : MethodName := ⟨RX7, "sum", "([I)I"⟩
abbrev cX7_copyInto : ByteArray := prog_9_method_8_code
def yX7_copyInto : MethodName := ⟨RX7, "copyInto", "([I)V"⟩
def RX8 : String := "CoinLand$Table"
def TX8 : u_T := fun k => match k with
  | 0 => ("CoinLand$Table", "width", "I", true)
  | 1 => ("CoinLand$Table", "limit", "I", true)
  | 2 => ("CoinLand$Table", "cells", "[I", true)
  | _ => ("CoinLand$Table", "rows", "I", false)
def tyX8 : Nat → FieldType := fun k => match k with
  | 0 => .int
  | 1 => .int
  | 2 => .array .int
  | _ => .int
abbrev wsX80 : List Cond := u_ws RX8 TX8 4
theorem nmX8 : ∀ a, a < 4 → ∀ b, b < 4 → a ≠ b → (TX8 a).2.1 ≠ (TX8 b).2.1 := by decide +kernel
theorem tyX8_ok : ∀ k, k < 4 → parseFieldDescriptor (TX8 k).2.2.1 = some (tyX8 k) := by decide +kernel
abbrev cX8_init : ByteArray := prog_10_method_1_code
def yX8_init : MethodName := ⟨RX8, "<init>", "(II)V"⟩
abbrev cX8_rows : ByteArray := prog_10_method_2_code
def yX8_rows : MethodName := ⟨RX8, "rows", "()I"⟩
abbrev cX8_has : ByteArray := prog_10_method_3_code
def yX8_has : MethodName := ⟨RX8, "has", "(I)Z"⟩
abbrev cX8_isFull : ByteArray := prog_10_method_4_code
def yX8_isFull : MethodName := ⟨RX8, "isFull", "()Z"⟩
abbrev cX8_add : ByteArray := prog_10_method_5_code
def yX8_add : MethodName := ⟨RX8, "add", "()I"⟩
abbrev cX8_clear : ByteArray := prog_10_method_6_code
def yX8_clear : MethodName := ⟨RX8, "clear", "()V"⟩
abbrev cX8_get : ByteArray := prog_10_method_7_code
def yX8_get : MethodName := ⟨RX8, "get", "(II)I"⟩
abbrev cX8_put : ByteArray := prog_10_method_8_code
def yX8_put : MethodName := ⟨RX8, "put", "(III)I"⟩
abbrev cX8_sum : ByteArray := prog_10_method_9_code
def yX8_sum : MethodName := ⟨RX8, "sum", "(II[I)I"⟩
abbrev cX8_isInside : ByteArray := prog_10_method_10_code
def yX8_isInside : MethodName := ⟨RX8, "isInside", "(II)Z"⟩
abbrev cX8_takeOver : ByteArray := prog_10_method_11_code
def yX8_takeOver : MethodName := ⟨RX8, "takeOver", "(LCoinLand$Table;)V"⟩
def RX9 : String := "CoinLand$World"
def TX9 : u_T := fun k => match k with
  | 0 => ("CoinLand$World", "tape", "LCoinLand$Table;", true)
  | 1 => ("CoinLand$World", "coins", "LCoinLand$Table;", true)
  | 2 => ("CoinLand$World", "wares", "LCoinLand$Table;", true)
  | 3 => ("CoinLand$World", "buys", "LCoinLand$Table;", true)
  | 4 => ("CoinLand$World", "slates", "LCoinLand$Table;", true)
  | 5 => ("CoinLand$World", "plans", "LCoinLand$Table;", true)
  | 6 => ("CoinLand$World", "booked", "LCoinLand$Table;", true)
  | 7 => ("CoinLand$World", "lands", "I", false)
  | 8 => ("CoinLand$World", "land", "LCoinLand$Land;", false)
  | 9 => ("CoinLand$World", "day", "I", false)
  | _ => ("CoinLand$World", "facts", "[I", true)
def tyX9 : Nat → FieldType := fun k => match k with
  | 0 => .object "CoinLand$Table"
  | 1 => .object "CoinLand$Table"
  | 2 => .object "CoinLand$Table"
  | 3 => .object "CoinLand$Table"
  | 4 => .object "CoinLand$Table"
  | 5 => .object "CoinLand$Table"
  | 6 => .object "CoinLand$Table"
  | 7 => .int
  | 8 => .object "CoinLand$Land"
  | 9 => .int
  | _ => .array .int
abbrev wsX90 : List Cond := u_ws RX9 TX9 11
theorem nmX9 : ∀ a, a < 11 → ∀ b, b < 11 → a ≠ b → (TX9 a).2.1 ≠ (TX9 b).2.1 := by decide +kernel
theorem tyX9_ok : ∀ k, k < 11 → parseFieldDescriptor (TX9 k).2.2.1 = some (tyX9 k) := by decide +kernel
abbrev cX9_init : ByteArray := prog_11_method_1_code
def yX9_init : MethodName := ⟨RX9, "<init>", "()V"⟩
abbrev cX9_takeOver : ByteArray := prog_11_method_2_code
def yX9_takeOver : MethodName := ⟨RX9, "takeOver", "(LCoinLand$World;)V"⟩
abbrev cX9_top : ByteArray := prog_11_method_3_code
def yX9_top : MethodName := ⟨RX9, "top", "()I"⟩
abbrev cX9_cheating : ByteArray := prog_11_method_4_code
def yX9_cheating : MethodName := ⟨RX9, "cheating", "()I"⟩
abbrev cX9_worth : ByteArray := prog_11_method_5_code
def yX9_worth : MethodName := ⟨RX9, "worth", "(I)I"⟩
abbrev cX9_worthWith : ByteArray := prog_11_method_6_code
def yX9_worthWith : MethodName := ⟨RX9, "worthWith", "(II)I"⟩
abbrev cX9_worthAs : ByteArray := prog_11_method_7_code
def yX9_worthAs : MethodName := ⟨RX9, "worthAs", "(IIII)I"⟩
abbrev cX9_lookAt : ByteArray := prog_11_method_8_code
def yX9_lookAt : MethodName := ⟨RX9, "lookAt", "(IIII)V"⟩
abbrev cX9_less : ByteArray := prog_11_method_9_code
def yX9_less : MethodName := ⟨RX9, "less", "(II)I"⟩
def RX10 : String := "CoinLand"
def TX10 : u_T := fun k => match k with
  | 0 => ("CoinLand", "now", "LCoinLand$World;", true)
  | 1 => ("CoinLand", "kept", "LCoinLand$World;", true)
  | 2 => ("CoinLand", "isKept", "Z", false)
  | 3 => ("CoinLand", "reader", "LCoinLand$Reader;", true)
  | 4 => ("CoinLand", "guesses", "LCoinLand$Guesses;", true)
  | 5 => ("CoinLand", "payer", "LCoinLand$Payer;", true)
  | 6 => ("CoinLand", "basket", "LCoinLand$Basket;", true)
  | _ => ("CoinLand", "acts", "LCoinLand$Acts;", true)
def tyX10 : Nat → FieldType := fun k => match k with
  | 0 => .object "CoinLand$World"
  | 1 => .object "CoinLand$World"
  | 2 => .boolean
  | 3 => .object "CoinLand$Reader"
  | 4 => .object "CoinLand$Guesses"
  | 5 => .object "CoinLand$Payer"
  | 6 => .object "CoinLand$Basket"
  | _ => .object "CoinLand$Acts"
abbrev wsX100 : List Cond := u_ws RX10 TX10 8
theorem nmX10 : ∀ a, a < 8 → ∀ b, b < 8 → a ≠ b → (TX10 a).2.1 ≠ (TX10 b).2.1 := by decide +kernel
theorem tyX10_ok : ∀ k, k < 8 → parseFieldDescriptor (TX10 k).2.2.1 = some (tyX10 k) := by decide +kernel
abbrev cX10_init : ByteArray := prog_1_method_1_code
def yX10_init : MethodName := ⟨RX10, "<init>", "()V"⟩
abbrev cX10_feed : ByteArray := prog_1_method_2_code
def yX10_feed : MethodName := ⟨RX10, "feed", "(I)I"⟩
abbrev cX10_land : ByteArray := prog_1_method_3_code
def yX10_land : MethodName := ⟨RX10, "land", "()I"⟩
abbrev cX10_coin : ByteArray := prog_1_method_4_code
def yX10_coin : MethodName := ⟨RX10, "coin", "(IIII)I"⟩
abbrev cX10_of : ByteArray := prog_1_method_5_code
def yX10_of : MethodName := ⟨RX10, "of", "(II)I"⟩
abbrev cX10_row : ByteArray := prog_1_method_6_code
def yX10_row : MethodName := ⟨RX10, "row", "(III)I"⟩
abbrev cX10_set : ByteArray := prog_1_method_7_code
def yX10_set : MethodName := ⟨RX10, "set", "(III)I"⟩
abbrev cX10_ware : ByteArray := prog_1_method_8_code
def yX10_ware : MethodName := ⟨RX10, "ware", "(I)I"⟩
abbrev cX10_pass : ByteArray := prog_1_method_9_code
def yX10_pass : MethodName := ⟨RX10, "pass", "(I)I"⟩
abbrev cX10_told : ByteArray := prog_1_method_10_code
def yX10_told : MethodName := ⟨RX10, "told", "(I)I"⟩
abbrev cX10_buy : ByteArray := prog_1_method_11_code
def yX10_buy : MethodName := ⟨RX10, "buy", "(IIIII)I"⟩
abbrev cX10_isTaken : ByteArray := prog_1_method_12_code
def yX10_isTaken : MethodName := ⟨RX10, "isTaken", "(II)Z"⟩
abbrev cX10_left : ByteArray := prog_1_method_13_code
def yX10_left : MethodName := ⟨RX10, "left", "()I"⟩
abbrev cX10_range : ByteArray := prog_1_method_14_code
def yX10_range : MethodName := ⟨RX10, "range", "(II)I"⟩
abbrev cX10_known : ByteArray := prog_1_method_15_code
def yX10_known : MethodName := ⟨RX10, "known", "()I"⟩
abbrev cX10_likely : ByteArray := prog_1_method_16_code
def yX10_likely : MethodName := ⟨RX10, "likely", "(III)J"⟩
abbrev cX10_alike : ByteArray := prog_1_method_17_code
def yX10_alike : MethodName := ⟨RX10, "alike", "(II)I"⟩
abbrev cX10_wrong : ByteArray := prog_1_method_18_code
def yX10_wrong : MethodName := ⟨RX10, "wrong", "()I"⟩
abbrev cX10_cheated : ByteArray := prog_1_method_19_code
def yX10_cheated : MethodName := ⟨RX10, "cheated", "()I"⟩
abbrev cX10_hold : ByteArray := prog_1_method_20_code
def yX10_hold : MethodName := ⟨RX10, "hold", "(I)I"⟩
abbrev cX10_pay : ByteArray := prog_1_method_21_code
def yX10_pay : MethodName := ⟨RX10, "pay", "(II)I"⟩
abbrev cX10_ofBest : ByteArray := prog_1_method_22_code
def yX10_ofBest : MethodName := ⟨RX10, "ofBest", "(II)I"⟩
abbrev cX10_ways : ByteArray := prog_1_method_23_code
def yX10_ways : MethodName := ⟨RX10, "ways", "(I)I"⟩
abbrev cX10_change : ByteArray := prog_1_method_24_code
def yX10_change : MethodName := ⟨RX10, "change", "(I)I"⟩
abbrev cX10_never : ByteArray := prog_1_method_25_code
def yX10_never : MethodName := ⟨RX10, "never", "()I"⟩
abbrev cX10_carry : ByteArray := prog_1_method_26_code
def yX10_carry : MethodName := ⟨RX10, "carry", "(II)I"⟩
abbrev cX10_rate : ByteArray := prog_1_method_27_code
def yX10_rate : MethodName := ⟨RX10, "rate", "(III)J"⟩
abbrev cX10_bought : ByteArray := prog_1_method_28_code
def yX10_bought : MethodName := ⟨RX10, "bought", "(II)I"⟩
abbrev cX10_slate : ByteArray := prog_1_method_29_code
def yX10_slate : MethodName := ⟨RX10, "slate", "(III)I"⟩
abbrev cX10_counts : ByteArray := prog_1_method_30_code
def yX10_counts : MethodName := ⟨RX10, "counts", "(I)I"⟩
abbrev cX10_areSlatesBy : ByteArray := prog_1_method_31_code
def yX10_areSlatesBy : MethodName := ⟨RX10, "areSlatesBy", "(I)Z"⟩
abbrev cX10_odds : ByteArray := prog_1_method_32_code
def yX10_odds : MethodName := ⟨RX10, "odds", "(II)J"⟩
abbrev cX10_mean : ByteArray := prog_1_method_33_code
def yX10_mean : MethodName := ⟨RX10, "mean", "(I)J"⟩
abbrev cX10_coinsInPurse : ByteArray := prog_1_method_34_code
def yX10_coinsInPurse : MethodName := ⟨RX10, "coinsInPurse", "()I"⟩
abbrev cX10_lasting : ByteArray := prog_1_method_35_code
def yX10_lasting : MethodName := ⟨RX10, "lasting", "(I)I"⟩
abbrev cX10_plan : ByteArray := prog_1_method_36_code
def yX10_plan : MethodName := ⟨RX10, "plan", "(I)I"⟩
abbrev cX10_made : ByteArray := prog_1_method_37_code
def yX10_made : MethodName := ⟨RX10, "made", "(I)I"⟩
abbrev cX10_book : ByteArray := prog_1_method_38_code
def yX10_book : MethodName := ⟨RX10, "book", "(II)I"⟩
abbrev cX10_looked : ByteArray := prog_1_method_39_code
def yX10_looked : MethodName := ⟨RX10, "looked", "()I"⟩
abbrev cX10_act : ByteArray := prog_1_method_40_code
def yX10_act : MethodName := ⟨RX10, "act", "(III)I"⟩
abbrev cX10_trace : ByteArray := prog_1_method_41_code
def yX10_trace : MethodName := ⟨RX10, "trace", "(I)I"⟩
abbrev cX10_as : ByteArray := prog_1_method_42_code
def yX10_as : MethodName := ⟨RX10, "as", "(II)I"⟩
abbrev cX10_image : ByteArray := prog_1_method_43_code
def yX10_image : MethodName := ⟨RX10, "image", "()I"⟩
abbrev cX10_undo : ByteArray := prog_1_method_44_code
def yX10_undo : MethodName := ⟨RX10, "undo", "()I"⟩
abbrev cX10_count : ByteArray := prog_1_method_45_code
def yX10_count : MethodName := ⟨RX10, "count", "(I)I"⟩
abbrev cX10_isOutside : ByteArray := prog_1_method_46_code
def yX10_isOutside : MethodName := ⟨RX10, "isOutside", "(III)Z"⟩
abbrev cX10_kindAbove : ByteArray := prog_1_method_47_code
def yX10_kindAbove : MethodName := ⟨RX10, "kindAbove", "(I)I"⟩
abbrev cX10_fraction : ByteArray := prog_1_method_48_code
def yX10_fraction : MethodName := ⟨RX10, "fraction", "(III)J"⟩
abbrev cX10_commonDivisor : ByteArray := prog_1_method_49_code
def yX10_commonDivisor : MethodName := ⟨RX10, "commonDivisor", "(II)I"⟩
def RX11 : String := "CoinLandModel"
def TX11 : u_T := fun k => match k with
  | 0 => ("CoinLandModel", "thrown", "I", false)
  | 1 => ("CoinLandModel", "s", "[I", true)
  | 2 => ("CoinLandModel", "image", "[I", true)
  | 3 => ("CoinLandModel", "hasImage", "Z", false)
  | 4 => ("CoinLandModel", "act", "I", false)
  | 5 => ("CoinLandModel", "spot", "I", false)
  | 6 => ("CoinLandModel", "end", "I", false)
  | 7 => ("CoinLandModel", "isWrong", "Z", false)
  | 8 => ("CoinLandModel", "open", "I", false)
  | 9 => ("CoinLandModel", "by", "[I", true)
  | 10 => ("CoinLandModel", "truths", "[Z", true)
  | 11 => ("CoinLandModel", "worths", "[I", true)
  | 12 => ("CoinLandModel", "byBase", "[I", true)
  | 13 => ("CoinLandModel", "guess", "[I", true)
  | 14 => ("CoinLandModel", "leftMany", "I", false)
  | 15 => ("CoinLandModel", "times", "[I", true)
  | 16 => ("CoinLandModel", "leastCheat", "I", false)
  | 17 => ("CoinLandModel", "mores", "I", false)
  | 18 => ("CoinLandModel", "lesses", "I", false)
  | 19 => ("CoinLandModel", "alikes", "I", false)
  | 20 => ("CoinLandModel", "purse", "[I", true)
  | 21 => ("CoinLandModel", "rows", "[I", true)
  | 22 => ("CoinLandModel", "bestRows", "[I", true)
  | 23 => ("CoinLandModel", "kept", "[I", true)
  | 24 => ("CoinLandModel", "fewest", "I", false)
  | 25 => ("CoinLandModel", "waysMany", "I", false)
  | 26 => ("CoinLandModel", "sums", "[Z", true)
  | 27 => ("CoinLandModel", "bags", "[I", true)
  | 28 => ("CoinLandModel", "bestBag", "[I", true)
  | 29 => ("CoinLandModel", "bodies", "[I", true)
  | 30 => ("CoinLandModel", "ran", "I", false)
  | 31 => ("CoinLandModel", "kind", "I", false)
  | 32 => ("CoinLandModel", "number", "I", false)
  | _ => ("CoinLandModel", "tellsV", "I", false)
def tyX11 : Nat → FieldType := fun k => match k with
  | 0 => .int
  | 1 => .array .int
  | 2 => .array .int
  | 3 => .boolean
  | 4 => .int
  | 5 => .int
  | 6 => .int
  | 7 => .boolean
  | 8 => .int
  | 9 => .array .int
  | 10 => .array .boolean
  | 11 => .array .int
  | 12 => .array .int
  | 13 => .array .int
  | 14 => .int
  | 15 => .array .int
  | 16 => .int
  | 17 => .int
  | 18 => .int
  | 19 => .int
  | 20 => .array .int
  | 21 => .array .int
  | 22 => .array .int
  | 23 => .array .int
  | 24 => .int
  | 25 => .int
  | 26 => .array .boolean
  | 27 => .array .int
  | 28 => .array .int
  | 29 => .array .int
  | 30 => .int
  | 31 => .int
  | 32 => .int
  | _ => .int
abbrev wsX110 : List Cond := u_ws RX11 TX11 34
theorem nmX11 : ∀ a, a < 34 → ∀ b, b < 34 → a ≠ b → (TX11 a).2.1 ≠ (TX11 b).2.1 := by decide +kernel
theorem tyX11_ok : ∀ k, k < 34 → parseFieldDescriptor (TX11 k).2.2.1 = some (tyX11 k) := by decide +kernel
abbrev cX11_init : ByteArray := prog_13_method_1_code
def yX11_init : MethodName := ⟨RX11, "<init>", "()V"⟩
abbrev cX11_in : ByteArray := prog_13_method_3_code
def yX11_in : MethodName := ⟨RX11, "in", "(III)Z"⟩
abbrev cX11_one : ByteArray := prog_13_method_4_code
def yX11_one : MethodName := ⟨RX11, "one", "(I)I"⟩
abbrev cX11_isCoin : ByteArray := prog_13_method_5_code
def yX11_isCoin : MethodName := ⟨RX11, "isCoin", "(I)Z"⟩
abbrev cX11_feed : ByteArray := prog_13_method_6_code
def yX11_feed : MethodName := ⟨RX11, "feed", "(I)I"⟩
abbrev cX11_here : ByteArray := prog_13_method_7_code
def yX11_here : MethodName := ⟨RX11, "here", "()I"⟩
abbrev cX11_must : ByteArray := prog_13_method_8_code
def yX11_must : MethodName := ⟨RX11, "must", "(I)V"⟩
abbrev cX11_spells : ByteArray := prog_13_method_9_code
def yX11_spells : MethodName := ⟨RX11, "spells", "(Ljava/lang/String;)V"⟩
abbrev cX11_figures : ByteArray := prog_13_method_10_code
def yX11_figures : MethodName := ⟨RX11, "figures", "()I"⟩
abbrev cX11_among : ByteArray := prog_13_method_11_code
def yX11_among : MethodName := ⟨RX11, "among", "(Ljava/lang/String;)I"⟩
abbrev cX11_emits : ByteArray := prog_13_method_12_code
def yX11_emits : MethodName := ⟨RX11, "emits", "(I)V"⟩
abbrev cX11_factor : ByteArray := prog_13_method_13_code
def yX11_factor : MethodName := ⟨RX11, "factor", "()V"⟩
abbrev cX11_every : ByteArray := prog_13_method_14_code
def yX11_every : MethodName := ⟨RX11, "every", "()V"⟩
abbrev cX11_some : ByteArray := prog_13_method_15_code
def yX11_some : MethodName := ⟨RX11, "some", "()V"⟩
abbrev cX11_much : ByteArray := prog_13_method_16_code
def yX11_much : MethodName := ⟨RX11, "much", "(ILjava/lang/String;)V"⟩
abbrev cX11_tellsHere : ByteArray := prog_13_method_17_code
def yX11_tellsHere : MethodName := ⟨RX11, "tellsHere", "(ILjava/lang/String;)V"⟩
abbrev cX11_clauseHere : ByteArray := prog_13_method_18_code
def yX11_clauseHere : MethodName := ⟨RX11, "clauseHere", "()V"⟩
abbrev cX11_land : ByteArray := prog_13_method_19_code
def yX11_land : MethodName := ⟨RX11, "land", "()I"⟩
abbrev cX11_tellsOf : ByteArray := prog_13_method_20_code
def yX11_tellsOf : MethodName := ⟨RX11, "tellsOf", "(II)I"⟩
abbrev cX11_topNow : ByteArray := prog_13_method_21_code
def yX11_topNow : MethodName := ⟨RX11, "topNow", "()I"⟩
abbrev cX11_cheatNow : ByteArray := prog_13_method_22_code
def yX11_cheatNow : MethodName := ⟨RX11, "cheatNow", "()I"⟩
abbrev cX11_looks : ByteArray := prog_13_method_23_code
def yX11_looks : MethodName := ⟨RX11, "looks", "(II)I"⟩
abbrev cX11_worthOf : ByteArray := prog_13_method_24_code
def yX11_worthOf : MethodName := ⟨RX11, "worthOf", "(II)I"⟩
abbrev cX11_looksForWorths : ByteArray := prog_13_method_25_code
def yX11_looksForWorths : MethodName := ⟨RX11, "looksForWorths", "()V"⟩
abbrev cX11_looksForAll : ByteArray := prog_13_method_26_code
def yX11_looksForAll : MethodName := ⟨RX11, "looksForAll", "()V"⟩
abbrev cX11_coin : ByteArray := prog_13_method_27_code
def yX11_coin : MethodName := ⟨RX11, "coin", "(IIII)I"⟩
abbrev cX11_of : ByteArray := prog_13_method_28_code
def yX11_of : MethodName := ⟨RX11, "of", "(II)I"⟩
abbrev cX11_row : ByteArray := prog_13_method_29_code
def yX11_row : MethodName := ⟨RX11, "row", "(III)I"⟩
abbrev cX11_set : ByteArray := prog_13_method_30_code
def yX11_set : MethodName := ⟨RX11, "set", "(III)I"⟩
abbrev cX11_ware : ByteArray := prog_13_method_31_code
def yX11_ware : MethodName := ⟨RX11, "ware", "(I)I"⟩
abbrev cX11_pass : ByteArray := prog_13_method_32_code
def yX11_pass : MethodName := ⟨RX11, "pass", "(I)I"⟩
abbrev cX11_rich : ByteArray := prog_13_method_33_code
def yX11_rich : MethodName := ⟨RX11, "rich", "()I"⟩
abbrev cX11_told : ByteArray := prog_13_method_34_code
def yX11_told : MethodName := ⟨RX11, "told", "(I)I"⟩
abbrev cX11_buy : ByteArray := prog_13_method_35_code
def yX11_buy : MethodName := ⟨RX11, "buy", "(IIIII)I"⟩
abbrev cX11_sumBy : ByteArray := prog_13_method_36_code
def yX11_sumBy : MethodName := ⟨RX11, "sumBy", "(I)I"⟩
abbrev cX11_cheatBy : ByteArray := prog_13_method_37_code
def yX11_cheatBy : MethodName := ⟨RX11, "cheatBy", "(I)I"⟩
abbrev cX11_guesses : ByteArray := prog_13_method_38_code
def yX11_guesses : MethodName := ⟨RX11, "guesses", "()I"⟩
abbrev cX11_tellsGuess : ByteArray := prog_13_method_39_code
def yX11_tellsGuess : MethodName := ⟨RX11, "tellsGuess", "(I)V"⟩
abbrev cX11_looksForLeft : ByteArray := prog_13_method_40_code
def yX11_looksForLeft : MethodName := ⟨RX11, "looksForLeft", "(I)V"⟩
abbrev cX11_looksForLeftNow : ByteArray := prog_13_method_41_code
def yX11_looksForLeftNow : MethodName := ⟨RX11, "looksForLeftNow", "()V"⟩
abbrev cX11_left : ByteArray := prog_13_method_42_code
def yX11_left : MethodName := ⟨RX11, "left", "()I"⟩
abbrev cX11_lowOf : ByteArray := prog_13_method_43_code
def yX11_lowOf : MethodName := ⟨RX11, "lowOf", "(I)I"⟩
abbrev cX11_highOf : ByteArray := prog_13_method_44_code
def yX11_highOf : MethodName := ⟨RX11, "highOf", "(I)I"⟩
abbrev cX11_range : ByteArray := prog_13_method_45_code
def yX11_range : MethodName := ⟨RX11, "range", "(II)I"⟩
abbrev cX11_known : ByteArray := prog_13_method_46_code
def yX11_known : MethodName := ⟨RX11, "known", "()I"⟩
abbrev cX11_lowest : ByteArray := prog_13_method_47_code
def yX11_lowest : MethodName := ⟨RX11, "lowest", "(JJI)J"⟩
abbrev cX11_likely : ByteArray := prog_13_method_48_code
def yX11_likely : MethodName := ⟨RX11, "likely", "(III)J"⟩
abbrev cX11_weighs : ByteArray := prog_13_method_49_code
def yX11_weighs : MethodName := ⟨RX11, "weighs", "(II)V"⟩
abbrev cX11_alike : ByteArray := prog_13_method_50_code
def yX11_alike : MethodName := ⟨RX11, "alike", "(II)I"⟩
abbrev cX11_wrong : ByteArray := prog_13_method_51_code
def yX11_wrong : MethodName := ⟨RX11, "wrong", "()I"⟩
abbrev cX11_cheated : ByteArray := prog_13_method_52_code
def yX11_cheated : MethodName := ⟨RX11, "cheated", "()I"⟩
abbrev cX11_worst : ByteArray := prog_13_method_53_code
def yX11_worst : MethodName := ⟨RX11, "worst", "()I"⟩
abbrev cX11_hold : ByteArray := prog_13_method_54_code
def yX11_hold : MethodName := ⟨RX11, "hold", "(I)I"⟩
abbrev cX11_pursed : ByteArray := prog_13_method_55_code
def yX11_pursed : MethodName := ⟨RX11, "pursed", "()V"⟩
abbrev cX11_paysFrom : ByteArray := prog_13_method_56_code
def yX11_paysFrom : MethodName := ⟨RX11, "paysFrom", "(IIII)V"⟩
abbrev cX11_pays : ByteArray := prog_13_method_57_code
def yX11_pays : MethodName := ⟨RX11, "pays", "(II)V"⟩
abbrev cX11_paysNow : ByteArray := prog_13_method_58_code
def yX11_paysNow : MethodName := ⟨RX11, "paysNow", "(II)V"⟩
abbrev cX11_pay : ByteArray := prog_13_method_59_code
def yX11_pay : MethodName := ⟨RX11, "pay", "(II)I"⟩
abbrev cX11_ways : ByteArray := prog_13_method_60_code
def yX11_ways : MethodName := ⟨RX11, "ways", "(I)I"⟩
abbrev cX11_change : ByteArray := prog_13_method_61_code
def yX11_change : MethodName := ⟨RX11, "change", "(I)I"⟩
abbrev cX11_looksForSums : ByteArray := prog_13_method_62_code
def yX11_looksForSums : MethodName := ⟨RX11, "looksForSums", "()V"⟩
abbrev cX11_firstMissing : ByteArray := prog_13_method_63_code
def yX11_firstMissing : MethodName := ⟨RX11, "firstMissing", "()I"⟩
abbrev cX11_never : ByteArray := prog_13_method_64_code
def yX11_never : MethodName := ⟨RX11, "never", "()I"⟩
abbrev cX11_spreads : ByteArray := prog_13_method_65_code
def yX11_spreads : MethodName := ⟨RX11, "spreads", "(JII)J"⟩
abbrev cX11_carriesFrom : ByteArray := prog_13_method_66_code
def yX11_carriesFrom : MethodName := ⟨RX11, "carriesFrom", "(IJIJ)V"⟩
abbrev cX11_carry : ByteArray := prog_13_method_67_code
def yX11_carry : MethodName := ⟨RX11, "carry", "(II)I"⟩
abbrev cX11_rate : ByteArray := prog_13_method_68_code
def yX11_rate : MethodName := ⟨RX11, "rate", "(III)J"⟩
abbrev cX11_bagsFrom : ByteArray := prog_13_method_69_code
def yX11_bagsFrom : MethodName := ⟨RX11, "bagsFrom", "(III)V"⟩
abbrev cX11_bought : ByteArray := prog_13_method_70_code
def yX11_bought : MethodName := ⟨RX11, "bought", "(II)I"⟩
abbrev cX11_slate : ByteArray := prog_13_method_71_code
def yX11_slate : MethodName := ⟨RX11, "slate", "(III)I"⟩
abbrev cX11_areRight : ByteArray := prog_13_method_72_code
def yX11_areRight : MethodName := ⟨RX11, "areRight", "(I)Z"⟩
abbrev cX11_counts : ByteArray := prog_13_method_73_code
def yX11_counts : MethodName := ⟨RX11, "counts", "(I)I"⟩
abbrev cX11_purseMany : ByteArray := prog_13_method_74_code
def yX11_purseMany : MethodName := ⟨RX11, "purseMany", "()I"⟩
abbrev cX11_odds : ByteArray := prog_13_method_75_code
def yX11_odds : MethodName := ⟨RX11, "odds", "(II)J"⟩
abbrev cX11_mean : ByteArray := prog_13_method_76_code
def yX11_mean : MethodName := ⟨RX11, "mean", "(I)J"⟩
abbrev cX11_lasting : ByteArray := prog_13_method_77_code
def yX11_lasting : MethodName := ⟨RX11, "lasting", "(I)I"⟩
abbrev cX11_plan : ByteArray := prog_13_method_78_code
def yX11_plan : MethodName := ⟨RX11, "plan", "(I)I"⟩
abbrev cX11_made : ByteArray := prog_13_method_79_code
def yX11_made : MethodName := ⟨RX11, "made", "(I)I"⟩
abbrev cX11_book : ByteArray := prog_13_method_80_code
def yX11_book : MethodName := ⟨RX11, "book", "(II)I"⟩
abbrev cX11_looked : ByteArray := prog_13_method_81_code
def yX11_looked : MethodName := ⟨RX11, "looked", "()I"⟩
abbrev cX11_ranBody : ByteArray := prog_13_method_82_code
def yX11_ranBody : MethodName := ⟨RX11, "ranBody", "(I)V"⟩
abbrev cX11_isUnder : ByteArray := prog_13_method_83_code
def yX11_isUnder : MethodName := ⟨RX11, "isUnder", "(II)Z"⟩
abbrev cX11_plainShows : ByteArray := prog_13_method_84_code
def yX11_plainShows : MethodName := ⟨RX11, "plainShows", "(I)I"⟩
abbrev cX11_showsActs : ByteArray := prog_13_method_85_code
def yX11_showsActs : MethodName := ⟨RX11, "showsActs", "(I)I"⟩
abbrev cX11_plainPays : ByteArray := prog_13_method_86_code
def yX11_plainPays : MethodName := ⟨RX11, "plainPays", "(I)I"⟩
abbrev cX11_paysActs : ByteArray := prog_13_method_87_code
def yX11_paysActs : MethodName := ⟨RX11, "paysActs", "(I)I"⟩
abbrev cX11_plainTells : ByteArray := prog_13_method_88_code
def yX11_plainTells : MethodName := ⟨RX11, "plainTells", "(I)I"⟩
abbrev cX11_tellsActs : ByteArray := prog_13_method_89_code
def yX11_tellsActs : MethodName := ⟨RX11, "tellsActs", "(I)I"⟩
abbrev cX11_act : ByteArray := prog_13_method_90_code
def yX11_act : MethodName := ⟨RX11, "act", "(III)I"⟩
abbrev cX11_trace : ByteArray := prog_13_method_91_code
def yX11_trace : MethodName := ⟨RX11, "trace", "(I)I"⟩
abbrev cX11_as : ByteArray := prog_13_method_92_code
def yX11_as : MethodName := ⟨RX11, "as", "(II)I"⟩
abbrev cX11_image : ByteArray := prog_13_method_93_code
def yX11_image : MethodName := ⟨RX11, "image", "()I"⟩
abbrev cX11_undo : ByteArray := prog_13_method_94_code
def yX11_undo : MethodName := ⟨RX11, "undo", "()I"⟩
abbrev cX11_count : ByteArray := prog_13_method_95_code
def yX11_count : MethodName := ⟨RX11, "count", "(I)I"⟩
def RJx145de : String := "java/io/Serializable"
def TJx145de : u_T := fun k => match k with
  | _ => ("", "", "", false)
def tyJx145de : Nat → FieldType := fun k => match k with
  | _ => .int
abbrev wsJx145de0 : List Cond := u_ws RJx145de TJx145de 0
theorem nmJx145de : ∀ a, a < 0 → ∀ b, b < 0 → a ≠ b → (TJx145de a).2.1 ≠ (TJx145de b).2.1 := by decide +kernel
theorem tyJx145de_ok : ∀ k, k < 0 → parseFieldDescriptor (TJx145de k).2.2.1 = some (tyJx145de k) := by decide +kernel
def RJx9f9b0 : String := "java/lang/CharSequence"
def TJx9f9b0 : u_T := fun k => match k with
  | _ => ("", "", "", false)
def tyJx9f9b0 : Nat → FieldType := fun k => match k with
  | _ => .int
abbrev wsJx9f9b00 : List Cond := u_ws RJx9f9b0 TJx9f9b0 0
theorem nmJx9f9b0 : ∀ a, a < 0 → ∀ b, b < 0 → a ≠ b → (TJx9f9b0 a).2.1 ≠ (TJx9f9b0 b).2.1 := by decide +kernel
theorem tyJx9f9b0_ok : ∀ k, k < 0 → parseFieldDescriptor (TJx9f9b0 k).2.2.1 = some (tyJx9f9b0 k) := by decide +kernel
def RJ11 : String := "java/lang/Character"
def TJ11 : u_T := fun k => match k with
  | _ => ("", "", "", false)
def tyJ11 : Nat → FieldType := fun k => match k with
  | _ => .int
abbrev wsJ110 : List Cond := u_ws RJ11 TJ11 0
theorem nmJ11 : ∀ a, a < 0 → ∀ b, b < 0 → a ≠ b → (TJ11 a).2.1 ≠ (TJ11 b).2.1 := by decide +kernel
theorem tyJ11_ok : ∀ k, k < 0 → parseFieldDescriptor (TJ11 k).2.2.1 = some (tyJ11 k) := by decide +kernel
abbrev cJ11_isValidCodePoint_9a6ad : ByteArray := prog_14_method_11_code
def yJ11_isValidCodePoint_9a6ad : MethodName := ⟨RJ11, "isValidCodePoint", "(I)Z"⟩
abbrev cJ11_highSurrogate_5068e : ByteArray := prog_14_method_28_code
def yJ11_highSurrogate_5068e : MethodName := ⟨RJ11, "highSurrogate", "(I)C"⟩
abbrev cJ11_lowSurrogate_5068e : ByteArray := prog_14_method_29_code
def yJ11_lowSurrogate_5068e : MethodName := ⟨RJ11, "lowSurrogate", "(I)C"⟩
def RJx8e188 : String := "java/lang/Cloneable"
def TJx8e188 : u_T := fun k => match k with
  | _ => ("", "", "", false)
def tyJx8e188 : Nat → FieldType := fun k => match k with
  | _ => .int
abbrev wsJx8e1880 : List Cond := u_ws RJx8e188 TJx8e188 0
theorem nmJx8e188 : ∀ a, a < 0 → ∀ b, b < 0 → a ≠ b → (TJx8e188 a).2.1 ≠ (TJx8e188 b).2.1 := by decide +kernel
theorem tyJx8e188_ok : ∀ k, k < 0 → parseFieldDescriptor (TJx8e188 k).2.2.1 = some (tyJx8e188 k) := by decide +kernel
def RJxb160c : String := "java/lang/Comparable"
def TJxb160c : u_T := fun k => match k with
  | _ => ("", "", "", false)
def tyJxb160c : Nat → FieldType := fun k => match k with
  | _ => .int
abbrev wsJxb160c0 : List Cond := u_ws RJxb160c TJxb160c 0
theorem nmJxb160c : ∀ a, a < 0 → ∀ b, b < 0 → a ≠ b → (TJxb160c a).2.1 ≠ (TJxb160c b).2.1 := by decide +kernel
theorem tyJxb160c_ok : ∀ k, k < 0 → parseFieldDescriptor (TJxb160c k).2.2.1 = some (tyJxb160c k) := by decide +kernel
def RJ6 : String := "java/lang/Integer"
def TJ6 : u_T := fun k => match k with
  | _ => ("", "", "", false)
def tyJ6 : Nat → FieldType := fun k => match k with
  | _ => .int
abbrev wsJ60 : List Cond := u_ws RJ6 TJ6 0
theorem nmJ6 : ∀ a, a < 0 → ∀ b, b < 0 → a ≠ b → (TJ6 a).2.1 ≠ (TJ6 b).2.1 := by decide +kernel
theorem tyJ6_ok : ∀ k, k < 0 → parseFieldDescriptor (TJ6 k).2.2.1 = some (tyJ6 k) := by decide +kernel
abbrev cJ6_compare_7cf53 : ByteArray := prog_16_method_40_code
def yJ6_compare_7cf53 : MethodName := ⟨RJ6, "compare", "(II)I"⟩
def RJ9 : String := "java/lang/Math"
def TJ9 : u_T := fun k => match k with
  | _ => ("", "", "", false)
def tyJ9 : Nat → FieldType := fun k => match k with
  | _ => .int
abbrev wsJ90 : List Cond := u_ws RJ9 TJ9 0
theorem nmJ9 : ∀ a, a < 0 → ∀ b, b < 0 → a ≠ b → (TJ9 a).2.1 ≠ (TJ9 b).2.1 := by decide +kernel
theorem tyJ9_ok : ∀ k, k < 0 → parseFieldDescriptor (TJ9 k).2.2.1 = some (tyJ9 k) := by decide +kernel
abbrev cJ9_abs_0f7a4 : ByteArray := prog_17_method_59_code
def yJ9_abs_0f7a4 : MethodName := ⟨RJ9, "abs", "(I)I"⟩
abbrev cJ9_max_7cf53 : ByteArray := prog_17_method_65_code
def yJ9_max_7cf53 : MethodName := ⟨RJ9, "max", "(II)I"⟩
abbrev cJ9_min_7cf53 : ByteArray := prog_17_method_69_code
def yJ9_min_7cf53 : MethodName := ⟨RJ9, "min", "(II)I"⟩
def RJ0 : String := "java/lang/String"
def TJ0 : u_T := fun k => match k with
  | _ => ("", "", "", false)
def tyJ0 : Nat → FieldType := fun k => match k with
  | _ => .int
abbrev wsJ00 : List Cond := u_ws RJ0 TJ0 0
theorem nmJ0 : ∀ a, a < 0 → ∀ b, b < 0 → a ≠ b → (TJ0 a).2.1 ≠ (TJ0 b).2.1 := by decide +kernel
theorem tyJ0_ok : ∀ k, k < 0 → parseFieldDescriptor (TJ0 k).2.2.1 = some (tyJ0 k) := by decide +kernel
abbrev cJ0_length_8abf5 : ByteArray := prog_18_method_54_code
def yJ0_length_8abf5 : MethodName := ⟨RJ0, "length", "()I"⟩
abbrev cJ0_charAt_5068e : ByteArray := prog_18_method_56_code
def yJ0_charAt_5068e : MethodName := ⟨RJ0, "charAt", "(I)C"⟩
abbrev cJ0_indexOf_0f7a4 : ByteArray := prog_18_method_79_code
def yJ0_indexOf_0f7a4 : MethodName := ⟨RJ0, "indexOf", "(I)I"⟩
abbrev cJ0_indexOf_7cf53 : ByteArray := prog_18_method_80_code
def yJ0_indexOf_7cf53 : MethodName := ⟨RJ0, "indexOf", "(II)I"⟩
abbrev cJ0_coder_7d493 : ByteArray := prog_18_method_152_code
def yJ0_coder_7d493 : MethodName := ⟨RJ0, "coder", "()B"⟩
abbrev cJ0_isLatin1_aae02 : ByteArray := prog_18_method_154_code
def yJ0_isLatin1_aae02 : MethodName := ⟨RJ0, "isLatin1", "()Z"⟩
abbrev cJ0_checkIndex_df160 : ByteArray := prog_18_method_155_code
def yJ0_checkIndex_df160 : MethodName := ⟨RJ0, "checkIndex", "(II)V"⟩
abbrev cJ0_checkBoundsBeginEnd_23922 : ByteArray := prog_18_method_158_code
def yJ0_checkBoundsBeginEnd_23922 : MethodName := ⟨RJ0, "checkBoundsBeginEnd", "(III)V"⟩
def RJ1 : String := "java/lang/StringLatin1"
def TJ1 : u_T := fun k => match k with
  | _ => ("", "", "", false)
def tyJ1 : Nat → FieldType := fun k => match k with
  | _ => .int
abbrev wsJ10 : List Cond := u_ws RJ1 TJ1 0
theorem nmJ1 : ∀ a, a < 0 → ∀ b, b < 0 → a ≠ b → (TJ1 a).2.1 ≠ (TJ1 b).2.1 := by decide +kernel
theorem tyJ1_ok : ∀ k, k < 0 → parseFieldDescriptor (TJ1 k).2.2.1 = some (tyJ1 k) := by decide +kernel
abbrev cJ1_charAt_3b067 : ByteArray := prog_19_method_2_code
def yJ1_charAt_3b067 : MethodName := ⟨RJ1, "charAt", "([BI)C"⟩
abbrev cJ1_canEncode_9a6ad : ByteArray := prog_19_method_4_code
def yJ1_canEncode_9a6ad : MethodName := ⟨RJ1, "canEncode", "(I)Z"⟩
abbrev cJ1_indexOf_4cfef : ByteArray := prog_19_method_22_code
def yJ1_indexOf_4cfef : MethodName := ⟨RJ1, "indexOf", "([BIII)I"⟩
abbrev cJ1_indexOfChar_4cfef : ByteArray := prog_19_method_23_code
def yJ1_indexOfChar_4cfef : MethodName := ⟨RJ1, "indexOfChar", "([BIII)I"⟩
def RJ2 : String := "java/lang/StringUTF16"
def TJ2 : u_T := fun k => match k with
  | _ => ("", "", "", false)
def tyJ2 : Nat → FieldType := fun k => match k with
  | _ => .int
abbrev wsJ20 : List Cond := u_ws RJ2 TJ2 0
theorem nmJ2 : ∀ a, a < 0 → ∀ b, b < 0 → a ≠ b → (TJ2 a).2.1 ≠ (TJ2 b).2.1 := by decide +kernel
theorem tyJ2_ok : ∀ k, k < 0 → parseFieldDescriptor (TJ2 k).2.2.1 = some (tyJ2 k) := by decide +kernel
abbrev cJ2_getChar_3b067 : ByteArray := prog_20_method_5_code
def yJ2_getChar_3b067 : MethodName := ⟨RJ2, "getChar", "([BI)C"⟩
abbrev cJ2_length_9d52b : ByteArray := prog_20_method_6_code
def yJ2_length_9d52b : MethodName := ⟨RJ2, "length", "([B)I"⟩
abbrev cJ2_indexOf_4cfef : ByteArray := prog_20_method_40_code
def yJ2_indexOf_4cfef : MethodName := ⟨RJ2, "indexOf", "([BIII)I"⟩
abbrev cJ2_indexOfChar_4cfef : ByteArray := prog_20_method_47_code
def yJ2_indexOfChar_4cfef : MethodName := ⟨RJ2, "indexOfChar", "([BIII)I"⟩
abbrev cJ2_indexOfCharUnsafe_4cfef : ByteArray := prog_20_method_48_code
def yJ2_indexOfCharUnsafe_4cfef : MethodName := ⟨RJ2, "indexOfCharUnsafe", "([BIII)I"⟩
abbrev cJ2_indexOfSupplementary_4cfef : ByteArray := prog_20_method_49_code
def yJ2_indexOfSupplementary_4cfef : MethodName := ⟨RJ2, "indexOfSupplementary", "([BIII)I"⟩
abbrev cJ2_charAt_3b067 : ByteArray := prog_20_method_83_code
def yJ2_charAt_3b067 : MethodName := ⟨RJ2, "charAt", "([BI)C"⟩
abbrev cJ2_checkIndex_2214a : ByteArray := prog_20_method_91_code
def yJ2_checkIndex_2214a : MethodName := ⟨RJ2, "checkIndex", "(I[B)V"⟩
abbrev cJ2_checkBoundsBeginEnd_d044e : ByteArray := prog_20_method_93_code
def yJ2_checkBoundsBeginEnd_d044e : MethodName := ⟨RJ2, "checkBoundsBeginEnd", "(II[B)V"⟩
def RJ10 : String := "java/lang/System"
def TJ10 : u_T := fun k => match k with
  | _ => ("", "", "", false)
def tyJ10 : Nat → FieldType := fun k => match k with
  | _ => .int
abbrev wsJ100 : List Cond := u_ws RJ10 TJ10 0
theorem nmJ10 : ∀ a, a < 0 → ∀ b, b < 0 → a ≠ b → (TJ10 a).2.1 ≠ (TJ10 b).2.1 := by decide +kernel
theorem tyJ10_ok : ∀ k, k < 0 → parseFieldDescriptor (TJ10 k).2.2.1 = some (tyJ10 k) := by decide +kernel
def RJxfd54e : String := "java/lang/constant/Constable"
def TJxfd54e : u_T := fun k => match k with
  | _ => ("", "", "", false)
def tyJxfd54e : Nat → FieldType := fun k => match k with
  | _ => .int
abbrev wsJxfd54e0 : List Cond := u_ws RJxfd54e TJxfd54e 0
theorem nmJxfd54e : ∀ a, a < 0 → ∀ b, b < 0 → a ≠ b → (TJxfd54e a).2.1 ≠ (TJxfd54e b).2.1 := by decide +kernel
theorem tyJxfd54e_ok : ∀ k, k < 0 → parseFieldDescriptor (TJxfd54e k).2.2.1 = some (tyJxfd54e k) := by decide +kernel
def RJx3cf43 : String := "java/lang/constant/ConstantDesc"
def TJx3cf43 : u_T := fun k => match k with
  | _ => ("", "", "", false)
def tyJx3cf43 : Nat → FieldType := fun k => match k with
  | _ => .int
abbrev wsJx3cf430 : List Cond := u_ws RJx3cf43 TJx3cf43 0
theorem nmJx3cf43 : ∀ a, a < 0 → ∀ b, b < 0 → a ≠ b → (TJx3cf43 a).2.1 ≠ (TJx3cf43 b).2.1 := by decide +kernel
theorem tyJx3cf43_ok : ∀ k, k < 0 → parseFieldDescriptor (TJx3cf43 k).2.2.1 = some (tyJx3cf43 k) := by decide +kernel
def RJ7 : String := "java/util/Arrays"
def TJ7 : u_T := fun k => match k with
  | _ => ("", "", "", false)
def tyJ7 : Nat → FieldType := fun k => match k with
  | _ => .int
abbrev wsJ70 : List Cond := u_ws RJ7 TJ7 0
theorem nmJ7 : ∀ a, a < 0 → ∀ b, b < 0 → a ≠ b → (TJ7 a).2.1 ≠ (TJ7 b).2.1 := by decide +kernel
theorem tyJ7_ok : ∀ k, k < 0 → parseFieldDescriptor (TJ7 k).2.2.1 = some (tyJ7 k) := by decide +kernel
abbrev cJ7_fill_53178 : ByteArray := prog_22_method_103_code
def yJ7_fill_53178 : MethodName := ⟨RJ7, "fill", "([II)V"⟩
abbrev cJ7_copyOf_59c91 : ByteArray := prog_22_method_123_code
def yJ7_copyOf_59c91 : MethodName := ⟨RJ7, "copyOf", "([II)[I"⟩
def RJ3 : String := "jdk/internal/util/Preconditions"
def TJ3 : u_T := fun k => match k with
  | _ => ("", "", "", false)
def tyJ3 : Nat → FieldType := fun k => match k with
  | _ => .int
abbrev wsJ30 : List Cond := u_ws RJ3 TJ3 0
theorem nmJ3 : ∀ a, a < 0 → ∀ b, b < 0 → a ≠ b → (TJ3 a).2.1 ≠ (TJ3 b).2.1 := by decide +kernel
theorem tyJ3_ok : ∀ k, k < 0 → parseFieldDescriptor (TJ3 k).2.2.1 = some (tyJ3 k) := by decide +kernel
abbrev cJ3_checkIndex_8e157 : ByteArray := prog_23_method_11_code
def yJ3_checkIndex_8e157 : MethodName := ⟨RJ3, "checkIndex", "(IILjava/util/function/BiFunction;)I"⟩
abbrev cJ3_checkFromToIndex_8c36e : ByteArray := prog_23_method_12_code
def yJ3_checkFromToIndex_8c36e : MethodName := ⟨RJ3, "checkFromToIndex", "(IIILjava/util/function/BiFunction;)I"⟩
def RL : String := "CoinLandLaw"
abbrev cL_law : ByteArray := code
def yL_law : MethodName := ⟨RL, "law", "([I)Z"⟩
abbrev vwCl : List vw_C := [(RX0, TX0, 5), (RX1, TX1, 4), (RX2, TX2, 3), (RX3, TX3, 7), (RX4, TX4, 2), (RX5, TX5, 6), (RX6, TX6, 8), (RX7, TX7, 3), (RX8, TX8, 4), (RX9, TX9, 11), (RX10, TX10, 8), (RX11, TX11, 34)]
theorem inX00_ : ∀ w ∈ wsX00, w ∈ lw_tbl := by decide +kernel
theorem inX10_ : ∀ w ∈ wsX10, w ∈ lw_tbl := by decide +kernel
theorem inX20_ : ∀ w ∈ wsX20, w ∈ lw_tbl := by decide +kernel
theorem inX30_ : ∀ w ∈ wsX30, w ∈ lw_tbl := by decide +kernel
theorem inX40_ : ∀ w ∈ wsX40, w ∈ lw_tbl := by decide +kernel
theorem inX50_ : ∀ w ∈ wsX50, w ∈ lw_tbl := by decide +kernel
theorem inX60_ : ∀ w ∈ wsX60, w ∈ lw_tbl := by decide +kernel
theorem inX70_ : ∀ w ∈ wsX70, w ∈ lw_tbl := by decide +kernel
theorem inX80_ : ∀ w ∈ wsX80, w ∈ lw_tbl := by decide +kernel
theorem inX90_ : ∀ w ∈ wsX90, w ∈ lw_tbl := by decide +kernel
theorem inX100_ : ∀ w ∈ wsX100, w ∈ lw_tbl := by decide +kernel
theorem inX110_ : ∀ w ∈ wsX110, w ∈ lw_tbl := by decide +kernel
theorem inJx145de0_ : ∀ w ∈ wsJx145de0, w ∈ lw_tbl := by decide +kernel
theorem inJx9f9b00_ : ∀ w ∈ wsJx9f9b00, w ∈ lw_tbl := by decide +kernel
theorem inJ110_ : ∀ w ∈ wsJ110, w ∈ lw_tbl := by decide +kernel
theorem inJx8e1880_ : ∀ w ∈ wsJx8e1880, w ∈ lw_tbl := by decide +kernel
theorem inJxb160c0_ : ∀ w ∈ wsJxb160c0, w ∈ lw_tbl := by decide +kernel
theorem inJ60_ : ∀ w ∈ wsJ60, w ∈ lw_tbl := by decide +kernel
theorem inJ90_ : ∀ w ∈ wsJ90, w ∈ lw_tbl := by decide +kernel
theorem inJ00_ : ∀ w ∈ wsJ00, w ∈ lw_tbl := by decide +kernel
theorem inJ10_ : ∀ w ∈ wsJ10, w ∈ lw_tbl := by decide +kernel
theorem inJ20_ : ∀ w ∈ wsJ20, w ∈ lw_tbl := by decide +kernel
theorem inJ100_ : ∀ w ∈ wsJ100, w ∈ lw_tbl := by decide +kernel
theorem inJxfd54e0_ : ∀ w ∈ wsJxfd54e0, w ∈ lw_tbl := by decide +kernel
theorem inJx3cf430_ : ∀ w ∈ wsJx3cf430, w ∈ lw_tbl := by decide +kernel
theorem inJ70_ : ∀ w ∈ wsJ70, w ∈ lw_tbl := by decide +kernel
theorem inJ30_ : ∀ w ∈ wsJ30, w ∈ lw_tbl := by decide +kernel
