-- ===== PART A: goes FIRST, ahead of the names: the tables' words, and 'selects' of the private methods out of them =====
/-- a private method of a class that the tables say can be made, by its rows of tables_1 -/
def lw_okq (q : MethodName × Nat) : Prop := (q.1.cls ≠ "java/lang/invoke/MethodHandle" ∧ q.1.cls ≠ "java/lang/invoke/VarHandle") ∧ Cond.instantiable q.1.cls q.2 ∈ tables_1 ∧ Cond.privateMethod q.1 ∈ tables_1 ∧ Cond.instanceMethod q.1 ∈ tables_1
theorem lw_p0 : lw_okq (⟨"PumpSpells", "find", "(I)I"⟩, 14) := ⟨⟨by decide +kernel, by decide +kernel⟩, List.mem_of_getElem? (i := 15) (by decide +kernel), List.mem_of_getElem? (i := 253) (by decide +kernel), List.mem_of_getElem? (i := 254) (by decide +kernel)⟩
theorem lw_p1 : lw_okq (⟨"PumpSpells$Reader", "skipBlanks", "()V"⟩, 3) := ⟨⟨by decide +kernel, by decide +kernel⟩, List.mem_of_getElem? (i := 113) (by decide +kernel), List.mem_of_getElem? (i := 360) (by decide +kernel), List.mem_of_getElem? (i := 361) (by decide +kernel)⟩
theorem lw_p2 : lw_okq (⟨"PumpSpells$Reader", "byteHere", "()I"⟩, 3) := ⟨⟨by decide +kernel, by decide +kernel⟩, List.mem_of_getElem? (i := 113) (by decide +kernel), List.mem_of_getElem? (i := 364) (by decide +kernel), List.mem_of_getElem? (i := 365) (by decide +kernel)⟩
theorem lw_p3 : lw_okq (⟨"PumpSpells$Reader", "takesHull", "()Z"⟩, 3) := ⟨⟨by decide +kernel, by decide +kernel⟩, List.mem_of_getElem? (i := 113) (by decide +kernel), List.mem_of_getElem? (i := 376) (by decide +kernel), List.mem_of_getElem? (i := 377) (by decide +kernel)⟩
theorem lw_p4 : lw_okq (⟨"PumpSpells$Reader", "takeFigure", "(II)I"⟩, 3) := ⟨⟨by decide +kernel, by decide +kernel⟩, List.mem_of_getElem? (i := 113) (by decide +kernel), List.mem_of_getElem? (i := 380) (by decide +kernel), List.mem_of_getElem? (i := 381) (by decide +kernel)⟩
theorem lw_p5 : lw_okq (⟨"PumpSpells$Reader", "takesGang", "()Z"⟩, 3) := ⟨⟨by decide +kernel, by decide +kernel⟩, List.mem_of_getElem? (i := 113) (by decide +kernel), List.mem_of_getElem? (i := 388) (by decide +kernel), List.mem_of_getElem? (i := 389) (by decide +kernel)⟩
theorem lw_p6 : lw_okq (⟨"PumpSpells$Reader", "kindHere", "()I"⟩, 3) := ⟨⟨by decide +kernel, by decide +kernel⟩, List.mem_of_getElem? (i := 113) (by decide +kernel), List.mem_of_getElem? (i := 392) (by decide +kernel), List.mem_of_getElem? (i := 393) (by decide +kernel)⟩
theorem lw_p7 : lw_okq (⟨"PumpSpells", "ofGang", "(II)I"⟩, 14) := ⟨⟨by decide +kernel, by decide +kernel⟩, List.mem_of_getElem? (i := 15) (by decide +kernel), List.mem_of_getElem? (i := 419) (by decide +kernel), List.mem_of_getElem? (i := 420) (by decide +kernel)⟩
theorem lw_p8 : lw_okq (⟨"PumpSpells", "ofShip", "(I)I"⟩, 14) := ⟨⟨by decide +kernel, by decide +kernel⟩, List.mem_of_getElem? (i := 15) (by decide +kernel), List.mem_of_getElem? (i := 465) (by decide +kernel), List.mem_of_getElem? (i := 466) (by decide +kernel)⟩
theorem lw_p9 : lw_okq (⟨"PumpSpells$Ship", "tire", "(I)V"⟩, 12) := ⟨⟨by decide +kernel, by decide +kernel⟩, List.mem_of_getElem? (i := 33) (by decide +kernel), List.mem_of_getElem? (i := 523) (by decide +kernel), List.mem_of_getElem? (i := 524) (by decide +kernel)⟩
theorem lw_p10 : lw_okq (⟨"PumpSpells$Search", "note", "()V"⟩, 7) := ⟨⟨by decide +kernel, by decide +kernel⟩, List.mem_of_getElem? (i := 132) (by decide +kernel), List.mem_of_getElem? (i := 584) (by decide +kernel), List.mem_of_getElem? (i := 585) (by decide +kernel)⟩
theorem lw_p11 : lw_okq (⟨"PumpSpells", "tellChance", "(JJ)V"⟩, 14) := ⟨⟨by decide +kernel, by decide +kernel⟩, List.mem_of_getElem? (i := 15) (by decide +kernel), List.mem_of_getElem? (i := 601) (by decide +kernel), List.mem_of_getElem? (i := 602) (by decide +kernel)⟩
theorem lw_p12 : lw_okq (⟨"PumpSpells", "spellOut", "(II)V"⟩, 14) := ⟨⟨by decide +kernel, by decide +kernel⟩, List.mem_of_getElem? (i := 15) (by decide +kernel), List.mem_of_getElem? (i := 631) (by decide +kernel), List.mem_of_getElem? (i := 632) (by decide +kernel)⟩
theorem lw_p13 : lw_okq (⟨"PumpSpells", "waterBehind", "(II)I"⟩, 14) := ⟨⟨by decide +kernel, by decide +kernel⟩, List.mem_of_getElem? (i := 15) (by decide +kernel), List.mem_of_getElem? (i := 648) (by decide +kernel), List.mem_of_getElem? (i := 649) (by decide +kernel)⟩
theorem lw_p14 : lw_okq (⟨"PumpSpells", "findingOfPairs", "(LPumpSpells$Row;)I"⟩, 14) := ⟨⟨by decide +kernel, by decide +kernel⟩, List.mem_of_getElem? (i := 15) (by decide +kernel), List.mem_of_getElem? (i := 670) (by decide +kernel), List.mem_of_getElem? (i := 671) (by decide +kernel)⟩
theorem lw_p15 : lw_okq (⟨"PumpSpells", "isSoIfOf", "(IILPumpSpells$Row;)Z"⟩, 14) := ⟨⟨by decide +kernel, by decide +kernel⟩, List.mem_of_getElem? (i := 15) (by decide +kernel), List.mem_of_getElem? (i := 677) (by decide +kernel), List.mem_of_getElem? (i := 678) (by decide +kernel)⟩
def lw_privs_1 : List (MethodName × Nat) := [(⟨"PumpSpells", "find", "(I)I"⟩, 14), (⟨"PumpSpells$Reader", "skipBlanks", "()V"⟩, 3), (⟨"PumpSpells$Reader", "byteHere", "()I"⟩, 3), (⟨"PumpSpells$Reader", "takesHull", "()Z"⟩, 3), (⟨"PumpSpells$Reader", "takeFigure", "(II)I"⟩, 3), (⟨"PumpSpells$Reader", "takesGang", "()Z"⟩, 3), (⟨"PumpSpells$Reader", "kindHere", "()I"⟩, 3), (⟨"PumpSpells", "ofGang", "(II)I"⟩, 14), (⟨"PumpSpells", "ofShip", "(I)I"⟩, 14), (⟨"PumpSpells$Ship", "tire", "(I)V"⟩, 12), (⟨"PumpSpells$Search", "note", "()V"⟩, 7), (⟨"PumpSpells", "tellChance", "(JJ)V"⟩, 14), (⟨"PumpSpells", "spellOut", "(II)V"⟩, 14), (⟨"PumpSpells", "waterBehind", "(II)I"⟩, 14), (⟨"PumpSpells", "findingOfPairs", "(LPumpSpells$Row;)I"⟩, 14), (⟨"PumpSpells", "isSoIfOf", "(IILPumpSpells$Row;)Z"⟩, 14)]
theorem lw_r1 : ∀ q ∈ lw_privs_1, lw_okq q := List.forall_mem_cons.mpr ⟨lw_p0, List.forall_mem_cons.mpr ⟨lw_p1, List.forall_mem_cons.mpr ⟨lw_p2, List.forall_mem_cons.mpr ⟨lw_p3, List.forall_mem_cons.mpr ⟨lw_p4, List.forall_mem_cons.mpr ⟨lw_p5, List.forall_mem_cons.mpr ⟨lw_p6, List.forall_mem_cons.mpr ⟨lw_p7, List.forall_mem_cons.mpr ⟨lw_p8, List.forall_mem_cons.mpr ⟨lw_p9, List.forall_mem_cons.mpr ⟨lw_p10, List.forall_mem_cons.mpr ⟨lw_p11, List.forall_mem_cons.mpr ⟨lw_p12, List.forall_mem_cons.mpr ⟨lw_p13, List.forall_mem_cons.mpr ⟨lw_p14, List.forall_mem_cons.mpr ⟨lw_p15, fun _ h => absurd h List.not_mem_nil⟩⟩⟩⟩⟩⟩⟩⟩⟩⟩⟩⟩⟩⟩⟩⟩
theorem lw_p16 : lw_okq (⟨"PumpSpells", "weigh", "(IIIZ)J"⟩, 14) := ⟨⟨by decide +kernel, by decide +kernel⟩, List.mem_of_getElem? (i := 15) (by decide +kernel), List.mem_of_getElem? (i := 700) (by decide +kernel), List.mem_of_getElem? (i := 701) (by decide +kernel)⟩
theorem lw_p17 : lw_okq (⟨"PumpSpells", "tally", "(I)I"⟩, 14) := ⟨⟨by decide +kernel, by decide +kernel⟩, List.mem_of_getElem? (i := 15) (by decide +kernel), List.mem_of_getElem? (i := 748) (by decide +kernel), List.mem_of_getElem? (i := 749) (by decide +kernel)⟩
theorem lw_p18 : lw_okq (⟨"PumpSpells", "countRows", "()I"⟩, 14) := ⟨⟨by decide +kernel, by decide +kernel⟩, List.mem_of_getElem? (i := 15) (by decide +kernel), List.mem_of_getElem? (i := 760) (by decide +kernel), List.mem_of_getElem? (i := 761) (by decide +kernel)⟩
theorem lw_p19 : lw_okq (⟨"PumpSpells", "countTexts", "()I"⟩, 14) := ⟨⟨by decide +kernel, by decide +kernel⟩, List.mem_of_getElem? (i := 15) (by decide +kernel), List.mem_of_getElem? (i := 764) (by decide +kernel), List.mem_of_getElem? (i := 765) (by decide +kernel)⟩
theorem lw_p20 : lw_okq (⟨"PumpSpells", "countKept", "()I"⟩, 14) := ⟨⟨by decide +kernel, by decide +kernel⟩, List.mem_of_getElem? (i := 15) (by decide +kernel), List.mem_of_getElem? (i := 768) (by decide +kernel), List.mem_of_getElem? (i := 769) (by decide +kernel)⟩
theorem lw_p21 : lw_okq (⟨"PumpSpells", "digestShip", "(J)J"⟩, 14) := ⟨⟨by decide +kernel, by decide +kernel⟩, List.mem_of_getElem? (i := 15) (by decide +kernel), List.mem_of_getElem? (i := 786) (by decide +kernel), List.mem_of_getElem? (i := 787) (by decide +kernel)⟩
theorem lw_p22 : lw_okq (⟨"PumpSpellsModel", "find", "(I)I"⟩, 23) := ⟨⟨by decide +kernel, by decide +kernel⟩, List.mem_of_getElem? (i := 810) (by decide +kernel), List.mem_of_getElem? (i := 897) (by decide +kernel), List.mem_of_getElem? (i := 898) (by decide +kernel)⟩
theorem lw_p23 : lw_okq (⟨"PumpSpellsModel", "makeRow", "(II)V"⟩, 23) := ⟨⟨by decide +kernel, by decide +kernel⟩, List.mem_of_getElem? (i := 810) (by decide +kernel), List.mem_of_getElem? (i := 901) (by decide +kernel), List.mem_of_getElem? (i := 902) (by decide +kernel)⟩
theorem lw_p24 : lw_okq (⟨"PumpSpellsModel", "refused", "(II)I"⟩, 23) := ⟨⟨by decide +kernel, by decide +kernel⟩, List.mem_of_getElem? (i := 810) (by decide +kernel), List.mem_of_getElem? (i := 909) (by decide +kernel), List.mem_of_getElem? (i := 910) (by decide +kernel)⟩
theorem lw_p25 : lw_okq (⟨"PumpSpellsModel", "told", "(I)I"⟩, 23) := ⟨⟨by decide +kernel, by decide +kernel⟩, List.mem_of_getElem? (i := 810) (by decide +kernel), List.mem_of_getElem? (i := 913) (by decide +kernel), List.mem_of_getElem? (i := 914) (by decide +kernel)⟩
theorem lw_p26 : lw_okq (⟨"PumpSpellsModel", "isSpan", "(III)Z"⟩, 23) := ⟨⟨by decide +kernel, by decide +kernel⟩, List.mem_of_getElem? (i := 810) (by decide +kernel), List.mem_of_getElem? (i := 929) (by decide +kernel), List.mem_of_getElem? (i := 930) (by decide +kernel)⟩
theorem lw_p27 : lw_okq (⟨"PumpSpellsModel", "faultOf", "(I)I"⟩, 23) := ⟨⟨by decide +kernel, by decide +kernel⟩, List.mem_of_getElem? (i := 810) (by decide +kernel), List.mem_of_getElem? (i := 953) (by decide +kernel), List.mem_of_getElem? (i := 954) (by decide +kernel)⟩
theorem lw_p28 : lw_okq (⟨"PumpSpellsModel", "readsShip", "()Z"⟩, 23) := ⟨⟨by decide +kernel, by decide +kernel⟩, List.mem_of_getElem? (i := 810) (by decide +kernel), List.mem_of_getElem? (i := 957) (by decide +kernel), List.mem_of_getElem? (i := 958) (by decide +kernel)⟩
theorem lw_p29 : lw_okq (⟨"PumpSpellsModel", "skip", "()V"⟩, 23) := ⟨⟨by decide +kernel, by decide +kernel⟩, List.mem_of_getElem? (i := 810) (by decide +kernel), List.mem_of_getElem? (i := 961) (by decide +kernel), List.mem_of_getElem? (i := 962) (by decide +kernel)⟩
theorem lw_p30 : lw_okq (⟨"PumpSpellsModel", "here", "()I"⟩, 23) := ⟨⟨by decide +kernel, by decide +kernel⟩, List.mem_of_getElem? (i := 810) (by decide +kernel), List.mem_of_getElem? (i := 965) (by decide +kernel), List.mem_of_getElem? (i := 966) (by decide +kernel)⟩
theorem lw_p31 : lw_okq (⟨"PumpSpellsModel", "figure", "(II)I"⟩, 23) := ⟨⟨by decide +kernel, by decide +kernel⟩, List.mem_of_getElem? (i := 810) (by decide +kernel), List.mem_of_getElem? (i := 969) (by decide +kernel), List.mem_of_getElem? (i := 970) (by decide +kernel)⟩
def lw_privs_2 : List (MethodName × Nat) := [(⟨"PumpSpells", "weigh", "(IIIZ)J"⟩, 14), (⟨"PumpSpells", "tally", "(I)I"⟩, 14), (⟨"PumpSpells", "countRows", "()I"⟩, 14), (⟨"PumpSpells", "countTexts", "()I"⟩, 14), (⟨"PumpSpells", "countKept", "()I"⟩, 14), (⟨"PumpSpells", "digestShip", "(J)J"⟩, 14), (⟨"PumpSpellsModel", "find", "(I)I"⟩, 23), (⟨"PumpSpellsModel", "makeRow", "(II)V"⟩, 23), (⟨"PumpSpellsModel", "refused", "(II)I"⟩, 23), (⟨"PumpSpellsModel", "told", "(I)I"⟩, 23), (⟨"PumpSpellsModel", "isSpan", "(III)Z"⟩, 23), (⟨"PumpSpellsModel", "faultOf", "(I)I"⟩, 23), (⟨"PumpSpellsModel", "readsShip", "()Z"⟩, 23), (⟨"PumpSpellsModel", "skip", "()V"⟩, 23), (⟨"PumpSpellsModel", "here", "()I"⟩, 23), (⟨"PumpSpellsModel", "figure", "(II)I"⟩, 23)]
theorem lw_r2 : ∀ q ∈ lw_privs_2, lw_okq q := List.forall_mem_cons.mpr ⟨lw_p16, List.forall_mem_cons.mpr ⟨lw_p17, List.forall_mem_cons.mpr ⟨lw_p18, List.forall_mem_cons.mpr ⟨lw_p19, List.forall_mem_cons.mpr ⟨lw_p20, List.forall_mem_cons.mpr ⟨lw_p21, List.forall_mem_cons.mpr ⟨lw_p22, List.forall_mem_cons.mpr ⟨lw_p23, List.forall_mem_cons.mpr ⟨lw_p24, List.forall_mem_cons.mpr ⟨lw_p25, List.forall_mem_cons.mpr ⟨lw_p26, List.forall_mem_cons.mpr ⟨lw_p27, List.forall_mem_cons.mpr ⟨lw_p28, List.forall_mem_cons.mpr ⟨lw_p29, List.forall_mem_cons.mpr ⟨lw_p30, List.forall_mem_cons.mpr ⟨lw_p31, fun _ h => absurd h List.not_mem_nil⟩⟩⟩⟩⟩⟩⟩⟩⟩⟩⟩⟩⟩⟩⟩⟩
theorem lw_p32 : lw_okq (⟨"PumpSpellsModel", "readsGang", "()Z"⟩, 23) := ⟨⟨by decide +kernel, by decide +kernel⟩, List.mem_of_getElem? (i := 810) (by decide +kernel), List.mem_of_getElem? (i := 973) (by decide +kernel), List.mem_of_getElem? (i := 974) (by decide +kernel)⟩
theorem lw_p33 : lw_okq (⟨"PumpSpellsModel", "isGang", "(I)Z"⟩, 23) := ⟨⟨by decide +kernel, by decide +kernel⟩, List.mem_of_getElem? (i := 810) (by decide +kernel), List.mem_of_getElem? (i := 988) (by decide +kernel), List.mem_of_getElem? (i := 989) (by decide +kernel)⟩
theorem lw_p34 : lw_okq (⟨"PumpSpellsModel", "toldOf", "(II)I"⟩, 23) := ⟨⟨by decide +kernel, by decide +kernel⟩, List.mem_of_getElem? (i := 810) (by decide +kernel), List.mem_of_getElem? (i := 993) (by decide +kernel), List.mem_of_getElem? (i := 994) (by decide +kernel)⟩
theorem lw_p35 : lw_okq (⟨"PumpSpellsModel", "pumpsNow", "(I)I"⟩, 23) := ⟨⟨by decide +kernel, by decide +kernel⟩, List.mem_of_getElem? (i := 810) (by decide +kernel), List.mem_of_getElem? (i := 997) (by decide +kernel), List.mem_of_getElem? (i := 998) (by decide +kernel)⟩
theorem lw_p36 : lw_okq (⟨"PumpSpellsModel", "isOf", "(II)Z"⟩, 23) := ⟨⟨by decide +kernel, by decide +kernel⟩, List.mem_of_getElem? (i := 810) (by decide +kernel), List.mem_of_getElem? (i := 1020) (by decide +kernel), List.mem_of_getElem? (i := 1021) (by decide +kernel)⟩
theorem lw_p37 : lw_okq (⟨"PumpSpellsModel", "singing", "()I"⟩, 23) := ⟨⟨by decide +kernel, by decide +kernel⟩, List.mem_of_getElem? (i := 810) (by decide +kernel), List.mem_of_getElem? (i := 1024) (by decide +kernel), List.mem_of_getElem? (i := 1025) (by decide +kernel)⟩
theorem lw_p38 : lw_okq (⟨"PumpSpellsModel", "cut", "(I)V"⟩, 23) := ⟨⟨by decide +kernel, by decide +kernel⟩, List.mem_of_getElem? (i := 810) (by decide +kernel), List.mem_of_getElem? (i := 1033) (by decide +kernel), List.mem_of_getElem? (i := 1034) (by decide +kernel)⟩
theorem lw_p39 : lw_okq (⟨"PumpSpellsModel", "tellOf", "(I)I"⟩, 23) := ⟨⟨by decide +kernel, by decide +kernel⟩, List.mem_of_getElem? (i := 810) (by decide +kernel), List.mem_of_getElem? (i := 1042) (by decide +kernel), List.mem_of_getElem? (i := 1043) (by decide +kernel)⟩
theorem lw_p40 : lw_okq (⟨"PumpSpellsModel", "leaking", "(I)I"⟩, 23) := ⟨⟨by decide +kernel, by decide +kernel⟩, List.mem_of_getElem? (i := 810) (by decide +kernel), List.mem_of_getElem? (i := 1046) (by decide +kernel), List.mem_of_getElem? (i := 1047) (by decide +kernel)⟩
theorem lw_p41 : lw_okq (⟨"PumpSpellsModel", "isSunk", "(I)Z"⟩, 23) := ⟨⟨by decide +kernel, by decide +kernel⟩, List.mem_of_getElem? (i := 810) (by decide +kernel), List.mem_of_getElem? (i := 1050) (by decide +kernel), List.mem_of_getElem? (i := 1051) (by decide +kernel)⟩
theorem lw_p42 : lw_okq (⟨"PumpSpellsModel", "canNow", "()I"⟩, 23) := ⟨⟨by decide +kernel, by decide +kernel⟩, List.mem_of_getElem? (i := 810) (by decide +kernel), List.mem_of_getElem? (i := 1058) (by decide +kernel), List.mem_of_getElem? (i := 1059) (by decide +kernel)⟩
theorem lw_p43 : lw_okq (⟨"PumpSpellsModel", "isOver", "(I)Z"⟩, 23) := ⟨⟨by decide +kernel, by decide +kernel⟩, List.mem_of_getElem? (i := 810) (by decide +kernel), List.mem_of_getElem? (i := 1062) (by decide +kernel), List.mem_of_getElem? (i := 1063) (by decide +kernel)⟩
theorem lw_p44 : lw_okq (⟨"PumpSpellsModel", "may", "(II)Z"⟩, 23) := ⟨⟨by decide +kernel, by decide +kernel⟩, List.mem_of_getElem? (i := 810) (by decide +kernel), List.mem_of_getElem? (i := 1066) (by decide +kernel), List.mem_of_getElem? (i := 1067) (by decide +kernel)⟩
theorem lw_p45 : lw_okq (⟨"PumpSpellsModel", "doAct", "(I)V"⟩, 23) := ⟨⟨by decide +kernel, by decide +kernel⟩, List.mem_of_getElem? (i := 810) (by decide +kernel), List.mem_of_getElem? (i := 1080) (by decide +kernel), List.mem_of_getElem? (i := 1081) (by decide +kernel)⟩
theorem lw_p46 : lw_okq (⟨"PumpSpellsModel", "pass", "(II)V"⟩, 23) := ⟨⟨by decide +kernel, by decide +kernel⟩, List.mem_of_getElem? (i := 810) (by decide +kernel), List.mem_of_getElem? (i := 1084) (by decide +kernel), List.mem_of_getElem? (i := 1085) (by decide +kernel)⟩
theorem lw_p47 : lw_okq (⟨"PumpSpellsModel", "copyShip", "(III)V"⟩, 23) := ⟨⟨by decide +kernel, by decide +kernel⟩, List.mem_of_getElem? (i := 810) (by decide +kernel), List.mem_of_getElem? (i := 1097) (by decide +kernel), List.mem_of_getElem? (i := 1098) (by decide +kernel)⟩
def lw_privs_3 : List (MethodName × Nat) := [(⟨"PumpSpellsModel", "readsGang", "()Z"⟩, 23), (⟨"PumpSpellsModel", "isGang", "(I)Z"⟩, 23), (⟨"PumpSpellsModel", "toldOf", "(II)I"⟩, 23), (⟨"PumpSpellsModel", "pumpsNow", "(I)I"⟩, 23), (⟨"PumpSpellsModel", "isOf", "(II)Z"⟩, 23), (⟨"PumpSpellsModel", "singing", "()I"⟩, 23), (⟨"PumpSpellsModel", "cut", "(I)V"⟩, 23), (⟨"PumpSpellsModel", "tellOf", "(I)I"⟩, 23), (⟨"PumpSpellsModel", "leaking", "(I)I"⟩, 23), (⟨"PumpSpellsModel", "isSunk", "(I)Z"⟩, 23), (⟨"PumpSpellsModel", "canNow", "()I"⟩, 23), (⟨"PumpSpellsModel", "isOver", "(I)Z"⟩, 23), (⟨"PumpSpellsModel", "may", "(II)Z"⟩, 23), (⟨"PumpSpellsModel", "doAct", "(I)V"⟩, 23), (⟨"PumpSpellsModel", "pass", "(II)V"⟩, 23), (⟨"PumpSpellsModel", "copyShip", "(III)V"⟩, 23)]
theorem lw_r3 : ∀ q ∈ lw_privs_3, lw_okq q := List.forall_mem_cons.mpr ⟨lw_p32, List.forall_mem_cons.mpr ⟨lw_p33, List.forall_mem_cons.mpr ⟨lw_p34, List.forall_mem_cons.mpr ⟨lw_p35, List.forall_mem_cons.mpr ⟨lw_p36, List.forall_mem_cons.mpr ⟨lw_p37, List.forall_mem_cons.mpr ⟨lw_p38, List.forall_mem_cons.mpr ⟨lw_p39, List.forall_mem_cons.mpr ⟨lw_p40, List.forall_mem_cons.mpr ⟨lw_p41, List.forall_mem_cons.mpr ⟨lw_p42, List.forall_mem_cons.mpr ⟨lw_p43, List.forall_mem_cons.mpr ⟨lw_p44, List.forall_mem_cons.mpr ⟨lw_p45, List.forall_mem_cons.mpr ⟨lw_p46, List.forall_mem_cons.mpr ⟨lw_p47, fun _ h => absurd h List.not_mem_nil⟩⟩⟩⟩⟩⟩⟩⟩⟩⟩⟩⟩⟩⟩⟩⟩
theorem lw_p48 : lw_okq (⟨"PumpSpellsModel", "areActs", "(I)Z"⟩, 23) := ⟨⟨by decide +kernel, by decide +kernel⟩, List.mem_of_getElem? (i := 810) (by decide +kernel), List.mem_of_getElem? (i := 1109) (by decide +kernel), List.mem_of_getElem? (i := 1110) (by decide +kernel)⟩
theorem lw_p49 : lw_okq (⟨"PumpSpellsModel", "layTried", "()V"⟩, 23) := ⟨⟨by decide +kernel, by decide +kernel⟩, List.mem_of_getElem? (i := 810) (by decide +kernel), List.mem_of_getElem? (i := 1113) (by decide +kernel), List.mem_of_getElem? (i := 1114) (by decide +kernel)⟩
theorem lw_p50 : lw_okq (⟨"PumpSpellsModel", "keeps", "(II)Z"⟩, 23) := ⟨⟨by decide +kernel, by decide +kernel⟩, List.mem_of_getElem? (i := 810) (by decide +kernel), List.mem_of_getElem? (i := 1124) (by decide +kernel), List.mem_of_getElem? (i := 1125) (by decide +kernel)⟩
theorem lw_p51 : lw_okq (⟨"PumpSpellsModel", "toRow", "(III)V"⟩, 23) := ⟨⟨by decide +kernel, by decide +kernel⟩, List.mem_of_getElem? (i := 810) (by decide +kernel), List.mem_of_getElem? (i := 1131) (by decide +kernel), List.mem_of_getElem? (i := 1132) (by decide +kernel)⟩
theorem lw_p52 : lw_okq (⟨"PumpSpellsModel", "turn", "(I)V"⟩, 23) := ⟨⟨by decide +kernel, by decide +kernel⟩, List.mem_of_getElem? (i := 810) (by decide +kernel), List.mem_of_getElem? (i := 1147) (by decide +kernel), List.mem_of_getElem? (i := 1148) (by decide +kernel)⟩
theorem lw_p53 : lw_okq (⟨"PumpSpellsModel", "lands", "(II)Z"⟩, 23) := ⟨⟨by decide +kernel, by decide +kernel⟩, List.mem_of_getElem? (i := 810) (by decide +kernel), List.mem_of_getElem? (i := 1155) (by decide +kernel), List.mem_of_getElem? (i := 1156) (by decide +kernel)⟩
theorem lw_p54 : lw_okq (⟨"PumpSpellsModel", "waterBy", "(II)I"⟩, 23) := ⟨⟨by decide +kernel, by decide +kernel⟩, List.mem_of_getElem? (i := 810) (by decide +kernel), List.mem_of_getElem? (i := 1168) (by decide +kernel), List.mem_of_getElem? (i := 1169) (by decide +kernel)⟩
theorem lw_p55 : lw_okq (⟨"PumpSpellsModel", "noPairs", "(I)I"⟩, 23) := ⟨⟨by decide +kernel, by decide +kernel⟩, List.mem_of_getElem? (i := 810) (by decide +kernel), List.mem_of_getElem? (i := 1189) (by decide +kernel), List.mem_of_getElem? (i := 1190) (by decide +kernel)⟩
theorem lw_p56 : lw_okq (⟨"PumpSpellsModel", "canAll", "(I)Z"⟩, 23) := ⟨⟨by decide +kernel, by decide +kernel⟩, List.mem_of_getElem? (i := 810) (by decide +kernel), List.mem_of_getElem? (i := 1193) (by decide +kernel), List.mem_of_getElem? (i := 1194) (by decide +kernel)⟩
theorem lw_p57 : lw_okq (⟨"PumpSpellsModel", "isSoAs", "(III)Z"⟩, 23) := ⟨⟨by decide +kernel, by decide +kernel⟩, List.mem_of_getElem? (i := 810) (by decide +kernel), List.mem_of_getElem? (i := 1197) (by decide +kernel), List.mem_of_getElem? (i := 1198) (by decide +kernel)⟩
theorem lw_p58 : lw_okq (⟨"PumpSpellsModel", "isSo", "(I)Z"⟩, 23) := ⟨⟨by decide +kernel, by decide +kernel⟩, List.mem_of_getElem? (i := 810) (by decide +kernel), List.mem_of_getElem? (i := 1201) (by decide +kernel), List.mem_of_getElem? (i := 1202) (by decide +kernel)⟩
theorem lw_p59 : lw_okq (⟨"PumpSpellsModel", "tellChances", "(IIIZ)I"⟩, 23) := ⟨⟨by decide +kernel, by decide +kernel⟩, List.mem_of_getElem? (i := 810) (by decide +kernel), List.mem_of_getElem? (i := 1221) (by decide +kernel), List.mem_of_getElem? (i := 1222) (by decide +kernel)⟩
theorem lw_p60 : lw_okq (⟨"PumpSpellsModel", "tryChokes", "(III)V"⟩, 23) := ⟨⟨by decide +kernel, by decide +kernel⟩, List.mem_of_getElem? (i := 810) (by decide +kernel), List.mem_of_getElem? (i := 1225) (by decide +kernel), List.mem_of_getElem? (i := 1226) (by decide +kernel)⟩
theorem lw_p61 : lw_okq (⟨"PumpSpellsModel", "tellParts", "(JJ)I"⟩, 23) := ⟨⟨by decide +kernel, by decide +kernel⟩, List.mem_of_getElem? (i := 810) (by decide +kernel), List.mem_of_getElem? (i := 1232) (by decide +kernel), List.mem_of_getElem? (i := 1233) (by decide +kernel)⟩
theorem lw_p62 : lw_okq (⟨"PumpSpellsModel", "countOf", "(I)I"⟩, 23) := ⟨⟨by decide +kernel, by decide +kernel⟩, List.mem_of_getElem? (i := 810) (by decide +kernel), List.mem_of_getElem? (i := 1269) (by decide +kernel), List.mem_of_getElem? (i := 1270) (by decide +kernel)⟩
theorem lw_p63 : lw_okq (⟨"PumpSpellsModel", "strengthOfAll", "()I"⟩, 23) := ⟨⟨by decide +kernel, by decide +kernel⟩, List.mem_of_getElem? (i := 810) (by decide +kernel), List.mem_of_getElem? (i := 1273) (by decide +kernel), List.mem_of_getElem? (i := 1274) (by decide +kernel)⟩
def lw_privs_4 : List (MethodName × Nat) := [(⟨"PumpSpellsModel", "areActs", "(I)Z"⟩, 23), (⟨"PumpSpellsModel", "layTried", "()V"⟩, 23), (⟨"PumpSpellsModel", "keeps", "(II)Z"⟩, 23), (⟨"PumpSpellsModel", "toRow", "(III)V"⟩, 23), (⟨"PumpSpellsModel", "turn", "(I)V"⟩, 23), (⟨"PumpSpellsModel", "lands", "(II)Z"⟩, 23), (⟨"PumpSpellsModel", "waterBy", "(II)I"⟩, 23), (⟨"PumpSpellsModel", "noPairs", "(I)I"⟩, 23), (⟨"PumpSpellsModel", "canAll", "(I)Z"⟩, 23), (⟨"PumpSpellsModel", "isSoAs", "(III)Z"⟩, 23), (⟨"PumpSpellsModel", "isSo", "(I)Z"⟩, 23), (⟨"PumpSpellsModel", "tellChances", "(IIIZ)I"⟩, 23), (⟨"PumpSpellsModel", "tryChokes", "(III)V"⟩, 23), (⟨"PumpSpellsModel", "tellParts", "(JJ)I"⟩, 23), (⟨"PumpSpellsModel", "countOf", "(I)I"⟩, 23), (⟨"PumpSpellsModel", "strengthOfAll", "()I"⟩, 23)]
theorem lw_r4 : ∀ q ∈ lw_privs_4, lw_okq q := List.forall_mem_cons.mpr ⟨lw_p48, List.forall_mem_cons.mpr ⟨lw_p49, List.forall_mem_cons.mpr ⟨lw_p50, List.forall_mem_cons.mpr ⟨lw_p51, List.forall_mem_cons.mpr ⟨lw_p52, List.forall_mem_cons.mpr ⟨lw_p53, List.forall_mem_cons.mpr ⟨lw_p54, List.forall_mem_cons.mpr ⟨lw_p55, List.forall_mem_cons.mpr ⟨lw_p56, List.forall_mem_cons.mpr ⟨lw_p57, List.forall_mem_cons.mpr ⟨lw_p58, List.forall_mem_cons.mpr ⟨lw_p59, List.forall_mem_cons.mpr ⟨lw_p60, List.forall_mem_cons.mpr ⟨lw_p61, List.forall_mem_cons.mpr ⟨lw_p62, List.forall_mem_cons.mpr ⟨lw_p63, fun _ h => absurd h List.not_mem_nil⟩⟩⟩⟩⟩⟩⟩⟩⟩⟩⟩⟩⟩⟩⟩⟩
theorem lw_p64 : lw_okq (⟨"PumpSpellsModel", "kindMany", "(I)I"⟩, 23) := ⟨⟨by decide +kernel, by decide +kernel⟩, List.mem_of_getElem? (i := 810) (by decide +kernel), List.mem_of_getElem? (i := 1277) (by decide +kernel), List.mem_of_getElem? (i := 1278) (by decide +kernel)⟩
theorem lw_p65 : lw_okq (⟨"PumpSpellsModel", "thereOf", "(I)I"⟩, 23) := ⟨⟨by decide +kernel, by decide +kernel⟩, List.mem_of_getElem? (i := 810) (by decide +kernel), List.mem_of_getElem? (i := 1281) (by decide +kernel), List.mem_of_getElem? (i := 1282) (by decide +kernel)⟩
def lw_privs_5 : List (MethodName × Nat) := [(⟨"PumpSpellsModel", "kindMany", "(I)I"⟩, 23), (⟨"PumpSpellsModel", "thereOf", "(I)I"⟩, 23)]
theorem lw_r5 : ∀ q ∈ lw_privs_5, lw_okq q := List.forall_mem_cons.mpr ⟨lw_p64, List.forall_mem_cons.mpr ⟨lw_p65, fun _ h => absurd h List.not_mem_nil⟩⟩
def lw_privs : List (MethodName × Nat) := lw_privs_1 ++ (lw_privs_2 ++ (lw_privs_3 ++ (lw_privs_4 ++ (lw_privs_5))))
def lw_tbl : List Cond := k2_sels lw_privs ++ tables_1
theorem lw_privs_ok : ∀ q ∈ lw_privs, lw_okq q := by
  show ∀ q ∈ lw_privs_1 ++ (lw_privs_2 ++ (lw_privs_3 ++ (lw_privs_4 ++ (lw_privs_5)))), lw_okq q
  exact List.forall_mem_append.mpr ⟨lw_r1, List.forall_mem_append.mpr ⟨lw_r2, List.forall_mem_append.mpr ⟨lw_r3, List.forall_mem_append.mpr ⟨lw_r4, lw_r5⟩⟩⟩⟩

-- ===== classes and fields =====
def RX0 : String := "PumpSpells$Reader"
def TX0 : u_T := fun k => match k with
  | 0 => ("PumpSpells$Reader", "read", "LPumpSpells$Ship;", true)
  | 1 => ("PumpSpells$Reader", "text", "LPumpSpells$Text;", false)
  | _ => ("PumpSpells$Reader", "place", "I", false)
def tyX0 : Nat → FieldType := fun k => match k with
  | 0 => .object "PumpSpells$Ship"
  | 1 => .object "PumpSpells$Text"
  | _ => .int
theorem nmX0 : ∀ a, a < 3 → ∀ b, b < 3 → a ≠ b → (TX0 a).2.1 ≠ (TX0 b).2.1 := by decide +kernel
theorem tyX0_ok : ∀ k, k < 3 → parseFieldDescriptor (TX0 k).2.2.1 = some (tyX0 k) := by decide +kernel
def RX1 : String := "PumpSpells$Row"
def TX1 : u_T := fun k => match k with
  | 0 => ("PumpSpells$Strip", "size", "I", false)
  | _ => ("PumpSpells$Row", "places", "[I", true)
def tyX1 : Nat → FieldType := fun k => match k with
  | 0 => .int
  | _ => .array .int
theorem nmX1 : ∀ a, a < 2 → ∀ b, b < 2 → a ≠ b → (TX1 a).2.1 ≠ (TX1 b).2.1 := by decide +kernel
theorem tyX1_ok : ∀ k, k < 2 → parseFieldDescriptor (TX1 k).2.2.1 = some (tyX1 k) := by decide +kernel
def RX2 : String := "PumpSpells$Search"
def TX2 : u_T := fun k => match k with
  | 0 => ("PumpSpells$Search", "best", "[I", true)
  | 1 => ("PumpSpells$Search", "least", "I", false)
  | 2 => ("PumpSpells$Search", "many", "I", false)
  | 3 => ("PumpSpells$Search", "first", "I", false)
  | 4 => ("PumpSpells$Search", "levels", "[LPumpSpells$Ship;", true)
  | 5 => ("PumpSpells$Search", "trail", "[I", true)
  | _ => ("PumpSpells$Search", "size", "I", false)
def tyX2 : Nat → FieldType := fun k => match k with
  | 0 => .array .int
  | 1 => .int
  | 2 => .int
  | 3 => .int
  | 4 => .array (.object "PumpSpells$Ship")
  | 5 => .array .int
  | _ => .int
theorem nmX2 : ∀ a, a < 7 → ∀ b, b < 7 → a ≠ b → (TX2 a).2.1 ≠ (TX2 b).2.1 := by decide +kernel
theorem tyX2_ok : ∀ k, k < 7 → parseFieldDescriptor (TX2 k).2.2.1 = some (tyX2 k) := by decide +kernel
def RX3 : String := "PumpSpells$Ship"
def TX3 : u_T := fun k => match k with
  | 0 => ("PumpSpells$Ship", "water", "I", false)
  | 1 => ("PumpSpells$Ship", "leak", "I", false)
  | 2 => ("PumpSpells$Ship", "cargo", "I", false)
  | 3 => ("PumpSpells$Ship", "thrown", "I", false)
  | 4 => ("PumpSpells$Ship", "hours", "I", false)
  | 5 => ("PumpSpells$Ship", "passed", "I", false)
  | 6 => ("PumpSpells$Ship", "choke", "I", false)
  | 7 => ("PumpSpells$Ship", "isSailSet", "Z", false)
  | 8 => ("PumpSpells$Ship", "gangs", "I", false)
  | 9 => ("PumpSpells$Ship", "kinds", "[I", true)
  | 10 => ("PumpSpells$Ship", "forces", "[I", true)
  | _ => ("PumpSpells$Ship", "strengths", "[I", true)
def tyX3 : Nat → FieldType := fun k => match k with
  | 0 => .int
  | 1 => .int
  | 2 => .int
  | 3 => .int
  | 4 => .int
  | 5 => .int
  | 6 => .int
  | 7 => .boolean
  | 8 => .int
  | 9 => .array .int
  | 10 => .array .int
  | _ => .array .int
theorem nmX3 : ∀ a, a < 12 → ∀ b, b < 12 → a ≠ b → (TX3 a).2.1 ≠ (TX3 b).2.1 := by decide +kernel
theorem tyX3_ok : ∀ k, k < 12 → parseFieldDescriptor (TX3 k).2.2.1 = some (tyX3 k) := by decide +kernel
def RX5 : String := "PumpSpells$Text"
def TX5 : u_T := fun k => match k with
  | 0 => ("PumpSpells$Strip", "size", "I", false)
  | _ => ("PumpSpells$Text", "bytes", "[B", true)
def tyX5 : Nat → FieldType := fun k => match k with
  | 0 => .int
  | _ => .array .byte
theorem nmX5 : ∀ a, a < 2 → ∀ b, b < 2 → a ≠ b → (TX5 a).2.1 ≠ (TX5 b).2.1 := by decide +kernel
theorem tyX5_ok : ∀ k, k < 2 → parseFieldDescriptor (TX5 k).2.2.1 = some (tyX5 k) := by decide +kernel
def RX6 : String := "PumpSpells$Voyage"
def TX6 : u_T := fun k => match k with
  | 0 => ("PumpSpells$Voyage", "ship", "LPumpSpells$Ship;", true)
  | 1 => ("PumpSpells$Voyage", "isThere", "Z", false)
  | _ => ("PumpSpells$Voyage", "past", "[I", true)
def tyX6 : Nat → FieldType := fun k => match k with
  | 0 => .object "PumpSpells$Ship"
  | 1 => .boolean
  | _ => .array .int
theorem nmX6 : ∀ a, a < 3 → ∀ b, b < 3 → a ≠ b → (TX6 a).2.1 ≠ (TX6 b).2.1 := by decide +kernel
theorem tyX6_ok : ∀ k, k < 3 → parseFieldDescriptor (TX6 k).2.2.1 = some (tyX6 k) := by decide +kernel
def RX7 : String := "PumpSpells"
def TX7 : u_T := fun k => match k with
  | 0 => ("PumpSpells", "rows", "[LPumpSpells$Row;", true)
  | 1 => ("PumpSpells", "texts", "[LPumpSpells$Text;", true)
  | 2 => ("PumpSpells", "now", "LPumpSpells$Voyage;", true)
  | 3 => ("PumpSpells", "kept", "[LPumpSpells$Voyage;", true)
  | 4 => ("PumpSpells", "ship", "LPumpSpells$Ship;", true)
  | 5 => ("PumpSpells", "aside", "LPumpSpells$Ship;", true)
  | 6 => ("PumpSpells", "reader", "LPumpSpells$Reader;", true)
  | 7 => ("PumpSpells", "search", "LPumpSpells$Search;", true)
  | 8 => ("PumpSpells", "trial", "[I", true)
  | 9 => ("PumpSpells", "answered", "[I", true)
  | 10 => ("PumpSpells", "latest", "I", false)
  | 11 => ("PumpSpells", "told", "I", false)
  | 12 => ("PumpSpells", "above", "J", false)
  | _ => ("PumpSpells", "below", "J", false)
def tyX7 : Nat → FieldType := fun k => match k with
  | 0 => .array (.object "PumpSpells$Row")
  | 1 => .array (.object "PumpSpells$Text")
  | 2 => .object "PumpSpells$Voyage"
  | 3 => .array (.object "PumpSpells$Voyage")
  | 4 => .object "PumpSpells$Ship"
  | 5 => .object "PumpSpells$Ship"
  | 6 => .object "PumpSpells$Reader"
  | 7 => .object "PumpSpells$Search"
  | 8 => .array .int
  | 9 => .array .int
  | 10 => .int
  | 11 => .int
  | 12 => .long
  | _ => .long
theorem nmX7 : ∀ a, a < 14 → ∀ b, b < 14 → a ≠ b → (TX7 a).2.1 ≠ (TX7 b).2.1 := by decide +kernel
theorem tyX7_ok : ∀ k, k < 14 → parseFieldDescriptor (TX7 k).2.2.1 = some (tyX7 k) := by decide +kernel
def RX8 : String := "PumpSpellsModel"
def TX8 : u_T := fun k => match k with
  | 0 => ("PumpSpellsModel", "row", "[I", true)
  | 1 => ("PumpSpellsModel", "gangs", "I", false)
  | 2 => ("PumpSpellsModel", "kinds", "[I", true)
  | 3 => ("PumpSpellsModel", "leak", "I", false)
  | 4 => ("PumpSpellsModel", "land", "I", false)
  | 5 => ("PumpSpellsModel", "sizes", "[I", true)
  | 6 => ("PumpSpellsModel", "items", "[I", true)
  | 7 => ("PumpSpellsModel", "lengths", "[I", true)
  | 8 => ("PumpSpellsModel", "bytes", "[I", true)
  | 9 => ("PumpSpellsModel", "asked", "I", false)
  | 10 => ("PumpSpellsModel", "upper", "J", false)
  | 11 => ("PumpSpellsModel", "lower", "J", false)
  | 12 => ("PumpSpellsModel", "finding", "I", false)
  | 13 => ("PumpSpellsModel", "findings", "[I", true)
  | 14 => ("PumpSpellsModel", "from", "I", false)
  | 15 => ("PumpSpellsModel", "place", "I", false)
  | 16 => ("PumpSpellsModel", "end", "I", false)
  | 17 => ("PumpSpellsModel", "readWater", "I", false)
  | 18 => ("PumpSpellsModel", "readLeak", "I", false)
  | 19 => ("PumpSpellsModel", "readCargo", "I", false)
  | 20 => ("PumpSpellsModel", "readLand", "I", false)
  | 21 => ("PumpSpellsModel", "readGangs", "[I", true)
  | _ => ("PumpSpellsModel", "readMany", "I", false)
def tyX8 : Nat → FieldType := fun k => match k with
  | 0 => .array .int
  | 1 => .int
  | 2 => .array .int
  | 3 => .int
  | 4 => .int
  | 5 => .array .int
  | 6 => .array .int
  | 7 => .array .int
  | 8 => .array .int
  | 9 => .int
  | 10 => .long
  | 11 => .long
  | 12 => .int
  | 13 => .array .int
  | 14 => .int
  | 15 => .int
  | 16 => .int
  | 17 => .int
  | 18 => .int
  | 19 => .int
  | 20 => .int
  | 21 => .array .int
  | _ => .int
theorem nmX8 : ∀ a, a < 23 → ∀ b, b < 23 → a ≠ b → (TX8 a).2.1 ≠ (TX8 b).2.1 := by decide +kernel
theorem tyX8_ok : ∀ k, k < 23 → parseFieldDescriptor (TX8 k).2.2.1 = some (tyX8 k) := by decide +kernel
abbrev ps_cl : List vw_C := [(RX0, TX0, 3), (RX1, TX1, 2), (RX2, TX2, 7), (RX3, TX3, 12), (RX5, TX5, 2), (RX6, TX6, 3), (RX7, TX7, 14), (RX8, TX8, 23)]
def ps_cn : List String := ["PumpSpells$Reader", "PumpSpells$Row", "PumpSpells$Search", "PumpSpells$Ship", "PumpSpells$Text", "PumpSpells$Voyage", "PumpSpells", "PumpSpellsModel", "PumpSpells$Strip", "PumpSpellsLaw", "java/lang/Integer", "java/lang/Math", "java/util/Arrays"]
