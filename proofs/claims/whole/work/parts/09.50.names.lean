-- ===== PART A: goes FIRST, ahead of the names: the tables' words, and 'selects' of the private methods out of them =====
/-- a private method of a class that the tables say can be made, by its rows of tables_1 -/
def lw_okq (q : MethodName × Nat) : Prop := (q.1.cls ≠ "java/lang/invoke/MethodHandle" ∧ q.1.cls ≠ "java/lang/invoke/VarHandle") ∧ Cond.instantiable q.1.cls q.2 ∈ tables_1 ∧ Cond.privateMethod q.1 ∈ tables_1 ∧ Cond.instanceMethod q.1 ∈ tables_1
theorem lw_p0 : lw_okq (⟨"SilentCourt", "refuse", "(I)Z"⟩, 15) := ⟨⟨by decide +kernel, by decide +kernel⟩, List.mem_of_getElem? (i := 20) (by decide +kernel), List.mem_of_getElem? (i := 468) (by decide +kernel), List.mem_of_getElem? (i := 469) (by decide +kernel)⟩
theorem lw_p1 : lw_okq (⟨"SilentCourt", "putBytes", "(I)V"⟩, 15) := ⟨⟨by decide +kernel, by decide +kernel⟩, List.mem_of_getElem? (i := 20) (by decide +kernel), List.mem_of_getElem? (i := 472) (by decide +kernel), List.mem_of_getElem? (i := 473) (by decide +kernel)⟩
theorem lw_p2 : lw_okq (⟨"SilentCourt", "takeTape", "()I"⟩, 15) := ⟨⟨by decide +kernel, by decide +kernel⟩, List.mem_of_getElem? (i := 20) (by decide +kernel), List.mem_of_getElem? (i := 484) (by decide +kernel), List.mem_of_getElem? (i := 485) (by decide +kernel)⟩
theorem lw_p3 : lw_okq (⟨"SilentCourt$Reader", "readLetters", "()V"⟩, 13) := ⟨⟨by decide +kernel, by decide +kernel⟩, List.mem_of_getElem? (i := 28) (by decide +kernel), List.mem_of_getElem? (i := 499) (by decide +kernel), List.mem_of_getElem? (i := 500) (by decide +kernel)⟩
theorem lw_p4 : lw_okq (⟨"SilentCourt$Reader", "readDigits", "()V"⟩, 13) := ⟨⟨by decide +kernel, by decide +kernel⟩, List.mem_of_getElem? (i := 28) (by decide +kernel), List.mem_of_getElem? (i := 505) (by decide +kernel), List.mem_of_getElem? (i := 506) (by decide +kernel)⟩
theorem lw_p5 : lw_okq (⟨"SilentCourt$HallText", "opening", "()Z"⟩, 4) := ⟨⟨by decide +kernel, by decide +kernel⟩, List.mem_of_getElem? (i := 115) (by decide +kernel), List.mem_of_getElem? (i := 513) (by decide +kernel), List.mem_of_getElem? (i := 514) (by decide +kernel)⟩
theorem lw_p6 : lw_okq (⟨"SilentCourt$HallText", "tells", "(LSilentCourt$Word;III)Z"⟩, 4) := ⟨⟨by decide +kernel, by decide +kernel⟩, List.mem_of_getElem? (i := 115) (by decide +kernel), List.mem_of_getElem? (i := 519) (by decide +kernel), List.mem_of_getElem? (i := 520) (by decide +kernel)⟩
theorem lw_p7 : lw_okq (⟨"SilentCourt$HallText", "statement", "()Z"⟩, 4) := ⟨⟨by decide +kernel, by decide +kernel⟩, List.mem_of_getElem? (i := 115) (by decide +kernel), List.mem_of_getElem? (i := 544) (by decide +kernel), List.mem_of_getElem? (i := 545) (by decide +kernel)⟩
theorem lw_p8 : lw_okq (⟨"SilentCourt$HallText", "begins", "(II)Z"⟩, 4) := ⟨⟨by decide +kernel, by decide +kernel⟩, List.mem_of_getElem? (i := 115) (by decide +kernel), List.mem_of_getElem? (i := 550) (by decide +kernel), List.mem_of_getElem? (i := 551) (by decide +kernel)⟩
theorem lw_p9 : lw_okq (⟨"SilentCourt$HallText", "person", "()Z"⟩, 4) := ⟨⟨by decide +kernel, by decide +kernel⟩, List.mem_of_getElem? (i := 115) (by decide +kernel), List.mem_of_getElem? (i := 555) (by decide +kernel), List.mem_of_getElem? (i := 556) (by decide +kernel)⟩
theorem lw_p10 : lw_okq (⟨"SilentCourt$HallText", "gives", "(I)Z"⟩, 4) := ⟨⟨by decide +kernel, by decide +kernel⟩, List.mem_of_getElem? (i := 115) (by decide +kernel), List.mem_of_getElem? (i := 559) (by decide +kernel), List.mem_of_getElem? (i := 560) (by decide +kernel)⟩
theorem lw_p11 : lw_okq (⟨"SilentCourt$HallText", "partyOf", "(I)Z"⟩, 4) := ⟨⟨by decide +kernel, by decide +kernel⟩, List.mem_of_getElem? (i := 115) (by decide +kernel), List.mem_of_getElem? (i := 577) (by decide +kernel), List.mem_of_getElem? (i := 578) (by decide +kernel)⟩
theorem lw_p12 : lw_okq (⟨"SilentCourt$HallText", "hatred", "()Z"⟩, 4) := ⟨⟨by decide +kernel, by decide +kernel⟩, List.mem_of_getElem? (i := 115) (by decide +kernel), List.mem_of_getElem? (i := 591) (by decide +kernel), List.mem_of_getElem? (i := 592) (by decide +kernel)⟩
theorem lw_p13 : lw_okq (⟨"SilentCourt$HallText", "pointTold", "()Z"⟩, 4) := ⟨⟨by decide +kernel, by decide +kernel⟩, List.mem_of_getElem? (i := 115) (by decide +kernel), List.mem_of_getElem? (i := 597) (by decide +kernel), List.mem_of_getElem? (i := 598) (by decide +kernel)⟩
theorem lw_p14 : lw_okq (⟨"SilentCourt$HallText", "sound", "()Z"⟩, 4) := ⟨⟨by decide +kernel, by decide +kernel⟩, List.mem_of_getElem? (i := 115) (by decide +kernel), List.mem_of_getElem? (i := 603) (by decide +kernel), List.mem_of_getElem? (i := 604) (by decide +kernel)⟩
theorem lw_p15 : lw_okq (⟨"SilentCourt$HallText", "muteTold", "()Z"⟩, 4) := ⟨⟨by decide +kernel, by decide +kernel⟩, List.mem_of_getElem? (i := 115) (by decide +kernel), List.mem_of_getElem? (i := 616) (by decide +kernel), List.mem_of_getElem? (i := 617) (by decide +kernel)⟩
def lw_privs_1 : List (MethodName × Nat) := [(⟨"SilentCourt", "refuse", "(I)Z"⟩, 15), (⟨"SilentCourt", "putBytes", "(I)V"⟩, 15), (⟨"SilentCourt", "takeTape", "()I"⟩, 15), (⟨"SilentCourt$Reader", "readLetters", "()V"⟩, 13), (⟨"SilentCourt$Reader", "readDigits", "()V"⟩, 13), (⟨"SilentCourt$HallText", "opening", "()Z"⟩, 4), (⟨"SilentCourt$HallText", "tells", "(LSilentCourt$Word;III)Z"⟩, 4), (⟨"SilentCourt$HallText", "statement", "()Z"⟩, 4), (⟨"SilentCourt$HallText", "begins", "(II)Z"⟩, 4), (⟨"SilentCourt$HallText", "person", "()Z"⟩, 4), (⟨"SilentCourt$HallText", "gives", "(I)Z"⟩, 4), (⟨"SilentCourt$HallText", "partyOf", "(I)Z"⟩, 4), (⟨"SilentCourt$HallText", "hatred", "()Z"⟩, 4), (⟨"SilentCourt$HallText", "pointTold", "()Z"⟩, 4), (⟨"SilentCourt$HallText", "sound", "()Z"⟩, 4), (⟨"SilentCourt$HallText", "muteTold", "()Z"⟩, 4)]
theorem lw_r1 : ∀ q ∈ lw_privs_1, lw_okq q := List.forall_mem_cons.mpr ⟨lw_p0, List.forall_mem_cons.mpr ⟨lw_p1, List.forall_mem_cons.mpr ⟨lw_p2, List.forall_mem_cons.mpr ⟨lw_p3, List.forall_mem_cons.mpr ⟨lw_p4, List.forall_mem_cons.mpr ⟨lw_p5, List.forall_mem_cons.mpr ⟨lw_p6, List.forall_mem_cons.mpr ⟨lw_p7, List.forall_mem_cons.mpr ⟨lw_p8, List.forall_mem_cons.mpr ⟨lw_p9, List.forall_mem_cons.mpr ⟨lw_p10, List.forall_mem_cons.mpr ⟨lw_p11, List.forall_mem_cons.mpr ⟨lw_p12, List.forall_mem_cons.mpr ⟨lw_p13, List.forall_mem_cons.mpr ⟨lw_p14, List.forall_mem_cons.mpr ⟨lw_p15, fun _ h => absurd h List.not_mem_nil⟩⟩⟩⟩⟩⟩⟩⟩⟩⟩⟩⟩⟩⟩⟩⟩
theorem lw_p16 : lw_okq (⟨"SilentCourt$HallText", "worth", "(Z)Z"⟩, 4) := ⟨⟨by decide +kernel, by decide +kernel⟩, List.mem_of_getElem? (i := 115) (by decide +kernel), List.mem_of_getElem? (i := 626) (by decide +kernel), List.mem_of_getElem? (i := 627) (by decide +kernel)⟩
theorem lw_p17 : lw_okq (⟨"SilentCourt$Grammar", "fact", "(I)Z"⟩, 5) := ⟨⟨by decide +kernel, by decide +kernel⟩, List.mem_of_getElem? (i := 90) (by decide +kernel), List.mem_of_getElem? (i := 638) (by decide +kernel), List.mem_of_getElem? (i := 639) (by decide +kernel)⟩
theorem lw_p18 : lw_okq (⟨"SilentCourt$Grammar", "goIn", "(I)Z"⟩, 5) := ⟨⟨by decide +kernel, by decide +kernel⟩, List.mem_of_getElem? (i := 90) (by decide +kernel), List.mem_of_getElem? (i := 644) (by decide +kernel), List.mem_of_getElem? (i := 645) (by decide +kernel)⟩
theorem lw_p19 : lw_okq (⟨"SilentCourt$Grammar", "emit", "(I)Z"⟩, 5) := ⟨⟨by decide +kernel, by decide +kernel⟩, List.mem_of_getElem? (i := 90) (by decide +kernel), List.mem_of_getElem? (i := 650) (by decide +kernel), List.mem_of_getElem? (i := 651) (by decide +kernel)⟩
theorem lw_p20 : lw_okq (⟨"SilentCourt$Grammar", "part", "(I)Z"⟩, 5) := ⟨⟨by decide +kernel, by decide +kernel⟩, List.mem_of_getElem? (i := 90) (by decide +kernel), List.mem_of_getElem? (i := 659) (by decide +kernel), List.mem_of_getElem? (i := 660) (by decide +kernel)⟩
theorem lw_p21 : lw_okq (⟨"SilentCourt$Grammar", "pair", "(I)Z"⟩, 5) := ⟨⟨by decide +kernel, by decide +kernel⟩, List.mem_of_getElem? (i := 90) (by decide +kernel), List.mem_of_getElem? (i := 668) (by decide +kernel), List.mem_of_getElem? (i := 669) (by decide +kernel)⟩
theorem lw_p22 : lw_okq (⟨"SilentCourt$Grammar", "joiner", "(I)I"⟩, 5) := ⟨⟨by decide +kernel, by decide +kernel⟩, List.mem_of_getElem? (i := 90) (by decide +kernel), List.mem_of_getElem? (i := 676) (by decide +kernel), List.mem_of_getElem? (i := 677) (by decide +kernel)⟩
theorem lw_p23 : lw_okq (⟨"SilentCourt$Bench", "push", "(I)V"⟩, 12) := ⟨⟨by decide +kernel, by decide +kernel⟩, List.mem_of_getElem? (i := 323) (by decide +kernel), List.mem_of_getElem? (i := 801) (by decide +kernel), List.mem_of_getElem? (i := 802) (by decide +kernel)⟩
theorem lw_p24 : lw_okq (⟨"SilentCourt$Bench", "pop", "()I"⟩, 12) := ⟨⟨by decide +kernel, by decide +kernel⟩, List.mem_of_getElem? (i := 323) (by decide +kernel), List.mem_of_getElem? (i := 805) (by decide +kernel), List.mem_of_getElem? (i := 806) (by decide +kernel)⟩
theorem lw_p25 : lw_okq (⟨"SilentCourt$Bench", "isBeside", "(I)Z"⟩, 12) := ⟨⟨by decide +kernel, by decide +kernel⟩, List.mem_of_getElem? (i := 323) (by decide +kernel), List.mem_of_getElem? (i := 809) (by decide +kernel), List.mem_of_getElem? (i := 810) (by decide +kernel)⟩
theorem lw_p26 : lw_okq (⟨"SilentCourt$Bench", "sideOf", "(I)I"⟩, 12) := ⟨⟨by decide +kernel, by decide +kernel⟩, List.mem_of_getElem? (i := 323) (by decide +kernel), List.mem_of_getElem? (i := 884) (by decide +kernel), List.mem_of_getElem? (i := 885) (by decide +kernel)⟩
theorem lw_p27 : lw_okq (⟨"SilentCourt$Counsel", "seatAside", "(LSilentCourt$Hall;LSilentCourt$Sitting;II)Z"⟩, 2) := ⟨⟨by decide +kernel, by decide +kernel⟩, List.mem_of_getElem? (i := 369) (by decide +kernel), List.mem_of_getElem? (i := 933) (by decide +kernel), List.mem_of_getElem? (i := 934) (by decide +kernel)⟩
theorem lw_p28 : lw_okq (⟨"SilentCourt$Counsel", "swingFor", "(I)I"⟩, 2) := ⟨⟨by decide +kernel, by decide +kernel⟩, List.mem_of_getElem? (i := 369) (by decide +kernel), List.mem_of_getElem? (i := 960) (by decide +kernel), List.mem_of_getElem? (i := 961) (by decide +kernel)⟩
theorem lw_p29 : lw_okq (⟨"SilentCourt", "passMinute", "()I"⟩, 15) := ⟨⟨by decide +kernel, by decide +kernel⟩, List.mem_of_getElem? (i := 20) (by decide +kernel), List.mem_of_getElem? (i := 1024) (by decide +kernel), List.mem_of_getElem? (i := 1025) (by decide +kernel)⟩
theorem lw_p30 : lw_okq (⟨"SilentCourt", "drawOfHundred", "()I"⟩, 15) := ⟨⟨by decide +kernel, by decide +kernel⟩, List.mem_of_getElem? (i := 20) (by decide +kernel), List.mem_of_getElem? (i := 1029) (by decide +kernel), List.mem_of_getElem? (i := 1030) (by decide +kernel)⟩
theorem lw_p31 : lw_okq (⟨"SilentCourt$Question", "isOfTest", "()Z"⟩, 4) := ⟨⟨by decide +kernel, by decide +kernel⟩, List.mem_of_getElem? (i := 382) (by decide +kernel), List.mem_of_getElem? (i := 1088) (by decide +kernel), List.mem_of_getElem? (i := 1089) (by decide +kernel)⟩
def lw_privs_2 : List (MethodName × Nat) := [(⟨"SilentCourt$HallText", "worth", "(Z)Z"⟩, 4), (⟨"SilentCourt$Grammar", "fact", "(I)Z"⟩, 5), (⟨"SilentCourt$Grammar", "goIn", "(I)Z"⟩, 5), (⟨"SilentCourt$Grammar", "emit", "(I)Z"⟩, 5), (⟨"SilentCourt$Grammar", "part", "(I)Z"⟩, 5), (⟨"SilentCourt$Grammar", "pair", "(I)Z"⟩, 5), (⟨"SilentCourt$Grammar", "joiner", "(I)I"⟩, 5), (⟨"SilentCourt$Bench", "push", "(I)V"⟩, 12), (⟨"SilentCourt$Bench", "pop", "()I"⟩, 12), (⟨"SilentCourt$Bench", "isBeside", "(I)Z"⟩, 12), (⟨"SilentCourt$Bench", "sideOf", "(I)I"⟩, 12), (⟨"SilentCourt$Counsel", "seatAside", "(LSilentCourt$Hall;LSilentCourt$Sitting;II)Z"⟩, 2), (⟨"SilentCourt$Counsel", "swingFor", "(I)I"⟩, 2), (⟨"SilentCourt", "passMinute", "()I"⟩, 15), (⟨"SilentCourt", "drawOfHundred", "()I"⟩, 15), (⟨"SilentCourt$Question", "isOfTest", "()Z"⟩, 4)]
theorem lw_r2 : ∀ q ∈ lw_privs_2, lw_okq q := List.forall_mem_cons.mpr ⟨lw_p16, List.forall_mem_cons.mpr ⟨lw_p17, List.forall_mem_cons.mpr ⟨lw_p18, List.forall_mem_cons.mpr ⟨lw_p19, List.forall_mem_cons.mpr ⟨lw_p20, List.forall_mem_cons.mpr ⟨lw_p21, List.forall_mem_cons.mpr ⟨lw_p22, List.forall_mem_cons.mpr ⟨lw_p23, List.forall_mem_cons.mpr ⟨lw_p24, List.forall_mem_cons.mpr ⟨lw_p25, List.forall_mem_cons.mpr ⟨lw_p26, List.forall_mem_cons.mpr ⟨lw_p27, List.forall_mem_cons.mpr ⟨lw_p28, List.forall_mem_cons.mpr ⟨lw_p29, List.forall_mem_cons.mpr ⟨lw_p30, List.forall_mem_cons.mpr ⟨lw_p31, fun _ h => absurd h List.not_mem_nil⟩⟩⟩⟩⟩⟩⟩⟩⟩⟩⟩⟩⟩⟩⟩⟩
theorem lw_p32 : lw_okq (⟨"SilentCourt$Question", "join", "(JII)J"⟩, 4) := ⟨⟨by decide +kernel, by decide +kernel⟩, List.mem_of_getElem? (i := 382) (by decide +kernel), List.mem_of_getElem? (i := 1110) (by decide +kernel), List.mem_of_getElem? (i := 1111) (by decide +kernel)⟩
theorem lw_p33 : lw_okq (⟨"SilentCourtModel", "hallTold", "()V"⟩, 111) := ⟨⟨by decide +kernel, by decide +kernel⟩, List.mem_of_getElem? (i := 1165) (by decide +kernel), List.mem_of_getElem? (i := 1519) (by decide +kernel), List.mem_of_getElem? (i := 1520) (by decide +kernel)⟩
theorem lw_p34 : lw_okq (⟨"SilentCourtModel", "asks", "([C)V"⟩, 111) := ⟨⟨by decide +kernel, by decide +kernel⟩, List.mem_of_getElem? (i := 1165) (by decide +kernel), List.mem_of_getElem? (i := 1523) (by decide +kernel), List.mem_of_getElem? (i := 1524) (by decide +kernel)⟩
theorem lw_p35 : lw_okq (⟨"SilentCourtModel", "takes", "([C)Z"⟩, 111) := ⟨⟨by decide +kernel, by decide +kernel⟩, List.mem_of_getElem? (i := 1165) (by decide +kernel), List.mem_of_getElem? (i := 1527) (by decide +kernel), List.mem_of_getElem? (i := 1528) (by decide +kernel)⟩
theorem lw_p36 : lw_okq (⟨"SilentCourtModel", "isHere", "([C)Z"⟩, 111) := ⟨⟨by decide +kernel, by decide +kernel⟩, List.mem_of_getElem? (i := 1165) (by decide +kernel), List.mem_of_getElem? (i := 1531) (by decide +kernel), List.mem_of_getElem? (i := 1532) (by decide +kernel)⟩
theorem lw_p37 : lw_okq (⟨"SilentCourtModel", "look", "()I"⟩, 111) := ⟨⟨by decide +kernel, by decide +kernel⟩, List.mem_of_getElem? (i := 1165) (by decide +kernel), List.mem_of_getElem? (i := 1535) (by decide +kernel), List.mem_of_getElem? (i := 1536) (by decide +kernel)⟩
theorem lw_p38 : lw_okq (⟨"SilentCourtModel", "fail", "(II)V"⟩, 111) := ⟨⟨by decide +kernel, by decide +kernel⟩, List.mem_of_getElem? (i := 1165) (by decide +kernel), List.mem_of_getElem? (i := 1542) (by decide +kernel), List.mem_of_getElem? (i := 1543) (by decide +kernel)⟩
theorem lw_p39 : lw_okq (⟨"SilentCourtModel", "number", "(II)I"⟩, 111) := ⟨⟨by decide +kernel, by decide +kernel⟩, List.mem_of_getElem? (i := 1165) (by decide +kernel), List.mem_of_getElem? (i := 1546) (by decide +kernel), List.mem_of_getElem? (i := 1547) (by decide +kernel)⟩
theorem lw_p40 : lw_okq (⟨"SilentCourtModel", "asksSign", "(I)V"⟩, 111) := ⟨⟨by decide +kernel, by decide +kernel⟩, List.mem_of_getElem? (i := 1165) (by decide +kernel), List.mem_of_getElem? (i := 1556) (by decide +kernel), List.mem_of_getElem? (i := 1557) (by decide +kernel)⟩
theorem lw_p41 : lw_okq (⟨"SilentCourtModel", "takesSign", "(I)Z"⟩, 111) := ⟨⟨by decide +kernel, by decide +kernel⟩, List.mem_of_getElem? (i := 1165) (by decide +kernel), List.mem_of_getElem? (i := 1560) (by decide +kernel), List.mem_of_getElem? (i := 1561) (by decide +kernel)⟩
theorem lw_p42 : lw_okq (⟨"SilentCourtModel", "statementTold", "()V"⟩, 111) := ⟨⟨by decide +kernel, by decide +kernel⟩, List.mem_of_getElem? (i := 1165) (by decide +kernel), List.mem_of_getElem? (i := 1564) (by decide +kernel), List.mem_of_getElem? (i := 1565) (by decide +kernel)⟩
theorem lw_p43 : lw_okq (⟨"SilentCourtModel", "personTold", "(I)V"⟩, 111) := ⟨⟨by decide +kernel, by decide +kernel⟩, List.mem_of_getElem? (i := 1165) (by decide +kernel), List.mem_of_getElem? (i := 1568) (by decide +kernel), List.mem_of_getElem? (i := 1569) (by decide +kernel)⟩
theorem lw_p44 : lw_okq (⟨"SilentCourtModel", "isFull", "(III)Z"⟩, 111) := ⟨⟨by decide +kernel, by decide +kernel⟩, List.mem_of_getElem? (i := 1165) (by decide +kernel), List.mem_of_getElem? (i := 1572) (by decide +kernel), List.mem_of_getElem? (i := 1573) (by decide +kernel)⟩
theorem lw_p45 : lw_okq (⟨"SilentCourtModel", "newName", "()J"⟩, 111) := ⟨⟨by decide +kernel, by decide +kernel⟩, List.mem_of_getElem? (i := 1165) (by decide +kernel), List.mem_of_getElem? (i := 1576) (by decide +kernel), List.mem_of_getElem? (i := 1577) (by decide +kernel)⟩
theorem lw_p46 : lw_okq (⟨"SilentCourtModel", "name", "()J"⟩, 111) := ⟨⟨by decide +kernel, by decide +kernel⟩, List.mem_of_getElem? (i := 1165) (by decide +kernel), List.mem_of_getElem? (i := 1580) (by decide +kernel), List.mem_of_getElem? (i := 1581) (by decide +kernel)⟩
theorem lw_p47 : lw_okq (⟨"SilentCourtModel", "isOwnHere", "()Z"⟩, 111) := ⟨⟨by decide +kernel, by decide +kernel⟩, List.mem_of_getElem? (i := 1165) (by decide +kernel), List.mem_of_getElem? (i := 1584) (by decide +kernel), List.mem_of_getElem? (i := 1585) (by decide +kernel)⟩
def lw_privs_3 : List (MethodName × Nat) := [(⟨"SilentCourt$Question", "join", "(JII)J"⟩, 4), (⟨"SilentCourtModel", "hallTold", "()V"⟩, 111), (⟨"SilentCourtModel", "asks", "([C)V"⟩, 111), (⟨"SilentCourtModel", "takes", "([C)Z"⟩, 111), (⟨"SilentCourtModel", "isHere", "([C)Z"⟩, 111), (⟨"SilentCourtModel", "look", "()I"⟩, 111), (⟨"SilentCourtModel", "fail", "(II)V"⟩, 111), (⟨"SilentCourtModel", "number", "(II)I"⟩, 111), (⟨"SilentCourtModel", "asksSign", "(I)V"⟩, 111), (⟨"SilentCourtModel", "takesSign", "(I)Z"⟩, 111), (⟨"SilentCourtModel", "statementTold", "()V"⟩, 111), (⟨"SilentCourtModel", "personTold", "(I)V"⟩, 111), (⟨"SilentCourtModel", "isFull", "(III)Z"⟩, 111), (⟨"SilentCourtModel", "newName", "()J"⟩, 111), (⟨"SilentCourtModel", "name", "()J"⟩, 111), (⟨"SilentCourtModel", "isOwnHere", "()Z"⟩, 111)]
theorem lw_r3 : ∀ q ∈ lw_privs_3, lw_okq q := List.forall_mem_cons.mpr ⟨lw_p32, List.forall_mem_cons.mpr ⟨lw_p33, List.forall_mem_cons.mpr ⟨lw_p34, List.forall_mem_cons.mpr ⟨lw_p35, List.forall_mem_cons.mpr ⟨lw_p36, List.forall_mem_cons.mpr ⟨lw_p37, List.forall_mem_cons.mpr ⟨lw_p38, List.forall_mem_cons.mpr ⟨lw_p39, List.forall_mem_cons.mpr ⟨lw_p40, List.forall_mem_cons.mpr ⟨lw_p41, List.forall_mem_cons.mpr ⟨lw_p42, List.forall_mem_cons.mpr ⟨lw_p43, List.forall_mem_cons.mpr ⟨lw_p44, List.forall_mem_cons.mpr ⟨lw_p45, List.forall_mem_cons.mpr ⟨lw_p46, List.forall_mem_cons.mpr ⟨lw_p47, fun _ h => absurd h List.not_mem_nil⟩⟩⟩⟩⟩⟩⟩⟩⟩⟩⟩⟩⟩⟩⟩⟩
theorem lw_p48 : lw_okq (⟨"SilentCourtModel", "nameOf", "(IJ)I"⟩, 111) := ⟨⟨by decide +kernel, by decide +kernel⟩, List.mem_of_getElem? (i := 1165) (by decide +kernel), List.mem_of_getElem? (i := 1590) (by decide +kernel), List.mem_of_getElem? (i := 1591) (by decide +kernel)⟩
theorem lw_p49 : lw_okq (⟨"SilentCourtModel", "partyHere", "()I"⟩, 111) := ⟨⟨by decide +kernel, by decide +kernel⟩, List.mem_of_getElem? (i := 1165) (by decide +kernel), List.mem_of_getElem? (i := 1594) (by decide +kernel), List.mem_of_getElem? (i := 1595) (by decide +kernel)⟩
theorem lw_p50 : lw_okq (⟨"SilentCourtModel", "hatredTold", "(I)V"⟩, 111) := ⟨⟨by decide +kernel, by decide +kernel⟩, List.mem_of_getElem? (i := 1165) (by decide +kernel), List.mem_of_getElem? (i := 1598) (by decide +kernel), List.mem_of_getElem? (i := 1599) (by decide +kernel)⟩
theorem lw_p51 : lw_okq (⟨"SilentCourtModel", "sitterHere", "()I"⟩, 111) := ⟨⟨by decide +kernel, by decide +kernel⟩, List.mem_of_getElem? (i := 1165) (by decide +kernel), List.mem_of_getElem? (i := 1602) (by decide +kernel), List.mem_of_getElem? (i := 1603) (by decide +kernel)⟩
theorem lw_p52 : lw_okq (⟨"SilentCourtModel", "pointTold", "(I)V"⟩, 111) := ⟨⟨by decide +kernel, by decide +kernel⟩, List.mem_of_getElem? (i := 1165) (by decide +kernel), List.mem_of_getElem? (i := 1606) (by decide +kernel), List.mem_of_getElem? (i := 1607) (by decide +kernel)⟩
theorem lw_p53 : lw_okq (⟨"SilentCourtModel", "noiseTold", "(I)V"⟩, 111) := ⟨⟨by decide +kernel, by decide +kernel⟩, List.mem_of_getElem? (i := 1165) (by decide +kernel), List.mem_of_getElem? (i := 1610) (by decide +kernel), List.mem_of_getElem? (i := 1611) (by decide +kernel)⟩
theorem lw_p54 : lw_okq (⟨"SilentCourtModel", "muteTold", "(I)V"⟩, 111) := ⟨⟨by decide +kernel, by decide +kernel⟩, List.mem_of_getElem? (i := 1165) (by decide +kernel), List.mem_of_getElem? (i := 1614) (by decide +kernel), List.mem_of_getElem? (i := 1615) (by decide +kernel)⟩
theorem lw_p55 : lw_okq (⟨"SilentCourtModel", "sumIsTold", "(II)V"⟩, 111) := ⟨⟨by decide +kernel, by decide +kernel⟩, List.mem_of_getElem? (i := 1165) (by decide +kernel), List.mem_of_getElem? (i := 1618) (by decide +kernel), List.mem_of_getElem? (i := 1619) (by decide +kernel)⟩
theorem lw_p56 : lw_okq (⟨"SilentCourtModel", "sumsTold", "()V"⟩, 111) := ⟨⟨by decide +kernel, by decide +kernel⟩, List.mem_of_getElem? (i := 1165) (by decide +kernel), List.mem_of_getElem? (i := 1622) (by decide +kernel), List.mem_of_getElem? (i := 1623) (by decide +kernel)⟩
theorem lw_p57 : lw_okq (⟨"SilentCourtModel", "onePart", "()V"⟩, 111) := ⟨⟨by decide +kernel, by decide +kernel⟩, List.mem_of_getElem? (i := 1165) (by decide +kernel), List.mem_of_getElem? (i := 1626) (by decide +kernel), List.mem_of_getElem? (i := 1627) (by decide +kernel)⟩
theorem lw_p58 : lw_okq (⟨"SilentCourtModel", "opens", "(II)V"⟩, 111) := ⟨⟨by decide +kernel, by decide +kernel⟩, List.mem_of_getElem? (i := 1165) (by decide +kernel), List.mem_of_getElem? (i := 1630) (by decide +kernel), List.mem_of_getElem? (i := 1631) (by decide +kernel)⟩
theorem lw_p59 : lw_okq (⟨"SilentCourtModel", "code", "(I)V"⟩, 111) := ⟨⟨by decide +kernel, by decide +kernel⟩, List.mem_of_getElem? (i := 1165) (by decide +kernel), List.mem_of_getElem? (i := 1634) (by decide +kernel), List.mem_of_getElem? (i := 1635) (by decide +kernel)⟩
theorem lw_p60 : lw_okq (⟨"SilentCourtModel", "goesOn", "()Z"⟩, 111) := ⟨⟨by decide +kernel, by decide +kernel⟩, List.mem_of_getElem? (i := 1165) (by decide +kernel), List.mem_of_getElem? (i := 1638) (by decide +kernel), List.mem_of_getElem? (i := 1639) (by decide +kernel)⟩
theorem lw_p61 : lw_okq (⟨"SilentCourtModel", "waitsLast", "()I"⟩, 111) := ⟨⟨by decide +kernel, by decide +kernel⟩, List.mem_of_getElem? (i := 1165) (by decide +kernel), List.mem_of_getElem? (i := 1642) (by decide +kernel), List.mem_of_getElem? (i := 1643) (by decide +kernel)⟩
theorem lw_p62 : lw_okq (⟨"SilentCourtModel", "isMark", "(I)Z"⟩, 111) := ⟨⟨by decide +kernel, by decide +kernel⟩, List.mem_of_getElem? (i := 1165) (by decide +kernel), List.mem_of_getElem? (i := 1646) (by decide +kernel), List.mem_of_getElem? (i := 1647) (by decide +kernel)⟩
theorem lw_p63 : lw_okq (⟨"SilentCourtModel", "dropsToMark", "()V"⟩, 111) := ⟨⟨by decide +kernel, by decide +kernel⟩, List.mem_of_getElem? (i := 1165) (by decide +kernel), List.mem_of_getElem? (i := 1650) (by decide +kernel), List.mem_of_getElem? (i := 1651) (by decide +kernel)⟩
def lw_privs_4 : List (MethodName × Nat) := [(⟨"SilentCourtModel", "nameOf", "(IJ)I"⟩, 111), (⟨"SilentCourtModel", "partyHere", "()I"⟩, 111), (⟨"SilentCourtModel", "hatredTold", "(I)V"⟩, 111), (⟨"SilentCourtModel", "sitterHere", "()I"⟩, 111), (⟨"SilentCourtModel", "pointTold", "(I)V"⟩, 111), (⟨"SilentCourtModel", "noiseTold", "(I)V"⟩, 111), (⟨"SilentCourtModel", "muteTold", "(I)V"⟩, 111), (⟨"SilentCourtModel", "sumIsTold", "(II)V"⟩, 111), (⟨"SilentCourtModel", "sumsTold", "()V"⟩, 111), (⟨"SilentCourtModel", "onePart", "()V"⟩, 111), (⟨"SilentCourtModel", "opens", "(II)V"⟩, 111), (⟨"SilentCourtModel", "code", "(I)V"⟩, 111), (⟨"SilentCourtModel", "goesOn", "()Z"⟩, 111), (⟨"SilentCourtModel", "waitsLast", "()I"⟩, 111), (⟨"SilentCourtModel", "isMark", "(I)Z"⟩, 111), (⟨"SilentCourtModel", "dropsToMark", "()V"⟩, 111)]
theorem lw_r4 : ∀ q ∈ lw_privs_4, lw_okq q := List.forall_mem_cons.mpr ⟨lw_p48, List.forall_mem_cons.mpr ⟨lw_p49, List.forall_mem_cons.mpr ⟨lw_p50, List.forall_mem_cons.mpr ⟨lw_p51, List.forall_mem_cons.mpr ⟨lw_p52, List.forall_mem_cons.mpr ⟨lw_p53, List.forall_mem_cons.mpr ⟨lw_p54, List.forall_mem_cons.mpr ⟨lw_p55, List.forall_mem_cons.mpr ⟨lw_p56, List.forall_mem_cons.mpr ⟨lw_p57, List.forall_mem_cons.mpr ⟨lw_p58, List.forall_mem_cons.mpr ⟨lw_p59, List.forall_mem_cons.mpr ⟨lw_p60, List.forall_mem_cons.mpr ⟨lw_p61, List.forall_mem_cons.mpr ⟨lw_p62, List.forall_mem_cons.mpr ⟨lw_p63, fun _ h => absurd h List.not_mem_nil⟩⟩⟩⟩⟩⟩⟩⟩⟩⟩⟩⟩⟩⟩⟩⟩
theorem lw_p64 : lw_okq (⟨"SilentCourtModel", "drops", "()V"⟩, 111) := ⟨⟨by decide +kernel, by decide +kernel⟩, List.mem_of_getElem? (i := 1165) (by decide +kernel), List.mem_of_getElem? (i := 1654) (by decide +kernel), List.mem_of_getElem? (i := 1655) (by decide +kernel)⟩
theorem lw_p65 : lw_okq (⟨"SilentCourtModel", "isOn", "(I)Z"⟩, 111) := ⟨⟨by decide +kernel, by decide +kernel⟩, List.mem_of_getElem? (i := 1165) (by decide +kernel), List.mem_of_getElem? (i := 1658) (by decide +kernel), List.mem_of_getElem? (i := 1659) (by decide +kernel)⟩
theorem lw_p66 : lw_okq (⟨"SilentCourtModel", "stands", "()V"⟩, 111) := ⟨⟨by decide +kernel, by decide +kernel⟩, List.mem_of_getElem? (i := 1165) (by decide +kernel), List.mem_of_getElem? (i := 1662) (by decide +kernel), List.mem_of_getElem? (i := 1663) (by decide +kernel)⟩
theorem lw_p67 : lw_okq (⟨"SilentCourtModel", "seatMany", "()I"⟩, 111) := ⟨⟨by decide +kernel, by decide +kernel⟩, List.mem_of_getElem? (i := 1165) (by decide +kernel), List.mem_of_getElem? (i := 1674) (by decide +kernel), List.mem_of_getElem? (i := 1675) (by decide +kernel)⟩
theorem lw_p68 : lw_okq (⟨"SilentCourtModel", "peopleMany", "()I"⟩, 111) := ⟨⟨by decide +kernel, by decide +kernel⟩, List.mem_of_getElem? (i := 1165) (by decide +kernel), List.mem_of_getElem? (i := 1678) (by decide +kernel), List.mem_of_getElem? (i := 1679) (by decide +kernel)⟩
theorem lw_p69 : lw_okq (⟨"SilentCourtModel", "pointMany", "()I"⟩, 111) := ⟨⟨by decide +kernel, by decide +kernel⟩, List.mem_of_getElem? (i := 1165) (by decide +kernel), List.mem_of_getElem? (i := 1682) (by decide +kernel), List.mem_of_getElem? (i := 1683) (by decide +kernel)⟩
theorem lw_p70 : lw_okq (⟨"SilentCourtModel", "muteMany", "()I"⟩, 111) := ⟨⟨by decide +kernel, by decide +kernel⟩, List.mem_of_getElem? (i := 1165) (by decide +kernel), List.mem_of_getElem? (i := 1686) (by decide +kernel), List.mem_of_getElem? (i := 1687) (by decide +kernel)⟩
theorem lw_p71 : lw_okq (⟨"SilentCourtModel", "hiredMany", "()I"⟩, 111) := ⟨⟨by decide +kernel, by decide +kernel⟩, List.mem_of_getElem? (i := 1165) (by decide +kernel), List.mem_of_getElem? (i := 1690) (by decide +kernel), List.mem_of_getElem? (i := 1691) (by decide +kernel)⟩
theorem lw_p72 : lw_okq (⟨"SilentCourtModel", "doesSit", "(I)Z"⟩, 111) := ⟨⟨by decide +kernel, by decide +kernel⟩, List.mem_of_getElem? (i := 1165) (by decide +kernel), List.mem_of_getElem? (i := 1694) (by decide +kernel), List.mem_of_getElem? (i := 1695) (by decide +kernel)⟩
theorem lw_p73 : lw_okq (⟨"SilentCourtModel", "seatOf", "(I)I"⟩, 111) := ⟨⟨by decide +kernel, by decide +kernel⟩, List.mem_of_getElem? (i := 1165) (by decide +kernel), List.mem_of_getElem? (i := 1699) (by decide +kernel), List.mem_of_getElem? (i := 1700) (by decide +kernel)⟩
theorem lw_p74 : lw_okq (⟨"SilentCourtModel", "partyOf", "(I)I"⟩, 111) := ⟨⟨by decide +kernel, by decide +kernel⟩, List.mem_of_getElem? (i := 1165) (by decide +kernel), List.mem_of_getElem? (i := 1718) (by decide +kernel), List.mem_of_getElem? (i := 1719) (by decide +kernel)⟩
theorem lw_p75 : lw_okq (⟨"SilentCourtModel", "isMute", "(I)Z"⟩, 111) := ⟨⟨by decide +kernel, by decide +kernel⟩, List.mem_of_getElem? (i := 1165) (by decide +kernel), List.mem_of_getElem? (i := 1722) (by decide +kernel), List.mem_of_getElem? (i := 1723) (by decide +kernel)⟩
theorem lw_p76 : lw_okq (⟨"SilentCourtModel", "keepsOf", "(I)I"⟩, 111) := ⟨⟨by decide +kernel, by decide +kernel⟩, List.mem_of_getElem? (i := 1165) (by decide +kernel), List.mem_of_getElem? (i := 1726) (by decide +kernel), List.mem_of_getElem? (i := 1727) (by decide +kernel)⟩
theorem lw_p77 : lw_okq (⟨"SilentCourtModel", "itchesOf", "(I)I"⟩, 111) := ⟨⟨by decide +kernel, by decide +kernel⟩, List.mem_of_getElem? (i := 1165) (by decide +kernel), List.mem_of_getElem? (i := 1730) (by decide +kernel), List.mem_of_getElem? (i := 1731) (by decide +kernel)⟩
theorem lw_p78 : lw_okq (⟨"SilentCourtModel", "nearOf", "(I)I"⟩, 111) := ⟨⟨by decide +kernel, by decide +kernel⟩, List.mem_of_getElem? (i := 1165) (by decide +kernel), List.mem_of_getElem? (i := 1734) (by decide +kernel), List.mem_of_getElem? (i := 1735) (by decide +kernel)⟩
theorem lw_p79 : lw_okq (⟨"SilentCourtModel", "isBeside", "(II)Z"⟩, 111) := ⟨⟨by decide +kernel, by decide +kernel⟩, List.mem_of_getElem? (i := 1165) (by decide +kernel), List.mem_of_getElem? (i := 1738) (by decide +kernel), List.mem_of_getElem? (i := 1739) (by decide +kernel)⟩
def lw_privs_5 : List (MethodName × Nat) := [(⟨"SilentCourtModel", "drops", "()V"⟩, 111), (⟨"SilentCourtModel", "isOn", "(I)Z"⟩, 111), (⟨"SilentCourtModel", "stands", "()V"⟩, 111), (⟨"SilentCourtModel", "seatMany", "()I"⟩, 111), (⟨"SilentCourtModel", "peopleMany", "()I"⟩, 111), (⟨"SilentCourtModel", "pointMany", "()I"⟩, 111), (⟨"SilentCourtModel", "muteMany", "()I"⟩, 111), (⟨"SilentCourtModel", "hiredMany", "()I"⟩, 111), (⟨"SilentCourtModel", "doesSit", "(I)Z"⟩, 111), (⟨"SilentCourtModel", "seatOf", "(I)I"⟩, 111), (⟨"SilentCourtModel", "partyOf", "(I)I"⟩, 111), (⟨"SilentCourtModel", "isMute", "(I)Z"⟩, 111), (⟨"SilentCourtModel", "keepsOf", "(I)I"⟩, 111), (⟨"SilentCourtModel", "itchesOf", "(I)I"⟩, 111), (⟨"SilentCourtModel", "nearOf", "(I)I"⟩, 111), (⟨"SilentCourtModel", "isBeside", "(II)Z"⟩, 111)]
theorem lw_r5 : ∀ q ∈ lw_privs_5, lw_okq q := List.forall_mem_cons.mpr ⟨lw_p64, List.forall_mem_cons.mpr ⟨lw_p65, List.forall_mem_cons.mpr ⟨lw_p66, List.forall_mem_cons.mpr ⟨lw_p67, List.forall_mem_cons.mpr ⟨lw_p68, List.forall_mem_cons.mpr ⟨lw_p69, List.forall_mem_cons.mpr ⟨lw_p70, List.forall_mem_cons.mpr ⟨lw_p71, List.forall_mem_cons.mpr ⟨lw_p72, List.forall_mem_cons.mpr ⟨lw_p73, List.forall_mem_cons.mpr ⟨lw_p74, List.forall_mem_cons.mpr ⟨lw_p75, List.forall_mem_cons.mpr ⟨lw_p76, List.forall_mem_cons.mpr ⟨lw_p77, List.forall_mem_cons.mpr ⟨lw_p78, List.forall_mem_cons.mpr ⟨lw_p79, fun _ h => absurd h List.not_mem_nil⟩⟩⟩⟩⟩⟩⟩⟩⟩⟩⟩⟩⟩⟩⟩⟩
theorem lw_p80 : lw_okq (⟨"SilentCourtModel", "hatedOf", "(I)I"⟩, 111) := ⟨⟨by decide +kernel, by decide +kernel⟩, List.mem_of_getElem? (i := 1165) (by decide +kernel), List.mem_of_getElem? (i := 1742) (by decide +kernel), List.mem_of_getElem? (i := 1743) (by decide +kernel)⟩
theorem lw_p81 : lw_okq (⟨"SilentCourtModel", "weightOf", "(I)I"⟩, 111) := ⟨⟨by decide +kernel, by decide +kernel⟩, List.mem_of_getElem? (i := 1165) (by decide +kernel), List.mem_of_getElem? (i := 1746) (by decide +kernel), List.mem_of_getElem? (i := 1747) (by decide +kernel)⟩
theorem lw_p82 : lw_okq (⟨"SilentCourtModel", "told", "(II)I"⟩, 111) := ⟨⟨by decide +kernel, by decide +kernel⟩, List.mem_of_getElem? (i := 1165) (by decide +kernel), List.mem_of_getElem? (i := 1750) (by decide +kernel), List.mem_of_getElem? (i := 1751) (by decide +kernel)⟩
theorem lw_p83 : lw_okq (⟨"SilentCourtModel", "askedOf", "(I)I"⟩, 111) := ⟨⟨by decide +kernel, by decide +kernel⟩, List.mem_of_getElem? (i := 1165) (by decide +kernel), List.mem_of_getElem? (i := 1754) (by decide +kernel), List.mem_of_getElem? (i := 1755) (by decide +kernel)⟩
theorem lw_p84 : lw_okq (⟨"SilentCourtModel", "noiseAt", "(II)I"⟩, 111) := ⟨⟨by decide +kernel, by decide +kernel⟩, List.mem_of_getElem? (i := 1165) (by decide +kernel), List.mem_of_getElem? (i := 1758) (by decide +kernel), List.mem_of_getElem? (i := 1759) (by decide +kernel)⟩
theorem lw_p85 : lw_okq (⟨"SilentCourtModel", "puts", "(J)V"⟩, 111) := ⟨⟨by decide +kernel, by decide +kernel⟩, List.mem_of_getElem? (i := 1165) (by decide +kernel), List.mem_of_getElem? (i := 1762) (by decide +kernel), List.mem_of_getElem? (i := 1763) (by decide +kernel)⟩
theorem lw_p86 : lw_okq (⟨"SilentCourtModel", "joins", "(I)V"⟩, 111) := ⟨⟨by decide +kernel, by decide +kernel⟩, List.mem_of_getElem? (i := 1165) (by decide +kernel), List.mem_of_getElem? (i := 1768) (by decide +kernel), List.mem_of_getElem? (i := 1769) (by decide +kernel)⟩
theorem lw_p87 : lw_okq (⟨"SilentCourtModel", "coughOf", "(I)I"⟩, 111) := ⟨⟨by decide +kernel, by decide +kernel⟩, List.mem_of_getElem? (i := 1165) (by decide +kernel), List.mem_of_getElem? (i := 1781) (by decide +kernel), List.mem_of_getElem? (i := 1782) (by decide +kernel)⟩
theorem lw_p88 : lw_okq (⟨"SilentCourtModel", "isSeat", "(I)Z"⟩, 111) := ⟨⟨by decide +kernel, by decide +kernel⟩, List.mem_of_getElem? (i := 1165) (by decide +kernel), List.mem_of_getElem? (i := 1789) (by decide +kernel), List.mem_of_getElem? (i := 1790) (by decide +kernel)⟩
theorem lw_p89 : lw_okq (⟨"SilentCourtModel", "sitterAt", "(I)I"⟩, 111) := ⟨⟨by decide +kernel, by decide +kernel⟩, List.mem_of_getElem? (i := 1165) (by decide +kernel), List.mem_of_getElem? (i := 1793) (by decide +kernel), List.mem_of_getElem? (i := 1794) (by decide +kernel)⟩
theorem lw_p90 : lw_okq (⟨"SilentCourtModel", "isAhead", "(III)Z"⟩, 111) := ⟨⟨by decide +kernel, by decide +kernel⟩, List.mem_of_getElem? (i := 1165) (by decide +kernel), List.mem_of_getElem? (i := 1813) (by decide +kernel), List.mem_of_getElem? (i := 1814) (by decide +kernel)⟩
theorem lw_p91 : lw_okq (⟨"SilentCourtModel", "meanOf", "(I)J"⟩, 111) := ⟨⟨by decide +kernel, by decide +kernel⟩, List.mem_of_getElem? (i := 1165) (by decide +kernel), List.mem_of_getElem? (i := 1817) (by decide +kernel), List.mem_of_getElem? (i := 1818) (by decide +kernel)⟩
theorem lw_p92 : lw_okq (⟨"SilentCourtModel", "meanMove", "()J"⟩, 111) := ⟨⟨by decide +kernel, by decide +kernel⟩, List.mem_of_getElem? (i := 1165) (by decide +kernel), List.mem_of_getElem? (i := 1822) (by decide +kernel), List.mem_of_getElem? (i := 1823) (by decide +kernel)⟩
theorem lw_p93 : lw_okq (⟨"SilentCourtModel", "moves", "(IZ)I"⟩, 111) := ⟨⟨by decide +kernel, by decide +kernel⟩, List.mem_of_getElem? (i := 1165) (by decide +kernel), List.mem_of_getElem? (i := 1826) (by decide +kernel), List.mem_of_getElem? (i := 1827) (by decide +kernel)⟩
theorem lw_p94 : lw_okq (⟨"SilentCourtModel", "signOf", "(I)I"⟩, 111) := ⟨⟨by decide +kernel, by decide +kernel⟩, List.mem_of_getElem? (i := 1165) (by decide +kernel), List.mem_of_getElem? (i := 1830) (by decide +kernel), List.mem_of_getElem? (i := 1831) (by decide +kernel)⟩
theorem lw_p95 : lw_okq (⟨"SilentCourtModel", "laysItchers", "()V"⟩, 111) := ⟨⟨by decide +kernel, by decide +kernel⟩, List.mem_of_getElem? (i := 1165) (by decide +kernel), List.mem_of_getElem? (i := 1839) (by decide +kernel), List.mem_of_getElem? (i := 1840) (by decide +kernel)⟩
def lw_privs_6 : List (MethodName × Nat) := [(⟨"SilentCourtModel", "hatedOf", "(I)I"⟩, 111), (⟨"SilentCourtModel", "weightOf", "(I)I"⟩, 111), (⟨"SilentCourtModel", "told", "(II)I"⟩, 111), (⟨"SilentCourtModel", "askedOf", "(I)I"⟩, 111), (⟨"SilentCourtModel", "noiseAt", "(II)I"⟩, 111), (⟨"SilentCourtModel", "puts", "(J)V"⟩, 111), (⟨"SilentCourtModel", "joins", "(I)V"⟩, 111), (⟨"SilentCourtModel", "coughOf", "(I)I"⟩, 111), (⟨"SilentCourtModel", "isSeat", "(I)Z"⟩, 111), (⟨"SilentCourtModel", "sitterAt", "(I)I"⟩, 111), (⟨"SilentCourtModel", "isAhead", "(III)Z"⟩, 111), (⟨"SilentCourtModel", "meanOf", "(I)J"⟩, 111), (⟨"SilentCourtModel", "meanMove", "()J"⟩, 111), (⟨"SilentCourtModel", "moves", "(IZ)I"⟩, 111), (⟨"SilentCourtModel", "signOf", "(I)I"⟩, 111), (⟨"SilentCourtModel", "laysItchers", "()V"⟩, 111)]
theorem lw_r6 : ∀ q ∈ lw_privs_6, lw_okq q := List.forall_mem_cons.mpr ⟨lw_p80, List.forall_mem_cons.mpr ⟨lw_p81, List.forall_mem_cons.mpr ⟨lw_p82, List.forall_mem_cons.mpr ⟨lw_p83, List.forall_mem_cons.mpr ⟨lw_p84, List.forall_mem_cons.mpr ⟨lw_p85, List.forall_mem_cons.mpr ⟨lw_p86, List.forall_mem_cons.mpr ⟨lw_p87, List.forall_mem_cons.mpr ⟨lw_p88, List.forall_mem_cons.mpr ⟨lw_p89, List.forall_mem_cons.mpr ⟨lw_p90, List.forall_mem_cons.mpr ⟨lw_p91, List.forall_mem_cons.mpr ⟨lw_p92, List.forall_mem_cons.mpr ⟨lw_p93, List.forall_mem_cons.mpr ⟨lw_p94, List.forall_mem_cons.mpr ⟨lw_p95, fun _ h => absurd h List.not_mem_nil⟩⟩⟩⟩⟩⟩⟩⟩⟩⟩⟩⟩⟩⟩⟩⟩
theorem lw_p96 : lw_okq (⟨"SilentCourtModel", "movedBy", "(I)I"⟩, 111) := ⟨⟨by decide +kernel, by decide +kernel⟩, List.mem_of_getElem? (i := 1165) (by decide +kernel), List.mem_of_getElem? (i := 1843) (by decide +kernel), List.mem_of_getElem? (i := 1844) (by decide +kernel)⟩
theorem lw_p97 : lw_okq (⟨"SilentCourtModel", "waysOf", "(I)J"⟩, 111) := ⟨⟨by decide +kernel, by decide +kernel⟩, List.mem_of_getElem? (i := 1165) (by decide +kernel), List.mem_of_getElem? (i := 1847) (by decide +kernel), List.mem_of_getElem? (i := 1848) (by decide +kernel)⟩
theorem lw_p98 : lw_okq (⟨"SilentCourtModel", "putsAside", "()V"⟩, 111) := ⟨⟨by decide +kernel, by decide +kernel⟩, List.mem_of_getElem? (i := 1165) (by decide +kernel), List.mem_of_getElem? (i := 1855) (by decide +kernel), List.mem_of_getElem? (i := 1856) (by decide +kernel)⟩
theorem lw_p99 : lw_okq (⟨"SilentCourtModel", "costsOf", "(I)I"⟩, 111) := ⟨⟨by decide +kernel, by decide +kernel⟩, List.mem_of_getElem? (i := 1165) (by decide +kernel), List.mem_of_getElem? (i := 1862) (by decide +kernel), List.mem_of_getElem? (i := 1863) (by decide +kernel)⟩
theorem lw_p100 : lw_okq (⟨"SilentCourtModel", "isEnough", "(IIII)Z"⟩, 111) := ⟨⟨by decide +kernel, by decide +kernel⟩, List.mem_of_getElem? (i := 1165) (by decide +kernel), List.mem_of_getElem? (i := 1866) (by decide +kernel), List.mem_of_getElem? (i := 1867) (by decide +kernel)⟩
theorem lw_p101 : lw_okq (⟨"SilentCourtModel", "areSeated", "(II)Z"⟩, 111) := ⟨⟨by decide +kernel, by decide +kernel⟩, List.mem_of_getElem? (i := 1165) (by decide +kernel), List.mem_of_getElem? (i := 1870) (by decide +kernel), List.mem_of_getElem? (i := 1871) (by decide +kernel)⟩
theorem lw_p102 : lw_okq (⟨"SilentCourtModel", "freeSeat", "()I"⟩, 111) := ⟨⟨by decide +kernel, by decide +kernel⟩, List.mem_of_getElem? (i := 1165) (by decide +kernel), List.mem_of_getElem? (i := 1874) (by decide +kernel), List.mem_of_getElem? (i := 1875) (by decide +kernel)⟩
theorem lw_p103 : lw_okq (⟨"SilentCourtModel", "takesBack", "()V"⟩, 111) := ⟨⟨by decide +kernel, by decide +kernel⟩, List.mem_of_getElem? (i := 1165) (by decide +kernel), List.mem_of_getElem? (i := 1878) (by decide +kernel), List.mem_of_getElem? (i := 1879) (by decide +kernel)⟩
theorem lw_p104 : lw_okq (⟨"SilentCourtModel", "changes", "(II)V"⟩, 111) := ⟨⟨by decide +kernel, by decide +kernel⟩, List.mem_of_getElem? (i := 1165) (by decide +kernel), List.mem_of_getElem? (i := 1886) (by decide +kernel), List.mem_of_getElem? (i := 1887) (by decide +kernel)⟩
theorem lw_p105 : lw_okq (⟨"SilentCourtModel", "laysPointMoves", "(I)V"⟩, 111) := ⟨⟨by decide +kernel, by decide +kernel⟩, List.mem_of_getElem? (i := 1165) (by decide +kernel), List.mem_of_getElem? (i := 1894) (by decide +kernel), List.mem_of_getElem? (i := 1895) (by decide +kernel)⟩
theorem lw_p106 : lw_okq (⟨"SilentCourtModel", "bestPoint", "(I)I"⟩, 111) := ⟨⟨by decide +kernel, by decide +kernel⟩, List.mem_of_getElem? (i := 1165) (by decide +kernel), List.mem_of_getElem? (i := 1898) (by decide +kernel), List.mem_of_getElem? (i := 1899) (by decide +kernel)⟩
theorem lw_p107 : lw_okq (⟨"SilentCourtModel", "peopleIn", "(I)I"⟩, 111) := ⟨⟨by decide +kernel, by decide +kernel⟩, List.mem_of_getElem? (i := 1165) (by decide +kernel), List.mem_of_getElem? (i := 1906) (by decide +kernel), List.mem_of_getElem? (i := 1907) (by decide +kernel)⟩
theorem lw_p108 : lw_okq (⟨"SilentCourtModel", "keeps", "()V"⟩, 111) := ⟨⟨by decide +kernel, by decide +kernel⟩, List.mem_of_getElem? (i := 1165) (by decide +kernel), List.mem_of_getElem? (i := 1931) (by decide +kernel), List.mem_of_getElem? (i := 1932) (by decide +kernel)⟩
theorem lw_p109 : lw_okq (⟨"SilentCourtModel", "minuteGoes", "()I"⟩, 111) := ⟨⟨by decide +kernel, by decide +kernel⟩, List.mem_of_getElem? (i := 1165) (by decide +kernel), List.mem_of_getElem? (i := 1935) (by decide +kernel), List.mem_of_getElem? (i := 1936) (by decide +kernel)⟩
theorem lw_p110 : lw_okq (⟨"SilentCourtModel", "drawOf", "(I)I"⟩, 111) := ⟨⟨by decide +kernel, by decide +kernel⟩, List.mem_of_getElem? (i := 1165) (by decide +kernel), List.mem_of_getElem? (i := 1939) (by decide +kernel), List.mem_of_getElem? (i := 1940) (by decide +kernel)⟩
theorem lw_p111 : lw_okq (⟨"SilentCourtModel", "isKept", "(II)V"⟩, 111) := ⟨⟨by decide +kernel, by decide +kernel⟩, List.mem_of_getElem? (i := 1165) (by decide +kernel), List.mem_of_getElem? (i := 1947) (by decide +kernel), List.mem_of_getElem? (i := 1948) (by decide +kernel)⟩
def lw_privs_7 : List (MethodName × Nat) := [(⟨"SilentCourtModel", "movedBy", "(I)I"⟩, 111), (⟨"SilentCourtModel", "waysOf", "(I)J"⟩, 111), (⟨"SilentCourtModel", "putsAside", "()V"⟩, 111), (⟨"SilentCourtModel", "costsOf", "(I)I"⟩, 111), (⟨"SilentCourtModel", "isEnough", "(IIII)Z"⟩, 111), (⟨"SilentCourtModel", "areSeated", "(II)Z"⟩, 111), (⟨"SilentCourtModel", "freeSeat", "()I"⟩, 111), (⟨"SilentCourtModel", "takesBack", "()V"⟩, 111), (⟨"SilentCourtModel", "changes", "(II)V"⟩, 111), (⟨"SilentCourtModel", "laysPointMoves", "(I)V"⟩, 111), (⟨"SilentCourtModel", "bestPoint", "(I)I"⟩, 111), (⟨"SilentCourtModel", "peopleIn", "(I)I"⟩, 111), (⟨"SilentCourtModel", "keeps", "()V"⟩, 111), (⟨"SilentCourtModel", "minuteGoes", "()I"⟩, 111), (⟨"SilentCourtModel", "drawOf", "(I)I"⟩, 111), (⟨"SilentCourtModel", "isKept", "(II)V"⟩, 111)]
theorem lw_r7 : ∀ q ∈ lw_privs_7, lw_okq q := List.forall_mem_cons.mpr ⟨lw_p96, List.forall_mem_cons.mpr ⟨lw_p97, List.forall_mem_cons.mpr ⟨lw_p98, List.forall_mem_cons.mpr ⟨lw_p99, List.forall_mem_cons.mpr ⟨lw_p100, List.forall_mem_cons.mpr ⟨lw_p101, List.forall_mem_cons.mpr ⟨lw_p102, List.forall_mem_cons.mpr ⟨lw_p103, List.forall_mem_cons.mpr ⟨lw_p104, List.forall_mem_cons.mpr ⟨lw_p105, List.forall_mem_cons.mpr ⟨lw_p106, List.forall_mem_cons.mpr ⟨lw_p107, List.forall_mem_cons.mpr ⟨lw_p108, List.forall_mem_cons.mpr ⟨lw_p109, List.forall_mem_cons.mpr ⟨lw_p110, List.forall_mem_cons.mpr ⟨lw_p111, fun _ h => absurd h List.not_mem_nil⟩⟩⟩⟩⟩⟩⟩⟩⟩⟩⟩⟩⟩⟩⟩⟩
theorem lw_p112 : lw_okq (⟨"SilentCourtModel", "refuses", "()Z"⟩, 111) := ⟨⟨by decide +kernel, by decide +kernel⟩, List.mem_of_getElem? (i := 1165) (by decide +kernel), List.mem_of_getElem? (i := 1957) (by decide +kernel), List.mem_of_getElem? (i := 1958) (by decide +kernel)⟩
theorem lw_p113 : lw_okq (⟨"SilentCourtModel", "qKind", "()I"⟩, 111) := ⟨⟨by decide +kernel, by decide +kernel⟩, List.mem_of_getElem? (i := 1165) (by decide +kernel), List.mem_of_getElem? (i := 1977) (by decide +kernel), List.mem_of_getElem? (i := 1978) (by decide +kernel)⟩
theorem lw_p114 : lw_okq (⟨"SilentCourtModel", "qTest", "()V"⟩, 111) := ⟨⟨by decide +kernel, by decide +kernel⟩, List.mem_of_getElem? (i := 1165) (by decide +kernel), List.mem_of_getElem? (i := 1981) (by decide +kernel), List.mem_of_getElem? (i := 1982) (by decide +kernel)⟩
theorem lw_p115 : lw_okq (⟨"SilentCourtModel", "qOpens", "(II)V"⟩, 111) := ⟨⟨by decide +kernel, by decide +kernel⟩, List.mem_of_getElem? (i := 1165) (by decide +kernel), List.mem_of_getElem? (i := 1985) (by decide +kernel), List.mem_of_getElem? (i := 1986) (by decide +kernel)⟩
theorem lw_p116 : lw_okq (⟨"SilentCourtModel", "qFact", "()V"⟩, 111) := ⟨⟨by decide +kernel, by decide +kernel⟩, List.mem_of_getElem? (i := 1165) (by decide +kernel), List.mem_of_getElem? (i := 1989) (by decide +kernel), List.mem_of_getElem? (i := 1990) (by decide +kernel)⟩
theorem lw_p117 : lw_okq (⟨"SilentCourtModel", "qCode", "(I)V"⟩, 111) := ⟨⟨by decide +kernel, by decide +kernel⟩, List.mem_of_getElem? (i := 1165) (by decide +kernel), List.mem_of_getElem? (i := 1993) (by decide +kernel), List.mem_of_getElem? (i := 1994) (by decide +kernel)⟩
theorem lw_p118 : lw_okq (⟨"SilentCourtModel", "qSums", "()V"⟩, 111) := ⟨⟨by decide +kernel, by decide +kernel⟩, List.mem_of_getElem? (i := 1165) (by decide +kernel), List.mem_of_getElem? (i := 1997) (by decide +kernel), List.mem_of_getElem? (i := 1998) (by decide +kernel)⟩
theorem lw_p119 : lw_okq (⟨"SilentCourtModel", "qPartTold", "()V"⟩, 111) := ⟨⟨by decide +kernel, by decide +kernel⟩, List.mem_of_getElem? (i := 1165) (by decide +kernel), List.mem_of_getElem? (i := 2001) (by decide +kernel), List.mem_of_getElem? (i := 2002) (by decide +kernel)⟩
theorem lw_p120 : lw_okq (⟨"SilentCourtModel", "qWordOf", "(II)I"⟩, 111) := ⟨⟨by decide +kernel, by decide +kernel⟩, List.mem_of_getElem? (i := 1165) (by decide +kernel), List.mem_of_getElem? (i := 2005) (by decide +kernel), List.mem_of_getElem? (i := 2006) (by decide +kernel)⟩
theorem lw_p121 : lw_okq (⟨"SilentCourtModel", "qWordHere", "()I"⟩, 111) := ⟨⟨by decide +kernel, by decide +kernel⟩, List.mem_of_getElem? (i := 1165) (by decide +kernel), List.mem_of_getElem? (i := 2009) (by decide +kernel), List.mem_of_getElem? (i := 2010) (by decide +kernel)⟩
theorem lw_p122 : lw_okq (⟨"SilentCourtModel", "qAsksWord", "(I)V"⟩, 111) := ⟨⟨by decide +kernel, by decide +kernel⟩, List.mem_of_getElem? (i := 1165) (by decide +kernel), List.mem_of_getElem? (i := 2013) (by decide +kernel), List.mem_of_getElem? (i := 2014) (by decide +kernel)⟩
theorem lw_p123 : lw_okq (⟨"SilentCourtModel", "qEndsPart", "()V"⟩, 111) := ⟨⟨by decide +kernel, by decide +kernel⟩, List.mem_of_getElem? (i := 1165) (by decide +kernel), List.mem_of_getElem? (i := 2017) (by decide +kernel), List.mem_of_getElem? (i := 2018) (by decide +kernel)⟩
theorem lw_p124 : lw_okq (⟨"SilentCourtModel", "qDrops", "()V"⟩, 111) := ⟨⟨by decide +kernel, by decide +kernel⟩, List.mem_of_getElem? (i := 1165) (by decide +kernel), List.mem_of_getElem? (i := 2021) (by decide +kernel), List.mem_of_getElem? (i := 2022) (by decide +kernel)⟩
theorem lw_p125 : lw_okq (⟨"SilentCourtModel", "qGoesOn", "()Z"⟩, 111) := ⟨⟨by decide +kernel, by decide +kernel⟩, List.mem_of_getElem? (i := 1165) (by decide +kernel), List.mem_of_getElem? (i := 2025) (by decide +kernel), List.mem_of_getElem? (i := 2026) (by decide +kernel)⟩
theorem lw_p126 : lw_okq (⟨"SilentCourtModel", "qBracket", "()I"⟩, 111) := ⟨⟨by decide +kernel, by decide +kernel⟩, List.mem_of_getElem? (i := 1165) (by decide +kernel), List.mem_of_getElem? (i := 2029) (by decide +kernel), List.mem_of_getElem? (i := 2030) (by decide +kernel)⟩
theorem lw_p127 : lw_okq (⟨"SilentCourtModel", "qDropsToBracket", "()V"⟩, 111) := ⟨⟨by decide +kernel, by decide +kernel⟩, List.mem_of_getElem? (i := 1165) (by decide +kernel), List.mem_of_getElem? (i := 2036) (by decide +kernel), List.mem_of_getElem? (i := 2037) (by decide +kernel)⟩
def lw_privs_8 : List (MethodName × Nat) := [(⟨"SilentCourtModel", "refuses", "()Z"⟩, 111), (⟨"SilentCourtModel", "qKind", "()I"⟩, 111), (⟨"SilentCourtModel", "qTest", "()V"⟩, 111), (⟨"SilentCourtModel", "qOpens", "(II)V"⟩, 111), (⟨"SilentCourtModel", "qFact", "()V"⟩, 111), (⟨"SilentCourtModel", "qCode", "(I)V"⟩, 111), (⟨"SilentCourtModel", "qSums", "()V"⟩, 111), (⟨"SilentCourtModel", "qPartTold", "()V"⟩, 111), (⟨"SilentCourtModel", "qWordOf", "(II)I"⟩, 111), (⟨"SilentCourtModel", "qWordHere", "()I"⟩, 111), (⟨"SilentCourtModel", "qAsksWord", "(I)V"⟩, 111), (⟨"SilentCourtModel", "qEndsPart", "()V"⟩, 111), (⟨"SilentCourtModel", "qDrops", "()V"⟩, 111), (⟨"SilentCourtModel", "qGoesOn", "()Z"⟩, 111), (⟨"SilentCourtModel", "qBracket", "()I"⟩, 111), (⟨"SilentCourtModel", "qDropsToBracket", "()V"⟩, 111)]
theorem lw_r8 : ∀ q ∈ lw_privs_8, lw_okq q := List.forall_mem_cons.mpr ⟨lw_p112, List.forall_mem_cons.mpr ⟨lw_p113, List.forall_mem_cons.mpr ⟨lw_p114, List.forall_mem_cons.mpr ⟨lw_p115, List.forall_mem_cons.mpr ⟨lw_p116, List.forall_mem_cons.mpr ⟨lw_p117, List.forall_mem_cons.mpr ⟨lw_p118, List.forall_mem_cons.mpr ⟨lw_p119, List.forall_mem_cons.mpr ⟨lw_p120, List.forall_mem_cons.mpr ⟨lw_p121, List.forall_mem_cons.mpr ⟨lw_p122, List.forall_mem_cons.mpr ⟨lw_p123, List.forall_mem_cons.mpr ⟨lw_p124, List.forall_mem_cons.mpr ⟨lw_p125, List.forall_mem_cons.mpr ⟨lw_p126, List.forall_mem_cons.mpr ⟨lw_p127, fun _ h => absurd h List.not_mem_nil⟩⟩⟩⟩⟩⟩⟩⟩⟩⟩⟩⟩⟩⟩⟩⟩
theorem lw_p128 : lw_okq (⟨"SilentCourtModel", "qIsOn", "(I)Z"⟩, 111) := ⟨⟨by decide +kernel, by decide +kernel⟩, List.mem_of_getElem? (i := 1165) (by decide +kernel), List.mem_of_getElem? (i := 2040) (by decide +kernel), List.mem_of_getElem? (i := 2041) (by decide +kernel)⟩
theorem lw_p129 : lw_okq (⟨"SilentCourtModel", "qDropsNots", "()V"⟩, 111) := ⟨⟨by decide +kernel, by decide +kernel⟩, List.mem_of_getElem? (i := 1165) (by decide +kernel), List.mem_of_getElem? (i := 2044) (by decide +kernel), List.mem_of_getElem? (i := 2045) (by decide +kernel)⟩
theorem lw_p130 : lw_okq (⟨"SilentCourtModel", "qGoesOnTest", "()Z"⟩, 111) := ⟨⟨by decide +kernel, by decide +kernel⟩, List.mem_of_getElem? (i := 1165) (by decide +kernel), List.mem_of_getElem? (i := 2048) (by decide +kernel), List.mem_of_getElem? (i := 2049) (by decide +kernel)⟩
theorem lw_p131 : lw_okq (⟨"SilentCourtModel", "qHasSquare", "()Z"⟩, 111) := ⟨⟨by decide +kernel, by decide +kernel⟩, List.mem_of_getElem? (i := 1165) (by decide +kernel), List.mem_of_getElem? (i := 2052) (by decide +kernel), List.mem_of_getElem? (i := 2053) (by decide +kernel)⟩
theorem lw_p132 : lw_okq (⟨"SilentCourtModel", "qTold", "(I)J"⟩, 111) := ⟨⟨by decide +kernel, by decide +kernel⟩, List.mem_of_getElem? (i := 1165) (by decide +kernel), List.mem_of_getElem? (i := 2056) (by decide +kernel), List.mem_of_getElem? (i := 2057) (by decide +kernel)⟩
theorem lw_p133 : lw_okq (⟨"SilentCourtModel", "qPuts", "(J)V"⟩, 111) := ⟨⟨by decide +kernel, by decide +kernel⟩, List.mem_of_getElem? (i := 1165) (by decide +kernel), List.mem_of_getElem? (i := 2060) (by decide +kernel), List.mem_of_getElem? (i := 2061) (by decide +kernel)⟩
theorem lw_p134 : lw_okq (⟨"SilentCourtModel", "qOf", "(IJI)J"⟩, 111) := ⟨⟨by decide +kernel, by decide +kernel⟩, List.mem_of_getElem? (i := 1165) (by decide +kernel), List.mem_of_getElem? (i := 2064) (by decide +kernel), List.mem_of_getElem? (i := 2065) (by decide +kernel)⟩
theorem lw_p135 : lw_okq (⟨"SilentCourtModel", "qPartOf", "(II)J"⟩, 111) := ⟨⟨by decide +kernel, by decide +kernel⟩, List.mem_of_getElem? (i := 1165) (by decide +kernel), List.mem_of_getElem? (i := 2071) (by decide +kernel), List.mem_of_getElem? (i := 2072) (by decide +kernel)⟩
theorem lw_p136 : lw_okq (⟨"SilentCourtModel", "qJoins", "(I)V"⟩, 111) := ⟨⟨by decide +kernel, by decide +kernel⟩, List.mem_of_getElem? (i := 1165) (by decide +kernel), List.mem_of_getElem? (i := 2075) (by decide +kernel), List.mem_of_getElem? (i := 2076) (by decide +kernel)⟩
theorem lw_p137 : lw_okq (⟨"SilentCourtModel", "qTakes", "(IJI)V"⟩, 111) := ⟨⟨by decide +kernel, by decide +kernel⟩, List.mem_of_getElem? (i := 1165) (by decide +kernel), List.mem_of_getElem? (i := 2082) (by decide +kernel), List.mem_of_getElem? (i := 2083) (by decide +kernel)⟩
theorem lw_p138 : lw_okq (⟨"SilentCourtModel", "writes", "(I)V"⟩, 111) := ⟨⟨by decide +kernel, by decide +kernel⟩, List.mem_of_getElem? (i := 1165) (by decide +kernel), List.mem_of_getElem? (i := 2090) (by decide +kernel), List.mem_of_getElem? (i := 2091) (by decide +kernel)⟩
theorem lw_p139 : lw_okq (⟨"SilentCourtModel", "isTold", "(I)Z"⟩, 111) := ⟨⟨by decide +kernel, by decide +kernel⟩, List.mem_of_getElem? (i := 1165) (by decide +kernel), List.mem_of_getElem? (i := 2106) (by decide +kernel), List.mem_of_getElem? (i := 2107) (by decide +kernel)⟩
theorem lw_p140 : lw_okq (⟨"SilentCourtModel", "scaleTold", "()I"⟩, 111) := ⟨⟨by decide +kernel, by decide +kernel⟩, List.mem_of_getElem? (i := 1165) (by decide +kernel), List.mem_of_getElem? (i := 2110) (by decide +kernel), List.mem_of_getElem? (i := 2111) (by decide +kernel)⟩
theorem lw_p141 : lw_okq (⟨"SilentCourtModel", "areSeatsTold", "()Z"⟩, 111) := ⟨⟨by decide +kernel, by decide +kernel⟩, List.mem_of_getElem? (i := 1165) (by decide +kernel), List.mem_of_getElem? (i := 2116) (by decide +kernel), List.mem_of_getElem? (i := 2117) (by decide +kernel)⟩
theorem lw_p142 : lw_okq (⟨"SilentCourtModel", "seatTold", "(I)I"⟩, 111) := ⟨⟨by decide +kernel, by decide +kernel⟩, List.mem_of_getElem? (i := 1165) (by decide +kernel), List.mem_of_getElem? (i := 2120) (by decide +kernel), List.mem_of_getElem? (i := 2121) (by decide +kernel)⟩
def lw_privs_9 : List (MethodName × Nat) := [(⟨"SilentCourtModel", "qIsOn", "(I)Z"⟩, 111), (⟨"SilentCourtModel", "qDropsNots", "()V"⟩, 111), (⟨"SilentCourtModel", "qGoesOnTest", "()Z"⟩, 111), (⟨"SilentCourtModel", "qHasSquare", "()Z"⟩, 111), (⟨"SilentCourtModel", "qTold", "(I)J"⟩, 111), (⟨"SilentCourtModel", "qPuts", "(J)V"⟩, 111), (⟨"SilentCourtModel", "qOf", "(IJI)J"⟩, 111), (⟨"SilentCourtModel", "qPartOf", "(II)J"⟩, 111), (⟨"SilentCourtModel", "qJoins", "(I)V"⟩, 111), (⟨"SilentCourtModel", "qTakes", "(IJI)V"⟩, 111), (⟨"SilentCourtModel", "writes", "(I)V"⟩, 111), (⟨"SilentCourtModel", "isTold", "(I)Z"⟩, 111), (⟨"SilentCourtModel", "scaleTold", "()I"⟩, 111), (⟨"SilentCourtModel", "areSeatsTold", "()Z"⟩, 111), (⟨"SilentCourtModel", "seatTold", "(I)I"⟩, 111)]
theorem lw_r9 : ∀ q ∈ lw_privs_9, lw_okq q := List.forall_mem_cons.mpr ⟨lw_p128, List.forall_mem_cons.mpr ⟨lw_p129, List.forall_mem_cons.mpr ⟨lw_p130, List.forall_mem_cons.mpr ⟨lw_p131, List.forall_mem_cons.mpr ⟨lw_p132, List.forall_mem_cons.mpr ⟨lw_p133, List.forall_mem_cons.mpr ⟨lw_p134, List.forall_mem_cons.mpr ⟨lw_p135, List.forall_mem_cons.mpr ⟨lw_p136, List.forall_mem_cons.mpr ⟨lw_p137, List.forall_mem_cons.mpr ⟨lw_p138, List.forall_mem_cons.mpr ⟨lw_p139, List.forall_mem_cons.mpr ⟨lw_p140, List.forall_mem_cons.mpr ⟨lw_p141, List.forall_mem_cons.mpr ⟨lw_p142, fun _ h => absurd h List.not_mem_nil⟩⟩⟩⟩⟩⟩⟩⟩⟩⟩⟩⟩⟩⟩⟩
def lw_privs : List (MethodName × Nat) := lw_privs_1 ++ (lw_privs_2 ++ (lw_privs_3 ++ (lw_privs_4 ++ (lw_privs_5 ++ (lw_privs_6 ++ (lw_privs_7 ++ (lw_privs_8 ++ (lw_privs_9))))))))
def lw_tbl : List Cond := k2_sels lw_privs ++ tables_1
theorem lw_privs_ok : ∀ q ∈ lw_privs, lw_okq q := by
  show ∀ q ∈ lw_privs_1 ++ (lw_privs_2 ++ (lw_privs_3 ++ (lw_privs_4 ++ (lw_privs_5 ++ (lw_privs_6 ++ (lw_privs_7 ++ (lw_privs_8 ++ (lw_privs_9)))))))), lw_okq q
  exact List.forall_mem_append.mpr ⟨lw_r1, List.forall_mem_append.mpr ⟨lw_r2, List.forall_mem_append.mpr ⟨lw_r3, List.forall_mem_append.mpr ⟨lw_r4, List.forall_mem_append.mpr ⟨lw_r5, List.forall_mem_append.mpr ⟨lw_r6, List.forall_mem_append.mpr ⟨lw_r7, List.forall_mem_append.mpr ⟨lw_r8, lw_r9⟩⟩⟩⟩⟩⟩⟩⟩
def RX0 : String := "SilentCourt$Bench"
def TX0 : u_T := fun k => match k with
  | 0 => ("SilentCourt$Bench", "hall", "LSilentCourt$Hall;", false)
  | 1 => ("SilentCourt$Bench", "sitting", "LSilentCourt$Sitting;", false)
  | 2 => ("SilentCourt$Bench", "sameEachMinute", "Z", false)
  | 3 => ("SilentCourt$Bench", "rowsAreQuiet", "Z", false)
  | 4 => ("SilentCourt$Bench", "hushed", "I", false)
  | 5 => ("SilentCourt$Bench", "asked", "I", false)
  | 6 => ("SilentCourt$Bench", "minute", "I", false)
  | 7 => ("SilentCourt$Bench", "facts", "[I", true)
  | 8 => ("SilentCourt$Bench", "weights", "[I", true)
  | 9 => ("SilentCourt$Bench", "coughs", "[I", true)
  | 10 => ("SilentCourt$Bench", "stack", "[I", true)
  | _ => ("SilentCourt$Bench", "top", "I", false)
def tyX0 : Nat → FieldType := fun k => match k with
  | 0 => .object "SilentCourt$Hall"
  | 1 => .object "SilentCourt$Sitting"
  | 2 => .boolean
  | 3 => .boolean
  | 4 => .int
  | 5 => .int
  | 6 => .int
  | 7 => .array .int
  | 8 => .array .int
  | 9 => .array .int
  | 10 => .array .int
  | _ => .int
abbrev wsX00 : List Cond := u_ws RX0 TX0 12
theorem nmX0 : ∀ a, a < 12 → ∀ b, b < 12 → a ≠ b → (TX0 a).2.1 ≠ (TX0 b).2.1 := by decide +kernel
theorem tyX0_ok : ∀ k, k < 12 → parseFieldDescriptor (TX0 k).2.2.1 = some (tyX0 k) := by decide +kernel
abbrev cX0_init : ByteArray := prog_2_method_1_code
def yX0_init : MethodName := ⟨RX0, "<init>", "(LSilentCourt$Hall;LSilentCourt$Sitting;)V"⟩
abbrev cX0_look : ByteArray := prog_2_method_2_code
def yX0_look : MethodName := ⟨RX0, "look", "(LSilentCourt$Hall;LSilentCourt$Sitting;)V"⟩
abbrev cX0_suppose : ByteArray := prog_2_method_3_code
def yX0_suppose : MethodName := ⟨RX0, "suppose", "(III)V"⟩
abbrev cX0_tally : ByteArray := prog_2_method_4_code
def yX0_tally : MethodName := ⟨RX0, "tally", "()V"⟩
abbrev cX0_regard : ByteArray := prog_2_method_5_code
def yX0_regard : MethodName := ⟨RX0, "regard", "(I)V"⟩
abbrev cX0_weightNow : ByteArray := prog_2_method_6_code
def yX0_weightNow : MethodName := ⟨RX0, "weightNow", "()I"⟩
abbrev cX0_coughNow : ByteArray := prog_2_method_7_code
def yX0_coughNow : MethodName := ⟨RX0, "coughNow", "()I"⟩
abbrev cX0_swing : ByteArray := prog_2_method_8_code
def yX0_swing : MethodName := ⟨RX0, "swing", "(I)I"⟩
abbrev cX0_meanSwing : ByteArray := prog_2_method_9_code
def yX0_meanSwing : MethodName := ⟨RX0, "meanSwing", "()I"⟩
abbrev cX0_sideOf : ByteArray := prog_2_method_10_code
def yX0_sideOf : MethodName := ⟨RX0, "sideOf", "(I)I"⟩
abbrev cX0_meanOf : ByteArray := prog_2_method_11_code
def yX0_meanOf : MethodName := ⟨RX0, "meanOf", "(I)J"⟩
abbrev cX0_run : ByteArray := prog_2_method_12_code
def yX0_run : MethodName := ⟨RX0, "run", "([II)I"⟩
abbrev cX0_push : ByteArray := prog_2_method_13_code
def yX0_push : MethodName := ⟨RX0, "push", "(I)V"⟩
abbrev cX0_pop : ByteArray := prog_2_method_14_code
def yX0_pop : MethodName := ⟨RX0, "pop", "()I"⟩
abbrev cX0_isBeside : ByteArray := prog_2_method_15_code
def yX0_isBeside : MethodName := ⟨RX0, "isBeside", "(I)Z"⟩
abbrev cX0_reckon : ByteArray := prog_2_method_16_code
def yX0_reckon : MethodName := ⟨RX0, "reckon", "(III)J"⟩
def RX1 : String := "SilentCourt$Counsel"
def TX1 : u_T := fun k => match k with
  | 0 => ("SilentCourt$Counsel", "bench", "LSilentCourt$Bench;", true)
  | _ => ("SilentCourt$Counsel", "aside", "LSilentCourt$Sitting;", true)
def tyX1 : Nat → FieldType := fun k => match k with
  | 0 => .object "SilentCourt$Bench"
  | _ => .object "SilentCourt$Sitting"
abbrev wsX10 : List Cond := u_ws RX1 TX1 2
theorem nmX1 : ∀ a, a < 2 → ∀ b, b < 2 → a ≠ b → (TX1 a).2.1 ≠ (TX1 b).2.1 := by decide +kernel
theorem tyX1_ok : ∀ k, k < 2 → parseFieldDescriptor (TX1 k).2.2.1 = some (tyX1 k) := by decide +kernel
abbrev cX1_init : ByteArray := prog_3_method_1_code
def yX1_init : MethodName := ⟨RX1, "<init>", "(LSilentCourt$Bench;LSilentCourt$Sitting;)V"⟩
abbrev cX1_itching : ByteArray := prog_3_method_2_code
def yX1_itching : MethodName := ⟨RX1, "itching", "(LSilentCourt$Hall;)I"⟩
abbrev cX1_oddsOf : ByteArray := prog_3_method_3_code
def yX1_oddsOf : MethodName := ⟨RX1, "oddsOf", "(LSilentCourt$Hall;LSilentCourt$Sitting;I)I"⟩
abbrev cX1_chancesOf : ByteArray := prog_3_method_4_code
def yX1_chancesOf : MethodName := ⟨RX1, "chancesOf", "(LSilentCourt$Hall;I)J"⟩
abbrev cX1_hired : ByteArray := prog_3_method_5_code
def yX1_hired : MethodName := ⟨RX1, "hired", "(LSilentCourt$Hall;LSilentCourt$Sitting;III)I"⟩
abbrev cX1_isCheaper : ByteArray := prog_3_method_6_code
def yX1_isCheaper : MethodName := ⟨RX1, "isCheaper", "(LSilentCourt$Hall;II)Z"⟩
abbrev cX1_seatAside : ByteArray := prog_3_method_7_code
def yX1_seatAside : MethodName := ⟨RX1, "seatAside", "(LSilentCourt$Hall;LSilentCourt$Sitting;II)Z"⟩
abbrev cX1_changed : ByteArray := prog_3_method_8_code
def yX1_changed : MethodName := ⟨RX1, "changed", "(LSilentCourt$Hall;LSilentCourt$Sitting;I)I"⟩
abbrev cX1_swingFor : ByteArray := prog_3_method_9_code
def yX1_swingFor : MethodName := ⟨RX1, "swingFor", "(I)I"⟩
abbrev cX1_pointOfTurn : ByteArray := prog_3_method_10_code
def yX1_pointOfTurn : MethodName := ⟨RX1, "pointOfTurn", "(LSilentCourt$Hall;LSilentCourt$Sitting;I)I"⟩
abbrev cX1_meanByTurns : ByteArray := prog_3_method_11_code
def yX1_meanByTurns : MethodName := ⟨RX1, "meanByTurns", "(LSilentCourt$Hall;LSilentCourt$Sitting;I)J"⟩
abbrev cX1_setsBy : ByteArray := prog_3_method_12_code
def yX1_setsBy : MethodName := ⟨RX1, "setsBy", "(LSilentCourt$Hall;LSilentCourt$Sitting;II)I"⟩
abbrev cX1_pointsBy : ByteArray := prog_3_method_13_code
def yX1_pointsBy : MethodName := ⟨RX1, "pointsBy", "(LSilentCourt$Hall;LSilentCourt$Sitting;II)I"⟩
abbrev cX1_loudestOf : ByteArray := prog_3_method_14_code
def yX1_loudestOf : MethodName := ⟨RX1, "loudestOf", "(LSilentCourt$Hall;LSilentCourt$Sitting;I)I"⟩
def RX2 : String := "SilentCourt$Grammar"
def TX2 : u_T := fun k => match k with
  | 0 => ("SilentCourt$Grammar", "reader", "LSilentCourt$Reader;", true)
  | 1 => ("SilentCourt$Grammar", "asking", "Z", false)
  | 2 => ("SilentCourt$Grammar", "namesMinute", "Z", false)
  | 3 => ("SilentCourt$Grammar", "steps", "[I", true)
  | _ => ("SilentCourt$Grammar", "length", "I", false)
def tyX2 : Nat → FieldType := fun k => match k with
  | 0 => .object "SilentCourt$Reader"
  | 1 => .boolean
  | 2 => .boolean
  | 3 => .array .int
  | _ => .int
abbrev wsX20 : List Cond := u_ws RX2 TX2 5
theorem nmX2 : ∀ a, a < 5 → ∀ b, b < 5 → a ≠ b → (TX2 a).2.1 ≠ (TX2 b).2.1 := by decide +kernel
theorem tyX2_ok : ∀ k, k < 5 → parseFieldDescriptor (TX2 k).2.2.1 = some (tyX2 k) := by decide +kernel
abbrev cX2_init : ByteArray := prog_4_method_1_code
def yX2_init : MethodName := ⟨RX2, "<init>", "(LSilentCourt$Reader;)V"⟩
abbrev cX2_begin : ByteArray := prog_4_method_2_code
def yX2_begin : MethodName := ⟨RX2, "begin", "(Z)V"⟩
abbrev cX2_copyOfSteps : ByteArray := prog_4_method_3_code
def yX2_copyOfSteps : MethodName := ⟨RX2, "copyOfSteps", "()[I"⟩
abbrev cX2_emit : ByteArray := prog_4_method_4_code
def yX2_emit : MethodName := ⟨RX2, "emit", "(I)Z"⟩
abbrev cX2_goIn : ByteArray := prog_4_method_5_code
def yX2_goIn : MethodName := ⟨RX2, "goIn", "(I)Z"⟩
abbrev cX2_chain : ByteArray := prog_4_method_6_code
def yX2_chain : MethodName := ⟨RX2, "chain", "(II)Z"⟩
abbrev cX2_joiner : ByteArray := prog_4_method_7_code
def yX2_joiner : MethodName := ⟨RX2, "joiner", "(I)I"⟩
abbrev cX2_fact : ByteArray := prog_4_method_8_code
def yX2_fact : MethodName := ⟨RX2, "fact", "(I)Z"⟩
abbrev cX2_part : ByteArray := prog_4_method_9_code
def yX2_part : MethodName := ⟨RX2, "part", "(I)Z"⟩
abbrev cX2_pair : ByteArray := prog_4_method_10_code
def yX2_pair : MethodName := ⟨RX2, "pair", "(I)Z"⟩
def RX3 : String := "SilentCourt$Hall"
def TX3 : u_T := fun k => match k with
  | 0 => ("SilentCourt$Hall", "statements", "I", false)
  | 1 => ("SilentCourt$Hall", "seats", "I", false)
  | 2 => ("SilentCourt$Hall", "people", "I", false)
  | 3 => ("SilentCourt$Hall", "points", "I", false)
  | 4 => ("SilentCourt$Hall", "noises", "I", false)
  | 5 => ("SilentCourt$Hall", "mutes", "I", false)
  | 6 => ("SilentCourt$Hall", "hatreds", "I", false)
  | 7 => ("SilentCourt$Hall", "names", "[I", true)
  | 8 => ("SilentCourt$Hall", "keeps", "[I", true)
  | 9 => ("SilentCourt$Hall", "itches", "[I", true)
  | 10 => ("SilentCourt$Hall", "parties", "[I", true)
  | 11 => ("SilentCourt$Hall", "places", "[I", true)
  | 12 => ("SilentCourt$Hall", "costs", "[I", true)
  | 13 => ("SilentCourt$Hall", "tells", "[I", true)
  | 14 => ("SilentCourt$Hall", "sounds", "[I", true)
  | 15 => ("SilentCourt$Hall", "hates", "[I", true)
  | 16 => ("SilentCourt$Hall", "weigh", "[I", false)
  | 17 => ("SilentCourt$Hall", "cough", "[I", false)
  | _ => ("SilentCourt$Hall", "namesMinute", "Z", false)
def tyX3 : Nat → FieldType := fun k => match k with
  | 0 => .int
  | 1 => .int
  | 2 => .int
  | 3 => .int
  | 4 => .int
  | 5 => .int
  | 6 => .int
  | 7 => .array .int
  | 8 => .array .int
  | 9 => .array .int
  | 10 => .array .int
  | 11 => .array .int
  | 12 => .array .int
  | 13 => .array .int
  | 14 => .array .int
  | 15 => .array .int
  | 16 => .array .int
  | 17 => .array .int
  | _ => .boolean
abbrev wsX30 : List Cond := u_ws RX3 TX3 19
theorem nmX3 : ∀ a, a < 19 → ∀ b, b < 19 → a ≠ b → (TX3 a).2.1 ≠ (TX3 b).2.1 := by decide +kernel
theorem tyX3_ok : ∀ k, k < 19 → parseFieldDescriptor (TX3 k).2.2.1 = some (tyX3 k) := by decide +kernel
abbrev cX3_init : ByteArray := prog_5_method_1_code
def yX3_init : MethodName := ⟨RX3, "<init>", "()V"⟩
abbrev cX3_isTold : ByteArray := prog_5_method_2_code
def yX3_isTold : MethodName := ⟨RX3, "isTold", "()Z"⟩
abbrev cX3_isSeat : ByteArray := prog_5_method_3_code
def yX3_isSeat : MethodName := ⟨RX3, "isSeat", "(I)Z"⟩
abbrev cX3_isMute : ByteArray := prog_5_method_4_code
def yX3_isMute : MethodName := ⟨RX3, "isMute", "(I)Z"⟩
abbrev cX3_isPoint : ByteArray := prog_5_method_5_code
def yX3_isPoint : MethodName := ⟨RX3, "isPoint", "(I)Z"⟩
abbrev cX3_find : ByteArray := prog_5_method_6_code
def yX3_find : MethodName := ⟨RX3, "find", "(I)I"⟩
abbrev cX3_letterOf : ByteArray := prog_5_method_7_code
def yX3_letterOf : MethodName := ⟨RX3, "letterOf", "(II)I"⟩
abbrev cX3_noiseAt : ByteArray := prog_5_method_8_code
def yX3_noiseAt : MethodName := ⟨RX3, "noiseAt", "(III)I"⟩
abbrev cX3_isNoisy : ByteArray := prog_5_method_9_code
def yX3_isNoisy : MethodName := ⟨RX3, "isNoisy", "(I)Z"⟩
abbrev cX3_areFoes : ByteArray := prog_5_method_10_code
def yX3_areFoes : MethodName := ⟨RX3, "areFoes", "(II)Z"⟩
abbrev cX3_costOf : ByteArray := prog_5_method_11_code
def yX3_costOf : MethodName := ⟨RX3, "costOf", "(I)I"⟩
def RX4 : String := "SilentCourt$HallText"
def TX4 : u_T := fun k => match k with
  | 0 => ("SilentCourt$HallText", "reader", "LSilentCourt$Reader;", true)
  | 1 => ("SilentCourt$HallText", "grammar", "LSilentCourt$Grammar;", true)
  | 2 => ("SilentCourt$HallText", "told", "[I", true)
  | _ => ("SilentCourt$HallText", "hall", "LSilentCourt$Hall;", false)
def tyX4 : Nat → FieldType := fun k => match k with
  | 0 => .object "SilentCourt$Reader"
  | 1 => .object "SilentCourt$Grammar"
  | 2 => .array .int
  | _ => .object "SilentCourt$Hall"
abbrev wsX40 : List Cond := u_ws RX4 TX4 4
theorem nmX4 : ∀ a, a < 4 → ∀ b, b < 4 → a ≠ b → (TX4 a).2.1 ≠ (TX4 b).2.1 := by decide +kernel
theorem tyX4_ok : ∀ k, k < 4 → parseFieldDescriptor (TX4 k).2.2.1 = some (tyX4 k) := by decide +kernel
abbrev cX4_init : ByteArray := prog_6_method_1_code
def yX4_init : MethodName := ⟨RX4, "<init>", "(LSilentCourt$Reader;LSilentCourt$Grammar;)V"⟩
abbrev cX4_read : ByteArray := prog_6_method_2_code
def yX4_read : MethodName := ⟨RX4, "read", "()LSilentCourt$Hall;"⟩
abbrev cX4_opening : ByteArray := prog_6_method_3_code
def yX4_opening : MethodName := ⟨RX4, "opening", "()Z"⟩
abbrev cX4_statement : ByteArray := prog_6_method_4_code
def yX4_statement : MethodName := ⟨RX4, "statement", "()Z"⟩
abbrev cX4_begins : ByteArray := prog_6_method_5_code
def yX4_begins : MethodName := ⟨RX4, "begins", "(II)Z"⟩
abbrev cX4_tells : ByteArray := prog_6_method_6_code
def yX4_tells : MethodName := ⟨RX4, "tells", "(LSilentCourt$Word;III)Z"⟩
abbrev cX4_gives : ByteArray := prog_6_method_7_code
def yX4_gives : MethodName := ⟨RX4, "gives", "(I)Z"⟩
abbrev cX4_person : ByteArray := prog_6_method_8_code
def yX4_person : MethodName := ⟨RX4, "person", "()Z"⟩
abbrev cX4_partyOf : ByteArray := prog_6_method_9_code
def yX4_partyOf : MethodName := ⟨RX4, "partyOf", "(I)Z"⟩
abbrev cX4_hatred : ByteArray := prog_6_method_10_code
def yX4_hatred : MethodName := ⟨RX4, "hatred", "()Z"⟩
abbrev cX4_pointTold : ByteArray := prog_6_method_11_code
def yX4_pointTold : MethodName := ⟨RX4, "pointTold", "()Z"⟩
abbrev cX4_sound : ByteArray := prog_6_method_12_code
def yX4_sound : MethodName := ⟨RX4, "sound", "()Z"⟩
abbrev cX4_muteTold : ByteArray := prog_6_method_13_code
def yX4_muteTold : MethodName := ⟨RX4, "muteTold", "()Z"⟩
abbrev cX4_worth : ByteArray := prog_6_method_14_code
def yX4_worth : MethodName := ⟨RX4, "worth", "(Z)Z"⟩
def RX5 : String := "SilentCourt$Image"
def TX5 : u_T := fun k => match k with
  | 0 => ("SilentCourt$Image", "bytes", "[I", true)
  | _ => ("SilentCourt$Image", "length", "I", false)
def tyX5 : Nat → FieldType := fun k => match k with
  | 0 => .array .int
  | _ => .int
abbrev wsX50 : List Cond := u_ws RX5 TX5 2
theorem nmX5 : ∀ a, a < 2 → ∀ b, b < 2 → a ≠ b → (TX5 a).2.1 ≠ (TX5 b).2.1 := by decide +kernel
theorem tyX5_ok : ∀ k, k < 2 → parseFieldDescriptor (TX5 k).2.2.1 = some (tyX5 k) := by decide +kernel
abbrev cX5_init : ByteArray := prog_7_method_1_code
def yX5_init : MethodName := ⟨RX5, "<init>", "()V"⟩
abbrev cX5_write : ByteArray := prog_7_method_2_code
def yX5_write : MethodName := ⟨RX5, "write", "(LSilentCourt$Hall;LSilentCourt$Sitting;)I"⟩
abbrev cX5_lengthOf : ByteArray := prog_7_method_3_code
def yX5_lengthOf : MethodName := ⟨RX5, "lengthOf", "(LSilentCourt$Hall;)I"⟩
abbrev cX5_checkOf : ByteArray := prog_7_method_4_code
def yX5_checkOf : MethodName := ⟨RX5, "checkOf", "([II)I"⟩
abbrev cX5_reads : ByteArray := prog_7_method_5_code
def yX5_reads : MethodName := ⟨RX5, "reads", "([IILSilentCourt$Hall;LSilentCourt$Sitting;)Z"⟩
abbrev cX5_readsMutes : ByteArray := prog_7_method_6_code
def yX5_readsMutes : MethodName := ⟨RX5, "readsMutes", "([ILSilentCourt$Hall;LSilentCourt$Sitting;)Z"⟩
abbrev cX5_seats : ByteArray := prog_7_method_7_code
def yX5_seats : MethodName := ⟨RX5, "seats", "(LSilentCourt$Hall;LSilentCourt$Sitting;III)Z"⟩
def RX6 : String := "SilentCourt$Past"
def TX6 : u_T := fun k => match k with
  | 0 => ("SilentCourt$Past", "rows", "[LSilentCourt$Sitting;", true)
  | 1 => ("SilentCourt$Past", "next", "I", false)
  | _ => ("SilentCourt$Past", "count", "I", false)
def tyX6 : Nat → FieldType := fun k => match k with
  | 0 => .array (.object "SilentCourt$Sitting")
  | 1 => .int
  | _ => .int
abbrev wsX60 : List Cond := u_ws RX6 TX6 3
theorem nmX6 : ∀ a, a < 3 → ∀ b, b < 3 → a ≠ b → (TX6 a).2.1 ≠ (TX6 b).2.1 := by decide +kernel
theorem tyX6_ok : ∀ k, k < 3 → parseFieldDescriptor (TX6 k).2.2.1 = some (tyX6 k) := by decide +kernel
abbrev cX6_init : ByteArray := prog_8_method_1_code
def yX6_init : MethodName := ⟨RX6, "<init>", "()V"⟩
abbrev cX6_forget : ByteArray := prog_8_method_2_code
def yX6_forget : MethodName := ⟨RX6, "forget", "()V"⟩
abbrev cX6_keep : ByteArray := prog_8_method_3_code
def yX6_keep : MethodName := ⟨RX6, "keep", "(LSilentCourt$Sitting;)V"⟩
abbrev cX6_back : ByteArray := prog_8_method_4_code
def yX6_back : MethodName := ⟨RX6, "back", "(LSilentCourt$Sitting;)Z"⟩
def RX7 : String := "SilentCourt$Question"
def TX7 : u_T := fun k => match k with
  | 0 => ("SilentCourt$Question", "reader", "LSilentCourt$Reader;", true)
  | 1 => ("SilentCourt$Question", "grammar", "LSilentCourt$Grammar;", true)
  | 2 => ("SilentCourt$Question", "bench", "LSilentCourt$Bench;", true)
  | _ => ("SilentCourt$Question", "verb", "LSilentCourt$Word;", false)
def tyX7 : Nat → FieldType := fun k => match k with
  | 0 => .object "SilentCourt$Reader"
  | 1 => .object "SilentCourt$Grammar"
  | 2 => .object "SilentCourt$Bench"
  | _ => .object "SilentCourt$Word"
abbrev wsX70 : List Cond := u_ws RX7 TX7 4
theorem nmX7 : ∀ a, a < 4 → ∀ b, b < 4 → a ≠ b → (TX7 a).2.1 ≠ (TX7 b).2.1 := by decide +kernel
theorem tyX7_ok : ∀ k, k < 4 → parseFieldDescriptor (TX7 k).2.2.1 = some (tyX7 k) := by decide +kernel
abbrev cX7_init : ByteArray := prog_9_method_1_code
def yX7_init : MethodName := ⟨RX7, "<init>", "(LSilentCourt$Reader;LSilentCourt$Grammar;LSilentCourt$Bench;)V"⟩
abbrev cX7_read : ByteArray := prog_9_method_2_code
def yX7_read : MethodName := ⟨RX7, "read", "()Z"⟩
abbrev cX7_isOfTest : ByteArray := prog_9_method_3_code
def yX7_isOfTest : MethodName := ⟨RX7, "isOfTest", "()Z"⟩
abbrev cX7_answer : ByteArray := prog_9_method_4_code
def yX7_answer : MethodName := ⟨RX7, "answer", "(LSilentCourt$Hall;LSilentCourt$Sitting;)J"⟩
abbrev cX7_join : ByteArray := prog_9_method_5_code
def yX7_join : MethodName := ⟨RX7, "join", "(JII)J"⟩
def RX8 : String := "SilentCourt$Reader"
def TX8 : u_T := fun k => match k with
  | 0 => ("SilentCourt$Reader", "text", "[I", false)
  | 1 => ("SilentCourt$Reader", "length", "I", false)
  | 2 => ("SilentCourt$Reader", "stop", "I", false)
  | 3 => ("SilentCourt$Reader", "key", "I", false)
  | 4 => ("SilentCourt$Reader", "value", "I", false)
  | 5 => ("SilentCourt$Reader", "start", "I", false)
  | 6 => ("SilentCourt$Reader", "kind", "I", false)
  | 7 => ("SilentCourt$Reader", "word", "LSilentCourt$Word;", false)
  | 8 => ("SilentCourt$Reader", "tookAt", "I", false)
  | 9 => ("SilentCourt$Reader", "tookKey", "I", false)
  | 10 => ("SilentCourt$Reader", "tookValue", "I", false)
  | 11 => ("SilentCourt$Reader", "fault", "I", false)
  | _ => ("SilentCourt$Reader", "place", "I", false)
def tyX8 : Nat → FieldType := fun k => match k with
  | 0 => .array .int
  | 1 => .int
  | 2 => .int
  | 3 => .int
  | 4 => .int
  | 5 => .int
  | 6 => .int
  | 7 => .object "SilentCourt$Word"
  | 8 => .int
  | 9 => .int
  | 10 => .int
  | 11 => .int
  | _ => .int
abbrev wsX80 : List Cond := u_ws RX8 TX8 13
theorem nmX8 : ∀ a, a < 13 → ∀ b, b < 13 → a ≠ b → (TX8 a).2.1 ≠ (TX8 b).2.1 := by decide +kernel
theorem tyX8_ok : ∀ k, k < 13 → parseFieldDescriptor (TX8 k).2.2.1 = some (tyX8 k) := by decide +kernel
abbrev cX8_init : ByteArray := prog_10_method_1_code
def yX8_init : MethodName := ⟨RX8, "<init>", "()V"⟩
abbrev cX8_begin : ByteArray := prog_10_method_2_code
def yX8_begin : MethodName := ⟨RX8, "begin", "([II)V"⟩
abbrev cX8_fail : ByteArray := prog_10_method_3_code
def yX8_fail : MethodName := ⟨RX8, "fail", "(II)Z"⟩
abbrev cX8_step : ByteArray := prog_10_method_4_code
def yX8_step : MethodName := ⟨RX8, "step", "()V"⟩
abbrev cX8_readLetters : ByteArray := prog_10_method_5_code
def yX8_readLetters : MethodName := ⟨RX8, "readLetters", "()V"⟩
abbrev cX8_readDigits : ByteArray := prog_10_method_6_code
def yX8_readDigits : MethodName := ⟨RX8, "readDigits", "()V"⟩
abbrev cX8_isSign : ByteArray := prog_10_method_7_code
def yX8_isSign : MethodName := ⟨RX8, "isSign", "(C)Z"⟩
abbrev cX8_takeSign : ByteArray := prog_10_method_8_code
def yX8_takeSign : MethodName := ⟨RX8, "takeSign", "(C)Z"⟩
abbrev cX8_takeWord : ByteArray := prog_10_method_9_code
def yX8_takeWord : MethodName := ⟨RX8, "takeWord", "(LSilentCourt$Word;)Z"⟩
abbrev cX8_takeNumber : ByteArray := prog_10_method_10_code
def yX8_takeNumber : MethodName := ⟨RX8, "takeNumber", "(II)Z"⟩
abbrev cX8_takeName : ByteArray := prog_10_method_11_code
def yX8_takeName : MethodName := ⟨RX8, "takeName", "()Z"⟩
def RX9 : String := "SilentCourt$Sitting"
def TX9 : u_T := fun k => match k with
  | 0 => ("SilentCourt$Sitting", "minute", "I", false)
  | 1 => ("SilentCourt$Sitting", "scale", "I", false)
  | 2 => ("SilentCourt$Sitting", "asked", "I", false)
  | 3 => ("SilentCourt$Sitting", "seatOf", "[I", true)
  | 4 => ("SilentCourt$Sitting", "partyOf", "[I", true)
  | 5 => ("SilentCourt$Sitting", "whoIn", "[I", true)
  | 6 => ("SilentCourt$Sitting", "kept", "[I", true)
  | _ => ("SilentCourt$Sitting", "coughs", "I", false)
def tyX9 : Nat → FieldType := fun k => match k with
  | 0 => .int
  | 1 => .int
  | 2 => .int
  | 3 => .array .int
  | 4 => .array .int
  | 5 => .array .int
  | 6 => .array .int
  | _ => .int
abbrev wsX90 : List Cond := u_ws RX9 TX9 8
theorem nmX9 : ∀ a, a < 8 → ∀ b, b < 8 → a ≠ b → (TX9 a).2.1 ≠ (TX9 b).2.1 := by decide +kernel
theorem tyX9_ok : ∀ k, k < 8 → parseFieldDescriptor (TX9 k).2.2.1 = some (tyX9 k) := by decide +kernel
abbrev cX9_init : ByteArray := prog_11_method_1_code
def yX9_init : MethodName := ⟨RX9, "<init>", "()V"⟩
abbrev cX9_clear : ByteArray := prog_11_method_2_code
def yX9_clear : MethodName := ⟨RX9, "clear", "()V"⟩
abbrev cX9_begin : ByteArray := prog_11_method_3_code
def yX9_begin : MethodName := ⟨RX9, "begin", "(LSilentCourt$Hall;)V"⟩
abbrev cX9_copy : ByteArray := prog_11_method_4_code
def yX9_copy : MethodName := ⟨RX9, "copy", "(LSilentCourt$Sitting;)V"⟩
abbrev cX9_isThere : ByteArray := prog_11_method_5_code
def yX9_isThere : MethodName := ⟨RX9, "isThere", "(I)Z"⟩
abbrev cX9_whoSits : ByteArray := prog_11_method_6_code
def yX9_whoSits : MethodName := ⟨RX9, "whoSits", "(I)I"⟩
abbrev cX9_put : ByteArray := prog_11_method_7_code
def yX9_put : MethodName := ⟨RX9, "put", "(III)V"⟩
abbrev cX9_leave : ByteArray := prog_11_method_8_code
def yX9_leave : MethodName := ⟨RX9, "leave", "(I)V"⟩
abbrev cX9_exchange : ByteArray := prog_11_method_9_code
def yX9_exchange : MethodName := ⟨RX9, "exchange", "(II)V"⟩
abbrev cX9_firstFree : ByteArray := prog_11_method_10_code
def yX9_firstFree : MethodName := ⟨RX9, "firstFree", "(I)I"⟩
abbrev cX9_hiredOf : ByteArray := prog_11_method_11_code
def yX9_hiredOf : MethodName := ⟨RX9, "hiredOf", "(LSilentCourt$Hall;)I"⟩
abbrev cX9_keepCough : ByteArray := prog_11_method_12_code
def yX9_keepCough : MethodName := ⟨RX9, "keepCough", "(II)V"⟩
abbrev cX9_toldCoughs : ByteArray := prog_11_method_13_code
def yX9_toldCoughs : MethodName := ⟨RX9, "toldCoughs", "()I"⟩
abbrev cX9_toldOf : ByteArray := prog_11_method_14_code
def yX9_toldOf : MethodName := ⟨RX9, "toldOf", "(II)I"⟩
def RX10 : String := "SilentCourt$Word"
def TX10 : u_T := fun k => match k with
  | _ => ("", "", "", false)
def tyX10 : Nat → FieldType := fun k => match k with
  | _ => .int
abbrev wsX100 : List Cond := u_ws RX10 TX10 0
theorem nmX10 : ∀ a, a < 0 → ∀ b, b < 0 → a ≠ b → (TX10 a).2.1 ≠ (TX10 b).2.1 := by decide +kernel
theorem tyX10_ok : ∀ k, k < 0 → parseFieldDescriptor (TX10 k).2.2.1 = some (tyX10 k) := by decide +kernel
def RX11 : String := "SilentCourt"
def TX11 : u_T := fun k => match k with
  | 0 => ("SilentCourt", "tape", "[I", true)
  | 1 => ("SilentCourt", "taped", "I", false)
  | 2 => ("SilentCourt", "reader", "LSilentCourt$Reader;", true)
  | 3 => ("SilentCourt", "grammar", "LSilentCourt$Grammar;", true)
  | 4 => ("SilentCourt", "hallText", "LSilentCourt$HallText;", true)
  | 5 => ("SilentCourt", "hall", "LSilentCourt$Hall;", false)
  | 6 => ("SilentCourt", "now", "LSilentCourt$Sitting;", true)
  | 7 => ("SilentCourt", "aside", "LSilentCourt$Sitting;", true)
  | 8 => ("SilentCourt", "past", "LSilentCourt$Past;", true)
  | 9 => ("SilentCourt", "bench", "LSilentCourt$Bench;", true)
  | 10 => ("SilentCourt", "counsel", "LSilentCourt$Counsel;", true)
  | 11 => ("SilentCourt", "question", "LSilentCourt$Question;", true)
  | 12 => ("SilentCourt", "written", "LSilentCourt$Image;", true)
  | 13 => ("SilentCourt", "refused", "[I", true)
  | _ => ("SilentCourt", "drawn", "I", false)
def tyX11 : Nat → FieldType := fun k => match k with
  | 0 => .array .int
  | 1 => .int
  | 2 => .object "SilentCourt$Reader"
  | 3 => .object "SilentCourt$Grammar"
  | 4 => .object "SilentCourt$HallText"
  | 5 => .object "SilentCourt$Hall"
  | 6 => .object "SilentCourt$Sitting"
  | 7 => .object "SilentCourt$Sitting"
  | 8 => .object "SilentCourt$Past"
  | 9 => .object "SilentCourt$Bench"
  | 10 => .object "SilentCourt$Counsel"
  | 11 => .object "SilentCourt$Question"
  | 12 => .object "SilentCourt$Image"
  | 13 => .array .int
  | _ => .int
abbrev wsX110 : List Cond := u_ws RX11 TX11 15
theorem nmX11 : ∀ a, a < 15 → ∀ b, b < 15 → a ≠ b → (TX11 a).2.1 ≠ (TX11 b).2.1 := by decide +kernel
theorem tyX11_ok : ∀ k, k < 15 → parseFieldDescriptor (TX11 k).2.2.1 = some (tyX11 k) := by decide +kernel
abbrev cX11_init : ByteArray := prog_1_method_1_code
def yX11_init : MethodName := ⟨RX11, "<init>", "()V"⟩
abbrev cX11_feed : ByteArray := prog_1_method_2_code
def yX11_feed : MethodName := ⟨RX11, "feed", "(IIIII)I"⟩
abbrev cX11_end : ByteArray := prog_1_method_3_code
def yX11_end : MethodName := ⟨RX11, "end", "(I)Z"⟩
abbrev cX11_hall : ByteArray := prog_1_method_4_code
def yX11_hall : MethodName := ⟨RX11, "hall", "()I"⟩
abbrev cX11_fault : ByteArray := prog_1_method_5_code
def yX11_fault : MethodName := ⟨RX11, "fault", "(I)I"⟩
abbrev cX11_has : ByteArray := prog_1_method_6_code
def yX11_has : MethodName := ⟨RX11, "has", "(I)I"⟩
abbrev cX11_scale : ByteArray := prog_1_method_7_code
def yX11_scale : MethodName := ⟨RX11, "scale", "()I"⟩
abbrev cX11_letter : ByteArray := prog_1_method_8_code
def yX11_letter : MethodName := ⟨RX11, "letter", "(III)I"⟩
abbrev cX11_sits : ByteArray := prog_1_method_9_code
def yX11_sits : MethodName := ⟨RX11, "sits", "(II)I"⟩
abbrev cX11_seat : ByteArray := prog_1_method_10_code
def yX11_seat : MethodName := ⟨RX11, "seat", "(I)I"⟩
abbrev cX11_mute : ByteArray := prog_1_method_11_code
def yX11_mute : MethodName := ⟨RX11, "mute", "(II)I"⟩
abbrev cX11_noise : ByteArray := prog_1_method_12_code
def yX11_noise : MethodName := ⟨RX11, "noise", "(II)I"⟩
abbrev cX11_kept : ByteArray := prog_1_method_13_code
def yX11_kept : MethodName := ⟨RX11, "kept", "(II)I"⟩
abbrev cX11_mean : ByteArray := prog_1_method_14_code
def yX11_mean : MethodName := ⟨RX11, "mean", "(I)J"⟩
abbrev cX11_odds : ByteArray := prog_1_method_15_code
def yX11_odds : MethodName := ⟨RX11, "odds", "(I)I"⟩
abbrev cX11_hire : ByteArray := prog_1_method_16_code
def yX11_hire : MethodName := ⟨RX11, "hire", "(IIII)I"⟩
abbrev cX11_change : ByteArray := prog_1_method_17_code
def yX11_change : MethodName := ⟨RX11, "change", "(II)I"⟩
abbrev cX11_points : ByteArray := prog_1_method_18_code
def yX11_points : MethodName := ⟨RX11, "points", "(II)J"⟩
abbrev cX11_fell : ByteArray := prog_1_method_19_code
def yX11_fell : MethodName := ⟨RX11, "fell", "(II)I"⟩
abbrev cX11_asked : ByteArray := prog_1_method_20_code
def yX11_asked : MethodName := ⟨RX11, "asked", "(II)I"⟩
abbrev cX11_loudest : ByteArray := prog_1_method_21_code
def yX11_loudest : MethodName := ⟨RX11, "loudest", "(I)I"⟩
abbrev cX11_minutes : ByteArray := prog_1_method_22_code
def yX11_minutes : MethodName := ⟨RX11, "minutes", "(I)I"⟩
abbrev cX11_point : ByteArray := prog_1_method_23_code
def yX11_point : MethodName := ⟨RX11, "point", "(I)Z"⟩
abbrev cX11_move : ByteArray := prog_1_method_24_code
def yX11_move : MethodName := ⟨RX11, "move", "(II)Z"⟩
abbrev cX11_take : ByteArray := prog_1_method_25_code
def yX11_take : MethodName := ⟨RX11, "take", "(III)Z"⟩
abbrev cX11_dismiss : ByteArray := prog_1_method_26_code
def yX11_dismiss : MethodName := ⟨RX11, "dismiss", "(I)Z"⟩
abbrev cX11_undo : ByteArray := prog_1_method_27_code
def yX11_undo : MethodName := ⟨RX11, "undo", "()Z"⟩
abbrev cX11_seed : ByteArray := prog_1_method_28_code
def yX11_seed : MethodName := ⟨RX11, "seed", "(I)Z"⟩
abbrev cX11_ask : ByteArray := prog_1_method_29_code
def yX11_ask : MethodName := ⟨RX11, "ask", "()J"⟩
abbrev cX11_image : ByteArray := prog_1_method_30_code
def yX11_image : MethodName := ⟨RX11, "image", "()I"⟩
abbrev cX11_octet : ByteArray := prog_1_method_31_code
def yX11_octet : MethodName := ⟨RX11, "octet", "(I)I"⟩
abbrev cX11_on : ByteArray := prog_1_method_32_code
def yX11_on : MethodName := ⟨RX11, "on", "()Z"⟩
abbrev cX11_status : ByteArray := prog_1_method_33_code
def yX11_status : MethodName := ⟨RX11, "status", "(I)I"⟩
abbrev cX11_refuse : ByteArray := prog_1_method_34_code
def yX11_refuse : MethodName := ⟨RX11, "refuse", "(I)Z"⟩
abbrev cX11_isSide : ByteArray := prog_1_method_35_code
def yX11_isSide : MethodName := ⟨RX11, "isSide", "(I)Z"⟩
abbrev cX11_putBytes : ByteArray := prog_1_method_36_code
def yX11_putBytes : MethodName := ⟨RX11, "putBytes", "(I)V"⟩
abbrev cX11_takeTape : ByteArray := prog_1_method_37_code
def yX11_takeTape : MethodName := ⟨RX11, "takeTape", "()I"⟩
abbrev cX11_drawOfHundred : ByteArray := prog_1_method_38_code
def yX11_drawOfHundred : MethodName := ⟨RX11, "drawOfHundred", "()I"⟩
abbrev cX11_passMinute : ByteArray := prog_1_method_39_code
def yX11_passMinute : MethodName := ⟨RX11, "passMinute", "()I"⟩
abbrev cX11_cut : ByteArray := prog_1_method_40_code
def yX11_cut : MethodName := ⟨RX11, "cut", "(JII)I"⟩
def RX12 : String := "SilentCourtModel"
def TX12 : u_T := fun k => match k with
  | 0 => ("SilentCourtModel", "tape", "[I", true)
  | 1 => ("SilentCourtModel", "taped", "I", false)
  | 2 => ("SilentCourtModel", "at", "I", false)
  | 3 => ("SilentCourtModel", "end", "I", false)
  | 4 => ("SilentCourtModel", "ended", "I", false)
  | 5 => ("SilentCourtModel", "bad", "I", false)
  | 6 => ("SilentCourtModel", "badPlace", "I", false)
  | 7 => ("SilentCourtModel", "fault", "I", false)
  | 8 => ("SilentCourtModel", "faultPlace", "I", false)
  | 9 => ("SilentCourtModel", "refused", "[I", true)
  | 10 => ("SilentCourtModel", "numberPlace", "I", false)
  | 11 => ("SilentCourtModel", "hallWord", "[C", true)
  | 12 => ("SilentCourtModel", "personWord", "[C", true)
  | 13 => ("SilentCourtModel", "keepsWord", "[C", true)
  | 14 => ("SilentCourtModel", "itchesWord", "[C", true)
  | 15 => ("SilentCourtModel", "forWord", "[C", true)
  | 16 => ("SilentCourtModel", "judgeWord", "[C", true)
  | 17 => ("SilentCourtModel", "rogueWord", "[C", true)
  | 18 => ("SilentCourtModel", "nobodyWord", "[C", true)
  | 19 => ("SilentCourtModel", "atWord", "[C", true)
  | 20 => ("SilentCourtModel", "hatesWord", "[C", true)
  | 21 => ("SilentCourtModel", "pointWord", "[C", true)
  | 22 => ("SilentCourtModel", "noiseWord", "[C", true)
  | 23 => ("SilentCourtModel", "seatWord", "[C", true)
  | 24 => ("SilentCourtModel", "loudWord", "[C", true)
  | 25 => ("SilentCourtModel", "muteWord", "[C", true)
  | 26 => ("SilentCourtModel", "costsWord", "[C", true)
  | 27 => ("SilentCourtModel", "weighWord", "[C", true)
  | 28 => ("SilentCourtModel", "coughWord", "[C", true)
  | 29 => ("SilentCourtModel", "nearWord", "[C", true)
  | 30 => ("SilentCourtModel", "hatedWord", "[C", true)
  | 31 => ("SilentCourtModel", "askedWord", "[C", true)
  | 32 => ("SilentCourtModel", "minuteWord", "[C", true)
  | 33 => ("SilentCourtModel", "numberWord", "[C", true)
  | 34 => ("SilentCourtModel", "partyWord", "[C", true)
  | 35 => ("SilentCourtModel", "orWord", "[C", true)
  | 36 => ("SilentCourtModel", "andWord", "[C", true)
  | 37 => ("SilentCourtModel", "notWord", "[C", true)
  | 38 => ("SilentCourtModel", "allWord", "[C", true)
  | 39 => ("SilentCourtModel", "minWord", "[C", true)
  | 40 => ("SilentCourtModel", "maxWord", "[C", true)
  | 41 => ("SilentCourtModel", "besideWord", "[C", true)
  | 42 => ("SilentCourtModel", "namePlace", "I", false)
  | 43 => ("SilentCourtModel", "many", "[I", true)
  | 44 => ("SilentCourtModel", "names", "[J", true)
  | 45 => ("SilentCourtModel", "people", "[I", true)
  | 46 => ("SilentCourtModel", "mutes", "[I", true)
  | 47 => ("SilentCourtModel", "points0", "[I", true)
  | 48 => ("SilentCourtModel", "noises", "[I", true)
  | 49 => ("SilentCourtModel", "hates", "[I", true)
  | 50 => ("SilentCourtModel", "sumFrom", "[I", true)
  | 51 => ("SilentCourtModel", "sumEnd", "[I", true)
  | 52 => ("SilentCourtModel", "statements", "I", false)
  | 53 => ("SilentCourtModel", "isHall", "Z", false)
  | 54 => ("SilentCourtModel", "codes", "[I", true)
  | 55 => ("SilentCourtModel", "coded", "I", false)
  | 56 => ("SilentCourtModel", "wait", "[I", true)
  | 57 => ("SilentCourtModel", "waits", "I", false)
  | 58 => ("SilentCourtModel", "open", "I", false)
  | 59 => ("SilentCourtModel", "base", "I", false)
  | 60 => ("SilentCourtModel", "pile", "[J", true)
  | 61 => ("SilentCourtModel", "piled", "I", false)
  | 62 => ("SilentCourtModel", "ask", "[I", true)
  | 63 => ("SilentCourtModel", "now", "[I", true)
  | 64 => ("SilentCourtModel", "aside", "[I", true)
  | 65 => ("SilentCourtModel", "quiet", "I", false)
  | 66 => ("SilentCourtModel", "itcher", "[I", true)
  | 67 => ("SilentCourtModel", "silentMove", "[I", true)
  | 68 => ("SilentCourtModel", "coughMove", "[I", true)
  | 69 => ("SilentCourtModel", "itchers", "I", false)
  | 70 => ("SilentCourtModel", "othersMove", "I", false)
  | 71 => ("SilentCourtModel", "pointMoves", "[J", true)
  | 72 => ("SilentCourtModel", "back0", "[I", true)
  | 73 => ("SilentCourtModel", "undoable", "I", false)
  | 74 => ("SilentCourtModel", "newest", "I", false)
  | 75 => ("SilentCourtModel", "seeded", "J", false)
  | 76 => ("SilentCourtModel", "firstAsked", "[C", true)
  | 77 => ("SilentCourtModel", "lastAsked", "[C", true)
  | 78 => ("SilentCourtModel", "oftenAsked", "[C", true)
  | 79 => ("SilentCourtModel", "totalAsked", "[C", true)
  | 80 => ("SilentCourtModel", "mostAsked", "[C", true)
  | 81 => ("SilentCourtModel", "leastAsked", "[C", true)
  | 82 => ("SilentCourtModel", "notAsked", "[C", true)
  | 83 => ("SilentCourtModel", "andAsked", "[C", true)
  | 84 => ("SilentCourtModel", "orAsked", "[C", true)
  | 85 => ("SilentCourtModel", "allAsked", "[C", true)
  | 86 => ("SilentCourtModel", "minAsked", "[C", true)
  | 87 => ("SilentCourtModel", "maxAsked", "[C", true)
  | 88 => ("SilentCourtModel", "keepsAsked", "[C", true)
  | 89 => ("SilentCourtModel", "itchesAsked", "[C", true)
  | 90 => ("SilentCourtModel", "nearAsked", "[C", true)
  | 91 => ("SilentCourtModel", "hatedAsked", "[C", true)
  | 92 => ("SilentCourtModel", "askedAsked", "[C", true)
  | 93 => ("SilentCourtModel", "noiseAsked", "[C", true)
  | 94 => ("SilentCourtModel", "seatAsked", "[C", true)
  | 95 => ("SilentCourtModel", "minuteAsked", "[C", true)
  | 96 => ("SilentCourtModel", "numberAsked", "[C", true)
  | 97 => ("SilentCourtModel", "partyAsked", "[C", true)
  | 98 => ("SilentCourtModel", "besideAsked", "[C", true)
  | 99 => ("SilentCourtModel", "qCodes", "[I", true)
  | 100 => ("SilentCourtModel", "qCoded", "I", false)
  | 101 => ("SilentCourtModel", "qWait", "[I", true)
  | 102 => ("SilentCourtModel", "qWaits", "I", false)
  | 103 => ("SilentCourtModel", "qOpened", "I", false)
  | 104 => ("SilentCourtModel", "qBase", "I", false)
  | 105 => ("SilentCourtModel", "qPile", "[J", true)
  | 106 => ("SilentCourtModel", "qPiled", "I", false)
  | 107 => ("SilentCourtModel", "qAnswer", "J", false)
  | 108 => ("SilentCourtModel", "qIsNew", "Z", false)
  | 109 => ("SilentCourtModel", "octet", "[I", true)
  | _ => ("SilentCourtModel", "octets", "I", false)
def tyX12 : Nat → FieldType := fun k => match k with
  | 0 => .array .int
  | 1 => .int
  | 2 => .int
  | 3 => .int
  | 4 => .int
  | 5 => .int
  | 6 => .int
  | 7 => .int
  | 8 => .int
  | 9 => .array .int
  | 10 => .int
  | 11 => .array .char
  | 12 => .array .char
  | 13 => .array .char
  | 14 => .array .char
  | 15 => .array .char
  | 16 => .array .char
  | 17 => .array .char
  | 18 => .array .char
  | 19 => .array .char
  | 20 => .array .char
  | 21 => .array .char
  | 22 => .array .char
  | 23 => .array .char
  | 24 => .array .char
  | 25 => .array .char
  | 26 => .array .char
  | 27 => .array .char
  | 28 => .array .char
  | 29 => .array .char
  | 30 => .array .char
  | 31 => .array .char
  | 32 => .array .char
  | 33 => .array .char
  | 34 => .array .char
  | 35 => .array .char
  | 36 => .array .char
  | 37 => .array .char
  | 38 => .array .char
  | 39 => .array .char
  | 40 => .array .char
  | 41 => .array .char
  | 42 => .int
  | 43 => .array .int
  | 44 => .array .long
  | 45 => .array .int
  | 46 => .array .int
  | 47 => .array .int
  | 48 => .array .int
  | 49 => .array .int
  | 50 => .array .int
  | 51 => .array .int
  | 52 => .int
  | 53 => .boolean
  | 54 => .array .int
  | 55 => .int
  | 56 => .array .int
  | 57 => .int
  | 58 => .int
  | 59 => .int
  | 60 => .array .long
  | 61 => .int
  | 62 => .array .int
  | 63 => .array .int
  | 64 => .array .int
  | 65 => .int
  | 66 => .array .int
  | 67 => .array .int
  | 68 => .array .int
  | 69 => .int
  | 70 => .int
  | 71 => .array .long
  | 72 => .array .int
  | 73 => .int
  | 74 => .int
  | 75 => .long
  | 76 => .array .char
  | 77 => .array .char
  | 78 => .array .char
  | 79 => .array .char
  | 80 => .array .char
  | 81 => .array .char
  | 82 => .array .char
  | 83 => .array .char
  | 84 => .array .char
  | 85 => .array .char
  | 86 => .array .char
  | 87 => .array .char
  | 88 => .array .char
  | 89 => .array .char
  | 90 => .array .char
  | 91 => .array .char
  | 92 => .array .char
  | 93 => .array .char
  | 94 => .array .char
  | 95 => .array .char
  | 96 => .array .char
  | 97 => .array .char
  | 98 => .array .char
  | 99 => .array .int
  | 100 => .int
  | 101 => .array .int
  | 102 => .int
  | 103 => .int
  | 104 => .int
  | 105 => .array .long
  | 106 => .int
  | 107 => .long
  | 108 => .boolean
  | 109 => .array .int
  | _ => .int
abbrev wsX120 : List Cond := u_ws RX12 TX12 111
theorem nmX12 : ∀ a, a < 111 → ∀ b, b < 111 → a ≠ b → (TX12 a).2.1 ≠ (TX12 b).2.1 := by decide +kernel
theorem tyX12_ok : ∀ k, k < 111 → parseFieldDescriptor (TX12 k).2.2.1 = some (tyX12 k) := by decide +kernel
abbrev cX12_init : ByteArray := prog_14_method_1_code
def yX12_init : MethodName := ⟨RX12, "<init>", "()V"⟩
abbrev cX12_isIn : ByteArray := prog_14_method_2_code
def yX12_isIn : MethodName := ⟨RX12, "isIn", "(JJJ)Z"⟩
abbrev cX12_feed : ByteArray := prog_14_method_3_code
def yX12_feed : MethodName := ⟨RX12, "feed", "(IIIII)I"⟩
abbrev cX12_end : ByteArray := prog_14_method_4_code
def yX12_end : MethodName := ⟨RX12, "end", "(I)Z"⟩
abbrev cX12_fail : ByteArray := prog_14_method_5_code
def yX12_fail : MethodName := ⟨RX12, "fail", "(II)V"⟩
abbrev cX12_isLetter : ByteArray := prog_14_method_6_code
def yX12_isLetter : MethodName := ⟨RX12, "isLetter", "(I)Z"⟩
abbrev cX12_isDigit : ByteArray := prog_14_method_7_code
def yX12_isDigit : MethodName := ⟨RX12, "isDigit", "(I)Z"⟩
abbrev cX12_look : ByteArray := prog_14_method_8_code
def yX12_look : MethodName := ⟨RX12, "look", "()I"⟩
abbrev cX12_isHere : ByteArray := prog_14_method_9_code
def yX12_isHere : MethodName := ⟨RX12, "isHere", "([C)Z"⟩
abbrev cX12_takes : ByteArray := prog_14_method_10_code
def yX12_takes : MethodName := ⟨RX12, "takes", "([C)Z"⟩
abbrev cX12_asks : ByteArray := prog_14_method_11_code
def yX12_asks : MethodName := ⟨RX12, "asks", "([C)V"⟩
abbrev cX12_takesSign : ByteArray := prog_14_method_12_code
def yX12_takesSign : MethodName := ⟨RX12, "takesSign", "(I)Z"⟩
abbrev cX12_asksSign : ByteArray := prog_14_method_13_code
def yX12_asksSign : MethodName := ⟨RX12, "asksSign", "(I)V"⟩
abbrev cX12_number : ByteArray := prog_14_method_14_code
def yX12_number : MethodName := ⟨RX12, "number", "(II)I"⟩
abbrev cX12_isOwnHere : ByteArray := prog_14_method_15_code
def yX12_isOwnHere : MethodName := ⟨RX12, "isOwnHere", "()Z"⟩
abbrev cX12_name : ByteArray := prog_14_method_16_code
def yX12_name : MethodName := ⟨RX12, "name", "()J"⟩
abbrev cX12_isFull : ByteArray := prog_14_method_17_code
def yX12_isFull : MethodName := ⟨RX12, "isFull", "(III)Z"⟩
abbrev cX12_nameOf : ByteArray := prog_14_method_18_code
def yX12_nameOf : MethodName := ⟨RX12, "nameOf", "(IJ)I"⟩
abbrev cX12_newName : ByteArray := prog_14_method_19_code
def yX12_newName : MethodName := ⟨RX12, "newName", "()J"⟩
abbrev cX12_hallTold : ByteArray := prog_14_method_20_code
def yX12_hallTold : MethodName := ⟨RX12, "hallTold", "()V"⟩
abbrev cX12_partyHere : ByteArray := prog_14_method_21_code
def yX12_partyHere : MethodName := ⟨RX12, "partyHere", "()I"⟩
abbrev cX12_personTold : ByteArray := prog_14_method_22_code
def yX12_personTold : MethodName := ⟨RX12, "personTold", "(I)V"⟩
abbrev cX12_sitterHere : ByteArray := prog_14_method_23_code
def yX12_sitterHere : MethodName := ⟨RX12, "sitterHere", "()I"⟩
abbrev cX12_hatredTold : ByteArray := prog_14_method_24_code
def yX12_hatredTold : MethodName := ⟨RX12, "hatredTold", "(I)V"⟩
abbrev cX12_pointTold : ByteArray := prog_14_method_25_code
def yX12_pointTold : MethodName := ⟨RX12, "pointTold", "(I)V"⟩
abbrev cX12_noiseTold : ByteArray := prog_14_method_26_code
def yX12_noiseTold : MethodName := ⟨RX12, "noiseTold", "(I)V"⟩
abbrev cX12_muteTold : ByteArray := prog_14_method_27_code
def yX12_muteTold : MethodName := ⟨RX12, "muteTold", "(I)V"⟩
abbrev cX12_sumIsTold : ByteArray := prog_14_method_28_code
def yX12_sumIsTold : MethodName := ⟨RX12, "sumIsTold", "(II)V"⟩
abbrev cX12_statementTold : ByteArray := prog_14_method_29_code
def yX12_statementTold : MethodName := ⟨RX12, "statementTold", "()V"⟩
abbrev cX12_hall : ByteArray := prog_14_method_30_code
def yX12_hall : MethodName := ⟨RX12, "hall", "()I"⟩
abbrev cX12_stands : ByteArray := prog_14_method_31_code
def yX12_stands : MethodName := ⟨RX12, "stands", "()V"⟩
abbrev cX12_code : ByteArray := prog_14_method_32_code
def yX12_code : MethodName := ⟨RX12, "code", "(I)V"⟩
abbrev cX12_opens : ByteArray := prog_14_method_33_code
def yX12_opens : MethodName := ⟨RX12, "opens", "(II)V"⟩
abbrev cX12_isOn : ByteArray := prog_14_method_34_code
def yX12_isOn : MethodName := ⟨RX12, "isOn", "(I)Z"⟩
abbrev cX12_drops : ByteArray := prog_14_method_35_code
def yX12_drops : MethodName := ⟨RX12, "drops", "()V"⟩
abbrev cX12_isMark : ByteArray := prog_14_method_36_code
def yX12_isMark : MethodName := ⟨RX12, "isMark", "(I)Z"⟩
abbrev cX12_waitsLast : ByteArray := prog_14_method_37_code
def yX12_waitsLast : MethodName := ⟨RX12, "waitsLast", "()I"⟩
abbrev cX12_dropsToMark : ByteArray := prog_14_method_38_code
def yX12_dropsToMark : MethodName := ⟨RX12, "dropsToMark", "()V"⟩
abbrev cX12_onePart : ByteArray := prog_14_method_39_code
def yX12_onePart : MethodName := ⟨RX12, "onePart", "()V"⟩
abbrev cX12_goesOn : ByteArray := prog_14_method_40_code
def yX12_goesOn : MethodName := ⟨RX12, "goesOn", "()Z"⟩
abbrev cX12_sumsTold : ByteArray := prog_14_method_41_code
def yX12_sumsTold : MethodName := ⟨RX12, "sumsTold", "()V"⟩
abbrev cX12_fault : ByteArray := prog_14_method_42_code
def yX12_fault : MethodName := ⟨RX12, "fault", "(I)I"⟩
abbrev cX12_clip : ByteArray := prog_14_method_43_code
def yX12_clip : MethodName := ⟨RX12, "clip", "(J)J"⟩
abbrev cX12_floor : ByteArray := prog_14_method_44_code
def yX12_floor : MethodName := ⟨RX12, "floor", "(JJ)J"⟩
abbrev cX12_puts : ByteArray := prog_14_method_45_code
def yX12_puts : MethodName := ⟨RX12, "puts", "(J)V"⟩
abbrev cX12_joins : ByteArray := prog_14_method_46_code
def yX12_joins : MethodName := ⟨RX12, "joins", "(I)V"⟩
abbrev cX12_seatMany : ByteArray := prog_14_method_47_code
def yX12_seatMany : MethodName := ⟨RX12, "seatMany", "()I"⟩
abbrev cX12_peopleMany : ByteArray := prog_14_method_48_code
def yX12_peopleMany : MethodName := ⟨RX12, "peopleMany", "()I"⟩
abbrev cX12_muteMany : ByteArray := prog_14_method_49_code
def yX12_muteMany : MethodName := ⟨RX12, "muteMany", "()I"⟩
abbrev cX12_pointMany : ByteArray := prog_14_method_50_code
def yX12_pointMany : MethodName := ⟨RX12, "pointMany", "()I"⟩
abbrev cX12_isSeat : ByteArray := prog_14_method_51_code
def yX12_isSeat : MethodName := ⟨RX12, "isSeat", "(I)Z"⟩
abbrev cX12_seatOf : ByteArray := prog_14_method_52_code
def yX12_seatOf : MethodName := ⟨RX12, "seatOf", "(I)I"⟩
abbrev cX12_doesSit : ByteArray := prog_14_method_53_code
def yX12_doesSit : MethodName := ⟨RX12, "doesSit", "(I)Z"⟩
abbrev cX12_sitterAt : ByteArray := prog_14_method_54_code
def yX12_sitterAt : MethodName := ⟨RX12, "sitterAt", "(I)I"⟩
abbrev cX12_isMute : ByteArray := prog_14_method_55_code
def yX12_isMute : MethodName := ⟨RX12, "isMute", "(I)Z"⟩
abbrev cX12_keepsOf : ByteArray := prog_14_method_56_code
def yX12_keepsOf : MethodName := ⟨RX12, "keepsOf", "(I)I"⟩
abbrev cX12_itchesOf : ByteArray := prog_14_method_57_code
def yX12_itchesOf : MethodName := ⟨RX12, "itchesOf", "(I)I"⟩
abbrev cX12_partyOf : ByteArray := prog_14_method_58_code
def yX12_partyOf : MethodName := ⟨RX12, "partyOf", "(I)I"⟩
abbrev cX12_isBeside : ByteArray := prog_14_method_59_code
def yX12_isBeside : MethodName := ⟨RX12, "isBeside", "(II)Z"⟩
abbrev cX12_nearOf : ByteArray := prog_14_method_60_code
def yX12_nearOf : MethodName := ⟨RX12, "nearOf", "(I)I"⟩
abbrev cX12_hatedOf : ByteArray := prog_14_method_61_code
def yX12_hatedOf : MethodName := ⟨RX12, "hatedOf", "(I)I"⟩
abbrev cX12_askedOf : ByteArray := prog_14_method_62_code
def yX12_askedOf : MethodName := ⟨RX12, "askedOf", "(I)I"⟩
abbrev cX12_noiseAt : ByteArray := prog_14_method_63_code
def yX12_noiseAt : MethodName := ⟨RX12, "noiseAt", "(II)I"⟩
abbrev cX12_told : ByteArray := prog_14_method_64_code
def yX12_told : MethodName := ⟨RX12, "told", "(II)I"⟩
abbrev cX12_weightOf : ByteArray := prog_14_method_65_code
def yX12_weightOf : MethodName := ⟨RX12, "weightOf", "(I)I"⟩
abbrev cX12_coughOf : ByteArray := prog_14_method_66_code
def yX12_coughOf : MethodName := ⟨RX12, "coughOf", "(I)I"⟩
abbrev cX12_signOf : ByteArray := prog_14_method_67_code
def yX12_signOf : MethodName := ⟨RX12, "signOf", "(I)I"⟩
abbrev cX12_moves : ByteArray := prog_14_method_68_code
def yX12_moves : MethodName := ⟨RX12, "moves", "(IZ)I"⟩
abbrev cX12_hiredMany : ByteArray := prog_14_method_69_code
def yX12_hiredMany : MethodName := ⟨RX12, "hiredMany", "()I"⟩
abbrev cX12_has : ByteArray := prog_14_method_70_code
def yX12_has : MethodName := ⟨RX12, "has", "(I)I"⟩
abbrev cX12_scale : ByteArray := prog_14_method_71_code
def yX12_scale : MethodName := ⟨RX12, "scale", "()I"⟩
abbrev cX12_letter : ByteArray := prog_14_method_72_code
def yX12_letter : MethodName := ⟨RX12, "letter", "(III)I"⟩
abbrev cX12_sits : ByteArray := prog_14_method_73_code
def yX12_sits : MethodName := ⟨RX12, "sits", "(II)I"⟩
abbrev cX12_seat : ByteArray := prog_14_method_74_code
def yX12_seat : MethodName := ⟨RX12, "seat", "(I)I"⟩
abbrev cX12_mute : ByteArray := prog_14_method_75_code
def yX12_mute : MethodName := ⟨RX12, "mute", "(II)I"⟩
abbrev cX12_noise : ByteArray := prog_14_method_76_code
def yX12_noise : MethodName := ⟨RX12, "noise", "(II)I"⟩
abbrev cX12_kept : ByteArray := prog_14_method_77_code
def yX12_kept : MethodName := ⟨RX12, "kept", "(II)I"⟩
abbrev cX12_putsAside : ByteArray := prog_14_method_78_code
def yX12_putsAside : MethodName := ⟨RX12, "putsAside", "()V"⟩
abbrev cX12_takesBack : ByteArray := prog_14_method_79_code
def yX12_takesBack : MethodName := ⟨RX12, "takesBack", "()V"⟩
abbrev cX12_meanMove : ByteArray := prog_14_method_80_code
def yX12_meanMove : MethodName := ⟨RX12, "meanMove", "()J"⟩
abbrev cX12_meanOf : ByteArray := prog_14_method_81_code
def yX12_meanOf : MethodName := ⟨RX12, "meanOf", "(I)J"⟩
abbrev cX12_isAhead : ByteArray := prog_14_method_82_code
def yX12_isAhead : MethodName := ⟨RX12, "isAhead", "(III)Z"⟩
abbrev cX12_mean : ByteArray := prog_14_method_83_code
def yX12_mean : MethodName := ⟨RX12, "mean", "(I)J"⟩
abbrev cX12_laysItchers : ByteArray := prog_14_method_84_code
def yX12_laysItchers : MethodName := ⟨RX12, "laysItchers", "()V"⟩
abbrev cX12_movedBy : ByteArray := prog_14_method_85_code
def yX12_movedBy : MethodName := ⟨RX12, "movedBy", "(I)I"⟩
abbrev cX12_waysOf : ByteArray := prog_14_method_86_code
def yX12_waysOf : MethodName := ⟨RX12, "waysOf", "(I)J"⟩
abbrev cX12_odds : ByteArray := prog_14_method_87_code
def yX12_odds : MethodName := ⟨RX12, "odds", "(I)I"⟩
abbrev cX12_freeSeat : ByteArray := prog_14_method_88_code
def yX12_freeSeat : MethodName := ⟨RX12, "freeSeat", "()I"⟩
abbrev cX12_areSeated : ByteArray := prog_14_method_89_code
def yX12_areSeated : MethodName := ⟨RX12, "areSeated", "(II)Z"⟩
abbrev cX12_bits : ByteArray := prog_14_method_90_code
def yX12_bits : MethodName := ⟨RX12, "bits", "(I)I"⟩
abbrev cX12_costsOf : ByteArray := prog_14_method_91_code
def yX12_costsOf : MethodName := ⟨RX12, "costsOf", "(I)I"⟩
abbrev cX12_isEnough : ByteArray := prog_14_method_92_code
def yX12_isEnough : MethodName := ⟨RX12, "isEnough", "(IIII)Z"⟩
abbrev cX12_hire : ByteArray := prog_14_method_93_code
def yX12_hire : MethodName := ⟨RX12, "hire", "(IIII)I"⟩
abbrev cX12_changes : ByteArray := prog_14_method_94_code
def yX12_changes : MethodName := ⟨RX12, "changes", "(II)V"⟩
abbrev cX12_change : ByteArray := prog_14_method_95_code
def yX12_change : MethodName := ⟨RX12, "change", "(II)I"⟩
abbrev cX12_laysPointMoves : ByteArray := prog_14_method_96_code
def yX12_laysPointMoves : MethodName := ⟨RX12, "laysPointMoves", "(I)V"⟩
abbrev cX12_bestPoint : ByteArray := prog_14_method_97_code
def yX12_bestPoint : MethodName := ⟨RX12, "bestPoint", "(I)I"⟩
abbrev cX12_points : ByteArray := prog_14_method_98_code
def yX12_points : MethodName := ⟨RX12, "points", "(II)J"⟩
abbrev cX12_peopleIn : ByteArray := prog_14_method_99_code
def yX12_peopleIn : MethodName := ⟨RX12, "peopleIn", "(I)I"⟩
abbrev cX12_fell : ByteArray := prog_14_method_100_code
def yX12_fell : MethodName := ⟨RX12, "fell", "(II)I"⟩
abbrev cX12_asked : ByteArray := prog_14_method_101_code
def yX12_asked : MethodName := ⟨RX12, "asked", "(II)I"⟩
abbrev cX12_loudest : ByteArray := prog_14_method_102_code
def yX12_loudest : MethodName := ⟨RX12, "loudest", "(I)I"⟩
abbrev cX12_keeps : ByteArray := prog_14_method_103_code
def yX12_keeps : MethodName := ⟨RX12, "keeps", "()V"⟩
abbrev cX12_undo : ByteArray := prog_14_method_104_code
def yX12_undo : MethodName := ⟨RX12, "undo", "()Z"⟩
abbrev cX12_seed : ByteArray := prog_14_method_105_code
def yX12_seed : MethodName := ⟨RX12, "seed", "(I)Z"⟩
abbrev cX12_drawOf : ByteArray := prog_14_method_106_code
def yX12_drawOf : MethodName := ⟨RX12, "drawOf", "(I)I"⟩
abbrev cX12_isKept : ByteArray := prog_14_method_107_code
def yX12_isKept : MethodName := ⟨RX12, "isKept", "(II)V"⟩
abbrev cX12_minuteGoes : ByteArray := prog_14_method_108_code
def yX12_minuteGoes : MethodName := ⟨RX12, "minuteGoes", "()I"⟩
abbrev cX12_minutes : ByteArray := prog_14_method_109_code
def yX12_minutes : MethodName := ⟨RX12, "minutes", "(I)I"⟩
abbrev cX12_refuses : ByteArray := prog_14_method_110_code
def yX12_refuses : MethodName := ⟨RX12, "refuses", "()Z"⟩
abbrev cX12_point : ByteArray := prog_14_method_111_code
def yX12_point : MethodName := ⟨RX12, "point", "(I)Z"⟩
abbrev cX12_move : ByteArray := prog_14_method_112_code
def yX12_move : MethodName := ⟨RX12, "move", "(II)Z"⟩
abbrev cX12_take : ByteArray := prog_14_method_113_code
def yX12_take : MethodName := ⟨RX12, "take", "(III)Z"⟩
abbrev cX12_dismiss : ByteArray := prog_14_method_114_code
def yX12_dismiss : MethodName := ⟨RX12, "dismiss", "(I)Z"⟩
abbrev cX12_qCode : ByteArray := prog_14_method_115_code
def yX12_qCode : MethodName := ⟨RX12, "qCode", "(I)V"⟩
abbrev cX12_qOpens : ByteArray := prog_14_method_116_code
def yX12_qOpens : MethodName := ⟨RX12, "qOpens", "(II)V"⟩
abbrev cX12_qIsOn : ByteArray := prog_14_method_117_code
def yX12_qIsOn : MethodName := ⟨RX12, "qIsOn", "(I)Z"⟩
abbrev cX12_qDrops : ByteArray := prog_14_method_118_code
def yX12_qDrops : MethodName := ⟨RX12, "qDrops", "()V"⟩
abbrev cX12_qIsBracket : ByteArray := prog_14_method_119_code
def yX12_qIsBracket : MethodName := ⟨RX12, "qIsBracket", "(I)Z"⟩
abbrev cX12_qBracket : ByteArray := prog_14_method_120_code
def yX12_qBracket : MethodName := ⟨RX12, "qBracket", "()I"⟩
abbrev cX12_qDropsToBracket : ByteArray := prog_14_method_121_code
def yX12_qDropsToBracket : MethodName := ⟨RX12, "qDropsToBracket", "()V"⟩
abbrev cX12_qWordHere : ByteArray := prog_14_method_122_code
def yX12_qWordHere : MethodName := ⟨RX12, "qWordHere", "()I"⟩
abbrev cX12_qWordOf : ByteArray := prog_14_method_123_code
def yX12_qWordOf : MethodName := ⟨RX12, "qWordOf", "(II)I"⟩
abbrev cX12_qAsksWord : ByteArray := prog_14_method_124_code
def yX12_qAsksWord : MethodName := ⟨RX12, "qAsksWord", "(I)V"⟩
abbrev cX12_qEndsPart : ByteArray := prog_14_method_125_code
def yX12_qEndsPart : MethodName := ⟨RX12, "qEndsPart", "()V"⟩
abbrev cX12_qPartTold : ByteArray := prog_14_method_126_code
def yX12_qPartTold : MethodName := ⟨RX12, "qPartTold", "()V"⟩
abbrev cX12_qGoesOn : ByteArray := prog_14_method_127_code
def yX12_qGoesOn : MethodName := ⟨RX12, "qGoesOn", "()Z"⟩
abbrev cX12_qSums : ByteArray := prog_14_method_128_code
def yX12_qSums : MethodName := ⟨RX12, "qSums", "()V"⟩
abbrev cX12_qFact : ByteArray := prog_14_method_129_code
def yX12_qFact : MethodName := ⟨RX12, "qFact", "()V"⟩
abbrev cX12_qHasSquare : ByteArray := prog_14_method_130_code
def yX12_qHasSquare : MethodName := ⟨RX12, "qHasSquare", "()Z"⟩
abbrev cX12_qDropsNots : ByteArray := prog_14_method_131_code
def yX12_qDropsNots : MethodName := ⟨RX12, "qDropsNots", "()V"⟩
abbrev cX12_qTest : ByteArray := prog_14_method_132_code
def yX12_qTest : MethodName := ⟨RX12, "qTest", "()V"⟩
abbrev cX12_qGoesOnTest : ByteArray := prog_14_method_133_code
def yX12_qGoesOnTest : MethodName := ⟨RX12, "qGoesOnTest", "()Z"⟩
abbrev cX12_qClip : ByteArray := prog_14_method_134_code
def yX12_qClip : MethodName := ⟨RX12, "qClip", "(J)J"⟩
abbrev cX12_qFloor : ByteArray := prog_14_method_135_code
def yX12_qFloor : MethodName := ⟨RX12, "qFloor", "(JJ)J"⟩
abbrev cX12_qPuts : ByteArray := prog_14_method_136_code
def yX12_qPuts : MethodName := ⟨RX12, "qPuts", "(J)V"⟩
abbrev cX12_qJoins : ByteArray := prog_14_method_137_code
def yX12_qJoins : MethodName := ⟨RX12, "qJoins", "(I)V"⟩
abbrev cX12_qPartOf : ByteArray := prog_14_method_138_code
def yX12_qPartOf : MethodName := ⟨RX12, "qPartOf", "(II)J"⟩
abbrev cX12_qOf : ByteArray := prog_14_method_139_code
def yX12_qOf : MethodName := ⟨RX12, "qOf", "(IJI)J"⟩
abbrev cX12_qTold : ByteArray := prog_14_method_140_code
def yX12_qTold : MethodName := ⟨RX12, "qTold", "(I)J"⟩
abbrev cX12_qKind : ByteArray := prog_14_method_141_code
def yX12_qKind : MethodName := ⟨RX12, "qKind", "()I"⟩
abbrev cX12_qTakes : ByteArray := prog_14_method_142_code
def yX12_qTakes : MethodName := ⟨RX12, "qTakes", "(IJI)V"⟩
abbrev cX12_ask : ByteArray := prog_14_method_143_code
def yX12_ask : MethodName := ⟨RX12, "ask", "()J"⟩
abbrev cX12_checked : ByteArray := prog_14_method_144_code
def yX12_checked : MethodName := ⟨RX12, "checked", "([II)I"⟩
abbrev cX12_writes : ByteArray := prog_14_method_145_code
def yX12_writes : MethodName := ⟨RX12, "writes", "(I)V"⟩
abbrev cX12_image : ByteArray := prog_14_method_146_code
def yX12_image : MethodName := ⟨RX12, "image", "()I"⟩
abbrev cX12_octet : ByteArray := prog_14_method_147_code
def yX12_octet : MethodName := ⟨RX12, "octet", "(I)I"⟩
abbrev cX12_scaleTold : ByteArray := prog_14_method_148_code
def yX12_scaleTold : MethodName := ⟨RX12, "scaleTold", "()I"⟩
abbrev cX12_seatTold : ByteArray := prog_14_method_149_code
def yX12_seatTold : MethodName := ⟨RX12, "seatTold", "(I)I"⟩
abbrev cX12_areSeatsTold : ByteArray := prog_14_method_150_code
def yX12_areSeatsTold : MethodName := ⟨RX12, "areSeatsTold", "()Z"⟩
abbrev cX12_isTold : ByteArray := prog_14_method_151_code
def yX12_isTold : MethodName := ⟨RX12, "isTold", "(I)Z"⟩
abbrev cX12_on : ByteArray := prog_14_method_152_code
def yX12_on : MethodName := ⟨RX12, "on", "()Z"⟩
abbrev cX12_status : ByteArray := prog_14_method_153_code
def yX12_status : MethodName := ⟨RX12, "status", "(I)I"⟩
def RJx8e188 : String := "java/lang/Cloneable"
def TJx8e188 : u_T := fun k => match k with
  | _ => ("", "", "", false)
def tyJx8e188 : Nat → FieldType := fun k => match k with
  | _ => .int
abbrev wsJx8e1880 : List Cond := u_ws RJx8e188 TJx8e188 0
theorem nmJx8e188 : ∀ a, a < 0 → ∀ b, b < 0 → a ≠ b → (TJx8e188 a).2.1 ≠ (TJx8e188 b).2.1 := by decide +kernel
theorem tyJx8e188_ok : ∀ k, k < 0 → parseFieldDescriptor (TJx8e188 k).2.2.1 = some (tyJx8e188 k) := by decide +kernel
def RJx29ce0 : String := "java/lang/Enum"
def TJx29ce0 : u_T := fun k => match k with
  | _ => ("", "", "", false)
def tyJx29ce0 : Nat → FieldType := fun k => match k with
  | _ => .int
abbrev wsJx29ce00 : List Cond := u_ws RJx29ce0 TJx29ce0 0
theorem nmJx29ce0 : ∀ a, a < 0 → ∀ b, b < 0 → a ≠ b → (TJx29ce0 a).2.1 ≠ (TJx29ce0 b).2.1 := by decide +kernel
theorem tyJx29ce0_ok : ∀ k, k < 0 → parseFieldDescriptor (TJx29ce0 k).2.2.1 = some (tyJx29ce0 k) := by decide +kernel
def RJ6 : String := "java/lang/Integer"
def TJ6 : u_T := fun k => match k with
  | _ => ("", "", "", false)
def tyJ6 : Nat → FieldType := fun k => match k with
  | _ => .int
abbrev wsJ60 : List Cond := u_ws RJ6 TJ6 0
theorem nmJ6 : ∀ a, a < 0 → ∀ b, b < 0 → a ≠ b → (TJ6 a).2.1 ≠ (TJ6 b).2.1 := by decide +kernel
theorem tyJ6_ok : ∀ k, k < 0 → parseFieldDescriptor (TJ6 k).2.2.1 = some (tyJ6 k) := by decide +kernel
abbrev cJ6_bitCount_0f7a4 : ByteArray := prog_17_method_49_code
def yJ6_bitCount_0f7a4 : MethodName := ⟨RJ6, "bitCount", "(I)I"⟩
def RJ9 : String := "java/lang/Math"
def TJ9 : u_T := fun k => match k with
  | _ => ("", "", "", false)
def tyJ9 : Nat → FieldType := fun k => match k with
  | _ => .int
abbrev wsJ90 : List Cond := u_ws RJ9 TJ9 0
theorem nmJ9 : ∀ a, a < 0 → ∀ b, b < 0 → a ≠ b → (TJ9 a).2.1 ≠ (TJ9 b).2.1 := by decide +kernel
theorem tyJ9_ok : ∀ k, k < 0 → parseFieldDescriptor (TJ9 k).2.2.1 = some (tyJ9 k) := by decide +kernel
abbrev cJ9_floorDiv_7cf53 : ByteArray := prog_18_method_47_code
def yJ9_floorDiv_7cf53 : MethodName := ⟨RJ9, "floorDiv", "(II)I"⟩
abbrev cJ9_abs_0f7a4 : ByteArray := prog_18_method_59_code
def yJ9_abs_0f7a4 : MethodName := ⟨RJ9, "abs", "(I)I"⟩
abbrev cJ9_max_7cf53 : ByteArray := prog_18_method_65_code
def yJ9_max_7cf53 : MethodName := ⟨RJ9, "max", "(II)I"⟩
abbrev cJ9_max_f86c9 : ByteArray := prog_18_method_66_code
def yJ9_max_f86c9 : MethodName := ⟨RJ9, "max", "(JJ)J"⟩
abbrev cJ9_min_7cf53 : ByteArray := prog_18_method_69_code
def yJ9_min_7cf53 : MethodName := ⟨RJ9, "min", "(II)I"⟩
abbrev cJ9_min_f86c9 : ByteArray := prog_18_method_70_code
def yJ9_min_f86c9 : MethodName := ⟨RJ9, "min", "(JJ)J"⟩
def RJ10 : String := "java/lang/System"
def TJ10 : u_T := fun k => match k with
  | _ => ("", "", "", false)
def tyJ10 : Nat → FieldType := fun k => match k with
  | _ => .int
abbrev wsJ100 : List Cond := u_ws RJ10 TJ10 0
theorem nmJ10 : ∀ a, a < 0 → ∀ b, b < 0 → a ≠ b → (TJ10 a).2.1 ≠ (TJ10 b).2.1 := by decide +kernel
theorem tyJ10_ok : ∀ k, k < 0 → parseFieldDescriptor (TJ10 k).2.2.1 = some (tyJ10 k) := by decide +kernel
def RJ7 : String := "java/util/Arrays"
def TJ7 : u_T := fun k => match k with
  | _ => ("", "", "", false)
def tyJ7 : Nat → FieldType := fun k => match k with
  | _ => .int
abbrev wsJ70 : List Cond := u_ws RJ7 TJ7 0
theorem nmJ7 : ∀ a, a < 0 → ∀ b, b < 0 → a ≠ b → (TJ7 a).2.1 ≠ (TJ7 b).2.1 := by decide +kernel
theorem tyJ7_ok : ∀ k, k < 0 → parseFieldDescriptor (TJ7 k).2.2.1 = some (tyJ7 k) := by decide +kernel
abbrev cJ7_fill_53178 : ByteArray := prog_20_method_103_code
def yJ7_fill_53178 : MethodName := ⟨RJ7, "fill", "([II)V"⟩
abbrev cJ7_copyOf_59c91 : ByteArray := prog_20_method_123_code
def yJ7_copyOf_59c91 : MethodName := ⟨RJ7, "copyOf", "([II)[I"⟩
def RL : String := "SilentCourtLaw"
abbrev cL_law : ByteArray := code
def yL_law : MethodName := ⟨RL, "law", "([I)Z"⟩
abbrev vwCl : List vw_C := [(RX0, TX0, 12), (RX1, TX1, 2), (RX2, TX2, 5), (RX3, TX3, 19), (RX4, TX4, 4), (RX5, TX5, 2), (RX6, TX6, 3), (RX7, TX7, 4), (RX8, TX8, 13), (RX9, TX9, 8), (RX11, TX11, 15), (RX12, TX12, 111)]
