-- ===== PART A: goes FIRST, ahead of the names: the tables' words, and 'selects' of the private methods out of them =====
/-- a private method of a class that the tables say can be made, by its rows of tables_1 -/
def lw_okq (q : MethodName × Nat) : Prop := (q.1.cls ≠ "java/lang/invoke/MethodHandle" ∧ q.1.cls ≠ "java/lang/invoke/VarHandle") ∧ Cond.instantiable q.1.cls q.2 ∈ tables_1 ∧ Cond.privateMethod q.1 ∈ tables_1 ∧ Cond.instanceMethod q.1 ∈ tables_1
theorem lw_p0 : lw_okq (⟨"WalkedRounds", "changed", "(I)I"⟩, 11) := ⟨⟨by decide +kernel, by decide +kernel⟩, List.mem_of_getElem? (i := 17) (by decide +kernel), List.mem_of_getElem? (i := 420) (by decide +kernel), List.mem_of_getElem? (i := 421) (by decide +kernel)⟩
theorem lw_p1 : lw_okq (⟨"WalkedRounds$LineWalk", "startLine", "()V"⟩, 11) := ⟨⟨by decide +kernel, by decide +kernel⟩, List.mem_of_getElem? (i := 319) (by decide +kernel), List.mem_of_getElem? (i := 490) (by decide +kernel), List.mem_of_getElem? (i := 491) (by decide +kernel)⟩
theorem lw_p2 : lw_okq (⟨"WalkedRounds$LineWalk", "sendOn", "(I)V"⟩, 11) := ⟨⟨by decide +kernel, by decide +kernel⟩, List.mem_of_getElem? (i := 319) (by decide +kernel), List.mem_of_getElem? (i := 494) (by decide +kernel), List.mem_of_getElem? (i := 495) (by decide +kernel)⟩
theorem lw_p3 : lw_okq (⟨"WalkedRounds$LineWalk", "sendAlong", "(II)V"⟩, 11) := ⟨⟨by decide +kernel, by decide +kernel⟩, List.mem_of_getElem? (i := 319) (by decide +kernel), List.mem_of_getElem? (i := 498) (by decide +kernel), List.mem_of_getElem? (i := 499) (by decide +kernel)⟩
theorem lw_p4 : lw_okq (⟨"WalkedRounds$Asker", "valueOf", "(IIII)J"⟩, 7) := ⟨⟨by decide +kernel, by decide +kernel⟩, List.mem_of_getElem? (i := 219) (by decide +kernel), List.mem_of_getElem? (i := 506) (by decide +kernel), List.mem_of_getElem? (i := 507) (by decide +kernel)⟩
theorem lw_p5 : lw_okq (⟨"WalkedRounds$Asker", "fails", "(I)J"⟩, 7) := ⟨⟨by decide +kernel, by decide +kernel⟩, List.mem_of_getElem? (i := 219) (by decide +kernel), List.mem_of_getElem? (i := 510) (by decide +kernel), List.mem_of_getElem? (i := 511) (by decide +kernel)⟩
theorem lw_p6 : lw_okq (⟨"WalkedRounds$Asker", "plainValue", "(III)J"⟩, 7) := ⟨⟨by decide +kernel, by decide +kernel⟩, List.mem_of_getElem? (i := 219) (by decide +kernel), List.mem_of_getElem? (i := 514) (by decide +kernel), List.mem_of_getElem? (i := 515) (by decide +kernel)⟩
theorem lw_p7 : lw_okq (⟨"WalkedRounds$Asker", "stateAt", "(II)J"⟩, 7) := ⟨⟨by decide +kernel, by decide +kernel⟩, List.mem_of_getElem? (i := 219) (by decide +kernel), List.mem_of_getElem? (i := 519) (by decide +kernel), List.mem_of_getElem? (i := 520) (by decide +kernel)⟩
theorem lw_p8 : lw_okq (⟨"WalkedRounds$Asker", "joined", "(IJJ)J"⟩, 7) := ⟨⟨by decide +kernel, by decide +kernel⟩, List.mem_of_getElem? (i := 219) (by decide +kernel), List.mem_of_getElem? (i := 523) (by decide +kernel), List.mem_of_getElem? (i := 524) (by decide +kernel)⟩
theorem lw_p9 : lw_okq (⟨"WalkedRounds$LineWalk", "isDone", "(IJ)Z"⟩, 11) := ⟨⟨by decide +kernel, by decide +kernel⟩, List.mem_of_getElem? (i := 319) (by decide +kernel), List.mem_of_getElem? (i := 536) (by decide +kernel), List.mem_of_getElem? (i := 537) (by decide +kernel)⟩
theorem lw_p10 : lw_okq (⟨"WalkedRounds$LineWalk", "takeStates", "(I)V"⟩, 11) := ⟨⟨by decide +kernel, by decide +kernel⟩, List.mem_of_getElem? (i := 319) (by decide +kernel), List.mem_of_getElem? (i := 542) (by decide +kernel), List.mem_of_getElem? (i := 543) (by decide +kernel)⟩
theorem lw_p11 : lw_okq (⟨"WalkedRounds$RoundWalk", "isDone", "(Z)Z"⟩, 12) := ⟨⟨by decide +kernel, by decide +kernel⟩, List.mem_of_getElem? (i := 276) (by decide +kernel), List.mem_of_getElem? (i := 566) (by decide +kernel), List.mem_of_getElem? (i := 567) (by decide +kernel)⟩
theorem lw_p12 : lw_okq (⟨"WalkedRounds$RoundWalk", "begin", "()V"⟩, 12) := ⟨⟨by decide +kernel, by decide +kernel⟩, List.mem_of_getElem? (i := 276) (by decide +kernel), List.mem_of_getElem? (i := 571) (by decide +kernel), List.mem_of_getElem? (i := 572) (by decide +kernel)⟩
theorem lw_p13 : lw_okq (⟨"WalkedRounds$RoundWalk", "sendAll", "(Z)V"⟩, 12) := ⟨⟨by decide +kernel, by decide +kernel⟩, List.mem_of_getElem? (i := 276) (by decide +kernel), List.mem_of_getElem? (i := 576) (by decide +kernel), List.mem_of_getElem? (i := 577) (by decide +kernel)⟩
theorem lw_p14 : lw_okq (⟨"WalkedRounds$RoundWalk", "sendAlong", "(I)V"⟩, 12) := ⟨⟨by decide +kernel, by decide +kernel⟩, List.mem_of_getElem? (i := 276) (by decide +kernel), List.mem_of_getElem? (i := 580) (by decide +kernel), List.mem_of_getElem? (i := 581) (by decide +kernel)⟩
theorem lw_p15 : lw_okq (⟨"WalkedRounds$RoundWalk", "askNodes", "()V"⟩, 12) := ⟨⟨by decide +kernel, by decide +kernel⟩, List.mem_of_getElem? (i := 276) (by decide +kernel), List.mem_of_getElem? (i := 586) (by decide +kernel), List.mem_of_getElem? (i := 587) (by decide +kernel)⟩
def lw_privs_1 : List (MethodName × Nat) := [(⟨"WalkedRounds", "changed", "(I)I"⟩, 11), (⟨"WalkedRounds$LineWalk", "startLine", "()V"⟩, 11), (⟨"WalkedRounds$LineWalk", "sendOn", "(I)V"⟩, 11), (⟨"WalkedRounds$LineWalk", "sendAlong", "(II)V"⟩, 11), (⟨"WalkedRounds$Asker", "valueOf", "(IIII)J"⟩, 7), (⟨"WalkedRounds$Asker", "fails", "(I)J"⟩, 7), (⟨"WalkedRounds$Asker", "plainValue", "(III)J"⟩, 7), (⟨"WalkedRounds$Asker", "stateAt", "(II)J"⟩, 7), (⟨"WalkedRounds$Asker", "joined", "(IJJ)J"⟩, 7), (⟨"WalkedRounds$LineWalk", "isDone", "(IJ)Z"⟩, 11), (⟨"WalkedRounds$LineWalk", "takeStates", "(I)V"⟩, 11), (⟨"WalkedRounds$RoundWalk", "isDone", "(Z)Z"⟩, 12), (⟨"WalkedRounds$RoundWalk", "begin", "()V"⟩, 12), (⟨"WalkedRounds$RoundWalk", "sendAll", "(Z)V"⟩, 12), (⟨"WalkedRounds$RoundWalk", "sendAlong", "(I)V"⟩, 12), (⟨"WalkedRounds$RoundWalk", "askNodes", "()V"⟩, 12)]
theorem lw_r1 : ∀ q ∈ lw_privs_1, lw_okq q := List.forall_mem_cons.mpr ⟨lw_p0, List.forall_mem_cons.mpr ⟨lw_p1, List.forall_mem_cons.mpr ⟨lw_p2, List.forall_mem_cons.mpr ⟨lw_p3, List.forall_mem_cons.mpr ⟨lw_p4, List.forall_mem_cons.mpr ⟨lw_p5, List.forall_mem_cons.mpr ⟨lw_p6, List.forall_mem_cons.mpr ⟨lw_p7, List.forall_mem_cons.mpr ⟨lw_p8, List.forall_mem_cons.mpr ⟨lw_p9, List.forall_mem_cons.mpr ⟨lw_p10, List.forall_mem_cons.mpr ⟨lw_p11, List.forall_mem_cons.mpr ⟨lw_p12, List.forall_mem_cons.mpr ⟨lw_p13, List.forall_mem_cons.mpr ⟨lw_p14, List.forall_mem_cons.mpr ⟨lw_p15, fun _ h => absurd h List.not_mem_nil⟩⟩⟩⟩⟩⟩⟩⟩⟩⟩⟩⟩⟩⟩⟩⟩
theorem lw_p16 : lw_okq (⟨"WalkedRounds$RoundWalk", "messagesTo", "(I)I"⟩, 12) := ⟨⟨by decide +kernel, by decide +kernel⟩, List.mem_of_getElem? (i := 276) (by decide +kernel), List.mem_of_getElem? (i := 590) (by decide +kernel), List.mem_of_getElem? (i := 591) (by decide +kernel)⟩
theorem lw_p17 : lw_okq (⟨"WalkedRounds$RoundWalk", "askNode", "(II)V"⟩, 12) := ⟨⟨by decide +kernel, by decide +kernel⟩, List.mem_of_getElem? (i := 276) (by decide +kernel), List.mem_of_getElem? (i := 594) (by decide +kernel), List.mem_of_getElem? (i := 595) (by decide +kernel)⟩
theorem lw_p18 : lw_okq (⟨"WalkedRounds$RoundWalk", "foldFor", "(I)J"⟩, 12) := ⟨⟨by decide +kernel, by decide +kernel⟩, List.mem_of_getElem? (i := 276) (by decide +kernel), List.mem_of_getElem? (i := 598) (by decide +kernel), List.mem_of_getElem? (i := 599) (by decide +kernel)⟩
theorem lw_p19 : lw_okq (⟨"WalkedRounds$RoundWalk", "foldTwo", "(JJI)J"⟩, 12) := ⟨⟨by decide +kernel, by decide +kernel⟩, List.mem_of_getElem? (i := 276) (by decide +kernel), List.mem_of_getElem? (i := 602) (by decide +kernel), List.mem_of_getElem? (i := 603) (by decide +kernel)⟩
theorem lw_p20 : lw_okq (⟨"WalkedRounds$RoundWalk", "changeNodes", "()V"⟩, 12) := ⟨⟨by decide +kernel, by decide +kernel⟩, List.mem_of_getElem? (i := 276) (by decide +kernel), List.mem_of_getElem? (i := 614) (by decide +kernel), List.mem_of_getElem? (i := 615) (by decide +kernel)⟩
theorem lw_p21 : lw_okq (⟨"WalkedRounds$RoundWalk", "sumParts", "()V"⟩, 12) := ⟨⟨by decide +kernel, by decide +kernel⟩, List.mem_of_getElem? (i := 276) (by decide +kernel), List.mem_of_getElem? (i := 619) (by decide +kernel), List.mem_of_getElem? (i := 620) (by decide +kernel)⟩
theorem lw_p22 : lw_okq (⟨"WalkedRounds$RoundWalk", "tellMessages", "()V"⟩, 12) := ⟨⟨by decide +kernel, by decide +kernel⟩, List.mem_of_getElem? (i := 276) (by decide +kernel), List.mem_of_getElem? (i := 632) (by decide +kernel), List.mem_of_getElem? (i := 633) (by decide +kernel)⟩
theorem lw_p23 : lw_okq (⟨"WalkedRoundsModel", "clearFailed", "()V"⟩, 53) := ⟨⟨by decide +kernel, by decide +kernel⟩, List.mem_of_getElem? (i := 699) (by decide +kernel), List.mem_of_getElem? (i := 705) (by decide +kernel), List.mem_of_getElem? (i := 706) (by decide +kernel)⟩
theorem lw_p24 : lw_okq (⟨"WalkedRoundsModel", "isTerm", "(I)Z"⟩, 53) := ⟨⟨by decide +kernel, by decide +kernel⟩, List.mem_of_getElem? (i := 699) (by decide +kernel), List.mem_of_getElem? (i := 876) (by decide +kernel), List.mem_of_getElem? (i := 877) (by decide +kernel)⟩
theorem lw_p25 : lw_okq (⟨"WalkedRoundsModel", "isNode", "(I)Z"⟩, 53) := ⟨⟨by decide +kernel, by decide +kernel⟩, List.mem_of_getElem? (i := 699) (by decide +kernel), List.mem_of_getElem? (i := 889) (by decide +kernel), List.mem_of_getElem? (i := 890) (by decide +kernel)⟩
theorem lw_p26 : lw_okq (⟨"WalkedRoundsModel", "walk", "(I)I"⟩, 53) := ⟨⟨by decide +kernel, by decide +kernel⟩, List.mem_of_getElem? (i := 699) (by decide +kernel), List.mem_of_getElem? (i := 913) (by decide +kernel), List.mem_of_getElem? (i := 914) (by decide +kernel)⟩
theorem lw_p27 : lw_okq (⟨"WalkedRoundsModel", "remember", "()V"⟩, 53) := ⟨⟨by decide +kernel, by decide +kernel⟩, List.mem_of_getElem? (i := 699) (by decide +kernel), List.mem_of_getElem? (i := 917) (by decide +kernel), List.mem_of_getElem? (i := 918) (by decide +kernel)⟩
theorem lw_p28 : lw_okq (⟨"WalkedRoundsModel", "isFailed", "()Z"⟩, 53) := ⟨⟨by decide +kernel, by decide +kernel⟩, List.mem_of_getElem? (i := 699) (by decide +kernel), List.mem_of_getElem? (i := 921) (by decide +kernel), List.mem_of_getElem? (i := 922) (by decide +kernel)⟩
theorem lw_p29 : lw_okq (⟨"WalkedRoundsModel", "sendsOn", "(I)V"⟩, 53) := ⟨⟨by decide +kernel, by decide +kernel⟩, List.mem_of_getElem? (i := 699) (by decide +kernel), List.mem_of_getElem? (i := 925) (by decide +kernel), List.mem_of_getElem? (i := 926) (by decide +kernel)⟩
theorem lw_p30 : lw_okq (⟨"WalkedRoundsModel", "askArc", "(I)V"⟩, 53) := ⟨⟨by decide +kernel, by decide +kernel⟩, List.mem_of_getElem? (i := 699) (by decide +kernel), List.mem_of_getElem? (i := 929) (by decide +kernel), List.mem_of_getElem? (i := 930) (by decide +kernel)⟩
theorem lw_p31 : lw_okq (⟨"WalkedRoundsModel", "does", "(III)Z"⟩, 53) := ⟨⟨by decide +kernel, by decide +kernel⟩, List.mem_of_getElem? (i := 699) (by decide +kernel), List.mem_of_getElem? (i := 933) (by decide +kernel), List.mem_of_getElem? (i := 934) (by decide +kernel)⟩
def lw_privs_2 : List (MethodName × Nat) := [(⟨"WalkedRounds$RoundWalk", "messagesTo", "(I)I"⟩, 12), (⟨"WalkedRounds$RoundWalk", "askNode", "(II)V"⟩, 12), (⟨"WalkedRounds$RoundWalk", "foldFor", "(I)J"⟩, 12), (⟨"WalkedRounds$RoundWalk", "foldTwo", "(JJI)J"⟩, 12), (⟨"WalkedRounds$RoundWalk", "changeNodes", "()V"⟩, 12), (⟨"WalkedRounds$RoundWalk", "sumParts", "()V"⟩, 12), (⟨"WalkedRounds$RoundWalk", "tellMessages", "()V"⟩, 12), (⟨"WalkedRoundsModel", "clearFailed", "()V"⟩, 53), (⟨"WalkedRoundsModel", "isTerm", "(I)Z"⟩, 53), (⟨"WalkedRoundsModel", "isNode", "(I)Z"⟩, 53), (⟨"WalkedRoundsModel", "walk", "(I)I"⟩, 53), (⟨"WalkedRoundsModel", "remember", "()V"⟩, 53), (⟨"WalkedRoundsModel", "isFailed", "()Z"⟩, 53), (⟨"WalkedRoundsModel", "sendsOn", "(I)V"⟩, 53), (⟨"WalkedRoundsModel", "askArc", "(I)V"⟩, 53), (⟨"WalkedRoundsModel", "does", "(III)Z"⟩, 53)]
theorem lw_r2 : ∀ q ∈ lw_privs_2, lw_okq q := List.forall_mem_cons.mpr ⟨lw_p16, List.forall_mem_cons.mpr ⟨lw_p17, List.forall_mem_cons.mpr ⟨lw_p18, List.forall_mem_cons.mpr ⟨lw_p19, List.forall_mem_cons.mpr ⟨lw_p20, List.forall_mem_cons.mpr ⟨lw_p21, List.forall_mem_cons.mpr ⟨lw_p22, List.forall_mem_cons.mpr ⟨lw_p23, List.forall_mem_cons.mpr ⟨lw_p24, List.forall_mem_cons.mpr ⟨lw_p25, List.forall_mem_cons.mpr ⟨lw_p26, List.forall_mem_cons.mpr ⟨lw_p27, List.forall_mem_cons.mpr ⟨lw_p28, List.forall_mem_cons.mpr ⟨lw_p29, List.forall_mem_cons.mpr ⟨lw_p30, List.forall_mem_cons.mpr ⟨lw_p31, fun _ h => absurd h List.not_mem_nil⟩⟩⟩⟩⟩⟩⟩⟩⟩⟩⟩⟩⟩⟩⟩⟩
theorem lw_p32 : lw_okq (⟨"WalkedRoundsModel", "asked", "(III)I"⟩, 53) := ⟨⟨by decide +kernel, by decide +kernel⟩, List.mem_of_getElem? (i := 699) (by decide +kernel), List.mem_of_getElem? (i := 937) (by decide +kernel), List.mem_of_getElem? (i := 938) (by decide +kernel)⟩
theorem lw_p33 : lw_okq (⟨"WalkedRoundsModel", "push", "(I)V"⟩, 53) := ⟨⟨by decide +kernel, by decide +kernel⟩, List.mem_of_getElem? (i := 699) (by decide +kernel), List.mem_of_getElem? (i := 941) (by decide +kernel), List.mem_of_getElem? (i := 942) (by decide +kernel)⟩
theorem lw_p34 : lw_okq (⟨"WalkedRoundsModel", "begins", "(I)Z"⟩, 53) := ⟨⟨by decide +kernel, by decide +kernel⟩, List.mem_of_getElem? (i := 699) (by decide +kernel), List.mem_of_getElem? (i := 945) (by decide +kernel), List.mem_of_getElem? (i := 946) (by decide +kernel)⟩
theorem lw_p35 : lw_okq (⟨"WalkedRoundsModel", "arcsFrom", "(I)I"⟩, 53) := ⟨⟨by decide +kernel, by decide +kernel⟩, List.mem_of_getElem? (i := 699) (by decide +kernel), List.mem_of_getElem? (i := 949) (by decide +kernel), List.mem_of_getElem? (i := 950) (by decide +kernel)⟩
theorem lw_p36 : lw_okq (⟨"WalkedRoundsModel", "goesOn", "(I)Z"⟩, 53) := ⟨⟨by decide +kernel, by decide +kernel⟩, List.mem_of_getElem? (i := 699) (by decide +kernel), List.mem_of_getElem? (i := 953) (by decide +kernel), List.mem_of_getElem? (i := 954) (by decide +kernel)⟩
theorem lw_p37 : lw_okq (⟨"WalkedRoundsModel", "joined", "(IJJ)J"⟩, 53) := ⟨⟨by decide +kernel, by decide +kernel⟩, List.mem_of_getElem? (i := 699) (by decide +kernel), List.mem_of_getElem? (i := 957) (by decide +kernel), List.mem_of_getElem? (i := 958) (by decide +kernel)⟩
theorem lw_p38 : lw_okq (⟨"WalkedRoundsModel", "note", "(IIII)V"⟩, 53) := ⟨⟨by decide +kernel, by decide +kernel⟩, List.mem_of_getElem? (i := 699) (by decide +kernel), List.mem_of_getElem? (i := 961) (by decide +kernel), List.mem_of_getElem? (i := 962) (by decide +kernel)⟩
theorem lw_p39 : lw_okq (⟨"WalkedRoundsModel", "takes", "(I)Z"⟩, 53) := ⟨⟨by decide +kernel, by decide +kernel⟩, List.mem_of_getElem? (i := 699) (by decide +kernel), List.mem_of_getElem? (i := 965) (by decide +kernel), List.mem_of_getElem? (i := 966) (by decide +kernel)⟩
theorem lw_p40 : lw_okq (⟨"WalkedRoundsModel", "keep", "(JI)V"⟩, 53) := ⟨⟨by decide +kernel, by decide +kernel⟩, List.mem_of_getElem? (i := 699) (by decide +kernel), List.mem_of_getElem? (i := 969) (by decide +kernel), List.mem_of_getElem? (i := 970) (by decide +kernel)⟩
theorem lw_p41 : lw_okq (⟨"WalkedRoundsModel", "isAnyAwake", "()Z"⟩, 53) := ⟨⟨by decide +kernel, by decide +kernel⟩, List.mem_of_getElem? (i := 699) (by decide +kernel), List.mem_of_getElem? (i := 973) (by decide +kernel), List.mem_of_getElem? (i := 974) (by decide +kernel)⟩
theorem lw_p42 : lw_okq (⟨"WalkedRoundsModel", "round", "(I)Z"⟩, 53) := ⟨⟨by decide +kernel, by decide +kernel⟩, List.mem_of_getElem? (i := 699) (by decide +kernel), List.mem_of_getElem? (i := 977) (by decide +kernel), List.mem_of_getElem? (i := 978) (by decide +kernel)⟩
theorem lw_p43 : lw_okq (⟨"WalkedRoundsModel", "sendAll", "(I)V"⟩, 53) := ⟨⟨by decide +kernel, by decide +kernel⟩, List.mem_of_getElem? (i := 699) (by decide +kernel), List.mem_of_getElem? (i := 981) (by decide +kernel), List.mem_of_getElem? (i := 982) (by decide +kernel)⟩
theorem lw_p44 : lw_okq (⟨"WalkedRoundsModel", "sendAlong", "(I)V"⟩, 53) := ⟨⟨by decide +kernel, by decide +kernel⟩, List.mem_of_getElem? (i := 699) (by decide +kernel), List.mem_of_getElem? (i := 985) (by decide +kernel), List.mem_of_getElem? (i := 986) (by decide +kernel)⟩
theorem lw_p45 : lw_okq (⟨"WalkedRoundsModel", "isReached", "(I)Z"⟩, 53) := ⟨⟨by decide +kernel, by decide +kernel⟩, List.mem_of_getElem? (i := 699) (by decide +kernel), List.mem_of_getElem? (i := 989) (by decide +kernel), List.mem_of_getElem? (i := 990) (by decide +kernel)⟩
theorem lw_p46 : lw_okq (⟨"WalkedRoundsModel", "renew", "(I)V"⟩, 53) := ⟨⟨by decide +kernel, by decide +kernel⟩, List.mem_of_getElem? (i := 699) (by decide +kernel), List.mem_of_getElem? (i := 993) (by decide +kernel), List.mem_of_getElem? (i := 994) (by decide +kernel)⟩
theorem lw_p47 : lw_okq (⟨"WalkedRoundsModel", "foldFor", "(I)V"⟩, 53) := ⟨⟨by decide +kernel, by decide +kernel⟩, List.mem_of_getElem? (i := 699) (by decide +kernel), List.mem_of_getElem? (i := 997) (by decide +kernel), List.mem_of_getElem? (i := 998) (by decide +kernel)⟩
def lw_privs_3 : List (MethodName × Nat) := [(⟨"WalkedRoundsModel", "asked", "(III)I"⟩, 53), (⟨"WalkedRoundsModel", "push", "(I)V"⟩, 53), (⟨"WalkedRoundsModel", "begins", "(I)Z"⟩, 53), (⟨"WalkedRoundsModel", "arcsFrom", "(I)I"⟩, 53), (⟨"WalkedRoundsModel", "goesOn", "(I)Z"⟩, 53), (⟨"WalkedRoundsModel", "joined", "(IJJ)J"⟩, 53), (⟨"WalkedRoundsModel", "note", "(IIII)V"⟩, 53), (⟨"WalkedRoundsModel", "takes", "(I)Z"⟩, 53), (⟨"WalkedRoundsModel", "keep", "(JI)V"⟩, 53), (⟨"WalkedRoundsModel", "isAnyAwake", "()Z"⟩, 53), (⟨"WalkedRoundsModel", "round", "(I)Z"⟩, 53), (⟨"WalkedRoundsModel", "sendAll", "(I)V"⟩, 53), (⟨"WalkedRoundsModel", "sendAlong", "(I)V"⟩, 53), (⟨"WalkedRoundsModel", "isReached", "(I)Z"⟩, 53), (⟨"WalkedRoundsModel", "renew", "(I)V"⟩, 53), (⟨"WalkedRoundsModel", "foldFor", "(I)V"⟩, 53)]
theorem lw_r3 : ∀ q ∈ lw_privs_3, lw_okq q := List.forall_mem_cons.mpr ⟨lw_p32, List.forall_mem_cons.mpr ⟨lw_p33, List.forall_mem_cons.mpr ⟨lw_p34, List.forall_mem_cons.mpr ⟨lw_p35, List.forall_mem_cons.mpr ⟨lw_p36, List.forall_mem_cons.mpr ⟨lw_p37, List.forall_mem_cons.mpr ⟨lw_p38, List.forall_mem_cons.mpr ⟨lw_p39, List.forall_mem_cons.mpr ⟨lw_p40, List.forall_mem_cons.mpr ⟨lw_p41, List.forall_mem_cons.mpr ⟨lw_p42, List.forall_mem_cons.mpr ⟨lw_p43, List.forall_mem_cons.mpr ⟨lw_p44, List.forall_mem_cons.mpr ⟨lw_p45, List.forall_mem_cons.mpr ⟨lw_p46, List.forall_mem_cons.mpr ⟨lw_p47, fun _ h => absurd h List.not_mem_nil⟩⟩⟩⟩⟩⟩⟩⟩⟩⟩⟩⟩⟩⟩⟩⟩
theorem lw_p48 : lw_okq (⟨"WalkedRoundsModel", "isOver", "(JJ)Z"⟩, 53) := ⟨⟨by decide +kernel, by decide +kernel⟩, List.mem_of_getElem? (i := 699) (by decide +kernel), List.mem_of_getElem? (i := 1001) (by decide +kernel), List.mem_of_getElem? (i := 1002) (by decide +kernel)⟩
theorem lw_p49 : lw_okq (⟨"WalkedRoundsModel", "asBefore", "()V"⟩, 53) := ⟨⟨by decide +kernel, by decide +kernel⟩, List.mem_of_getElem? (i := 699) (by decide +kernel), List.mem_of_getElem? (i := 1005) (by decide +kernel), List.mem_of_getElem? (i := 1006) (by decide +kernel)⟩
theorem lw_p50 : lw_okq (⟨"WalkedRoundsModel", "isArc", "(I)Z"⟩, 53) := ⟨⟨by decide +kernel, by decide +kernel⟩, List.mem_of_getElem? (i := 699) (by decide +kernel), List.mem_of_getElem? (i := 1021) (by decide +kernel), List.mem_of_getElem? (i := 1022) (by decide +kernel)⟩
def lw_privs_4 : List (MethodName × Nat) := [(⟨"WalkedRoundsModel", "isOver", "(JJ)Z"⟩, 53), (⟨"WalkedRoundsModel", "asBefore", "()V"⟩, 53), (⟨"WalkedRoundsModel", "isArc", "(I)Z"⟩, 53)]
theorem lw_r4 : ∀ q ∈ lw_privs_4, lw_okq q := List.forall_mem_cons.mpr ⟨lw_p48, List.forall_mem_cons.mpr ⟨lw_p49, List.forall_mem_cons.mpr ⟨lw_p50, fun _ h => absurd h List.not_mem_nil⟩⟩⟩
def lw_privs : List (MethodName × Nat) := lw_privs_1 ++ (lw_privs_2 ++ (lw_privs_3 ++ (lw_privs_4)))
def lw_tbl : List Cond := k2_sels lw_privs ++ tables_1
theorem lw_privs_ok : ∀ q ∈ lw_privs, lw_okq q := by
  show ∀ q ∈ lw_privs_1 ++ (lw_privs_2 ++ (lw_privs_3 ++ (lw_privs_4))), lw_okq q
  exact List.forall_mem_append.mpr ⟨lw_r1, List.forall_mem_append.mpr ⟨lw_r2, List.forall_mem_append.mpr ⟨lw_r3, lw_r4⟩⟩⟩
def RX0 : String := "WalkedRounds$Actor"
def TX0 : u_T := fun k => match k with
  | 0 => ("WalkedRounds$Actor", "web", "LWalkedRounds$Web;", true)
  | 1 => ("WalkedRounds$Actor", "program", "LWalkedRounds$Program;", true)
  | 2 => ("WalkedRounds$Actor", "asker", "LWalkedRounds$Asker;", true)
  | _ => ("WalkedRounds$Actor", "failure", "LWalkedRounds$Failure;", true)
def tyX0 : Nat → FieldType := fun k => match k with
  | 0 => .object "WalkedRounds$Web"
  | 1 => .object "WalkedRounds$Program"
  | 2 => .object "WalkedRounds$Asker"
  | _ => .object "WalkedRounds$Failure"
theorem nmX0 : ∀ a, a < 4 → ∀ b, b < 4 → a ≠ b → (TX0 a).2.1 ≠ (TX0 b).2.1 := by decide +kernel
theorem tyX0_ok : ∀ k, k < 4 → parseFieldDescriptor (TX0 k).2.2.1 = some (tyX0 k) := by decide +kernel
abbrev cX0_init : ByteArray := prog_2_method_1_code
def yX0_init : MethodName := ⟨RX0, "<init>", "(LWalkedRounds$Web;LWalkedRounds$Program;LWalkedRounds$Asker;LWalkedRounds$Failure;)V"⟩
abbrev cX0_comesTo : ByteArray := prog_2_method_2_code
def yX0_comesTo : MethodName := ⟨RX0, "comesTo", "(IIIJ)J"⟩
def RX1 : String := "WalkedRounds$Asker"
def TX1 : u_T := fun k => match k with
  | 0 => ("WalkedRounds$Asker", "terms", "LWalkedRounds$Terms;", true)
  | 1 => ("WalkedRounds$Asker", "web", "LWalkedRounds$Web;", true)
  | 2 => ("WalkedRounds$Asker", "foldedMessages", "I", false)
  | 3 => ("WalkedRounds$Asker", "steps", "I", false)
  | 4 => ("WalkedRounds$Asker", "foldedValue", "J", false)
  | 5 => ("WalkedRounds$Asker", "fault", "I", false)
  | _ => ("WalkedRounds$Asker", "allSteps", "I", false)
def tyX1 : Nat → FieldType := fun k => match k with
  | 0 => .object "WalkedRounds$Terms"
  | 1 => .object "WalkedRounds$Web"
  | 2 => .int
  | 3 => .int
  | 4 => .long
  | 5 => .int
  | _ => .int
theorem nmX1 : ∀ a, a < 7 → ∀ b, b < 7 → a ≠ b → (TX1 a).2.1 ≠ (TX1 b).2.1 := by decide +kernel
theorem tyX1_ok : ∀ k, k < 7 → parseFieldDescriptor (TX1 k).2.2.1 = some (tyX1 k) := by decide +kernel
abbrev cX1_init : ByteArray := prog_3_method_1_code
def yX1_init : MethodName := ⟨RX1, "<init>", "(LWalkedRounds$Terms;LWalkedRounds$Web;)V"⟩
abbrev cX1_begin : ByteArray := prog_3_method_2_code
def yX1_begin : MethodName := ⟨RX1, "begin", "()V"⟩
abbrev cX1_setFolded : ByteArray := prog_3_method_3_code
def yX1_setFolded : MethodName := ⟨RX1, "setFolded", "(JI)V"⟩
abbrev cX1_valueOf : ByteArray := prog_3_method_4_code
def yX1_valueOf : MethodName := ⟨RX1, "valueOf", "(IIII)J"⟩
abbrev cX1_plainValue : ByteArray := prog_3_method_5_code
def yX1_plainValue : MethodName := ⟨RX1, "plainValue", "(III)J"⟩
abbrev cX1_stateAt : ByteArray := prog_3_method_6_code
def yX1_stateAt : MethodName := ⟨RX1, "stateAt", "(II)J"⟩
abbrev cX1_joined : ByteArray := prog_3_method_7_code
def yX1_joined : MethodName := ⟨RX1, "joined", "(IJJ)J"⟩
abbrev cX1_fails : ByteArray := prog_3_method_8_code
def yX1_fails : MethodName := ⟨RX1, "fails", "(I)J"⟩
def RX2 : String := "WalkedRounds$Failure"
def TX2 : u_T := fun k => match k with
  | 0 => ("WalkedRounds$Failure", "sort", "I", false)
  | 1 => ("WalkedRounds$Failure", "act", "I", false)
  | 2 => ("WalkedRounds$Failure", "node", "I", false)
  | 3 => ("WalkedRounds$Failure", "arc", "I", false)
  | _ => ("WalkedRounds$Failure", "round", "I", false)
def tyX2 : Nat → FieldType := fun k => match k with
  | 0 => .int
  | 1 => .int
  | 2 => .int
  | 3 => .int
  | _ => .int
theorem nmX2 : ∀ a, a < 5 → ∀ b, b < 5 → a ≠ b → (TX2 a).2.1 ≠ (TX2 b).2.1 := by decide +kernel
theorem tyX2_ok : ∀ k, k < 5 → parseFieldDescriptor (TX2 k).2.2.1 = some (tyX2 k) := by decide +kernel
abbrev cX2_init : ByteArray := prog_4_method_1_code
def yX2_init : MethodName := ⟨RX2, "<init>", "()V"⟩
abbrev cX2_clear : ByteArray := prog_4_method_2_code
def yX2_clear : MethodName := ⟨RX2, "clear", "()V"⟩
abbrev cX2_is : ByteArray := prog_4_method_3_code
def yX2_is : MethodName := ⟨RX2, "is", "()Z"⟩
abbrev cX2_keep : ByteArray := prog_4_method_4_code
def yX2_keep : MethodName := ⟨RX2, "keep", "(IIIII)V"⟩
abbrev cX2_tell : ByteArray := prog_4_method_5_code
def yX2_tell : MethodName := ⟨RX2, "tell", "(I)I"⟩
def RX3 : String := "WalkedRounds$LineWalk"
def TX3 : u_T := fun k => match k with
  | 0 => ("WalkedRounds$LineWalk", "web", "LWalkedRounds$Web;", true)
  | 1 => ("WalkedRounds$LineWalk", "actor", "LWalkedRounds$Actor;", true)
  | 2 => ("WalkedRounds$LineWalk", "failure", "LWalkedRounds$Failure;", true)
  | 3 => ("WalkedRounds$LineWalk", "past", "LWalkedRounds$Past;", true)
  | 4 => ("WalkedRounds$LineWalk", "told", "LWalkedRounds$Told;", true)
  | 5 => ("WalkedRounds$LineWalk", "arcs", "[I", true)
  | 6 => ("WalkedRounds$LineWalk", "values", "[J", true)
  | 7 => ("WalkedRounds$LineWalk", "newStates", "[J", true)
  | 8 => ("WalkedRounds$LineWalk", "oldStates", "[J", true)
  | 9 => ("WalkedRounds$LineWalk", "first", "I", false)
  | _ => ("WalkedRounds$LineWalk", "size", "I", false)
def tyX3 : Nat → FieldType := fun k => match k with
  | 0 => .object "WalkedRounds$Web"
  | 1 => .object "WalkedRounds$Actor"
  | 2 => .object "WalkedRounds$Failure"
  | 3 => .object "WalkedRounds$Past"
  | 4 => .object "WalkedRounds$Told"
  | 5 => .array .int
  | 6 => .array .long
  | 7 => .array .long
  | 8 => .array .long
  | 9 => .int
  | _ => .int
theorem nmX3 : ∀ a, a < 11 → ∀ b, b < 11 → a ≠ b → (TX3 a).2.1 ≠ (TX3 b).2.1 := by decide +kernel
theorem tyX3_ok : ∀ k, k < 11 → parseFieldDescriptor (TX3 k).2.2.1 = some (tyX3 k) := by decide +kernel
abbrev cX3_init : ByteArray := prog_5_method_1_code
def yX3_init : MethodName := ⟨RX3, "<init>", "(LWalkedRounds$Actor;LWalkedRounds$Past;LWalkedRounds$Told;)V"⟩
abbrev cX3_walk : ByteArray := prog_5_method_2_code
def yX3_walk : MethodName := ⟨RX3, "walk", "(I)I"⟩
abbrev cX3_startLine : ByteArray := prog_5_method_3_code
def yX3_startLine : MethodName := ⟨RX3, "startLine", "()V"⟩
abbrev cX3_sendOn : ByteArray := prog_5_method_4_code
def yX3_sendOn : MethodName := ⟨RX3, "sendOn", "(I)V"⟩
abbrev cX3_sendAlong : ByteArray := prog_5_method_5_code
def yX3_sendAlong : MethodName := ⟨RX3, "sendAlong", "(II)V"⟩
abbrev cX3_isDone : ByteArray := prog_5_method_6_code
def yX3_isDone : MethodName := ⟨RX3, "isDone", "(IJ)Z"⟩
abbrev cX3_takeStates : ByteArray := prog_5_method_7_code
def yX3_takeStates : MethodName := ⟨RX3, "takeStates", "(I)V"⟩
def RX4 : String := "WalkedRounds$Memory"
def TX4 : u_T := fun k => match k with
  | 0 => ("WalkedRounds$Memory", "states", "[J", true)
  | 1 => ("WalkedRounds$Memory", "awake", "[Z", true)
  | 2 => ("WalkedRounds$Memory", "rounds", "I", false)
  | _ => ("WalkedRounds$Memory", "sum", "J", false)
def tyX4 : Nat → FieldType := fun k => match k with
  | 0 => .array .long
  | 1 => .array .boolean
  | 2 => .int
  | _ => .long
theorem nmX4 : ∀ a, a < 4 → ∀ b, b < 4 → a ≠ b → (TX4 a).2.1 ≠ (TX4 b).2.1 := by decide +kernel
theorem tyX4_ok : ∀ k, k < 4 → parseFieldDescriptor (TX4 k).2.2.1 = some (tyX4 k) := by decide +kernel
abbrev cX4_init : ByteArray := prog_6_method_1_code
def yX4_init : MethodName := ⟨RX4, "<init>", "()V"⟩
abbrev cX4_take : ByteArray := prog_6_method_2_code
def yX4_take : MethodName := ⟨RX4, "take", "(LWalkedRounds$Web;)V"⟩
abbrev cX4_giveBack : ByteArray := prog_6_method_3_code
def yX4_giveBack : MethodName := ⟨RX4, "giveBack", "(LWalkedRounds$Web;)V"⟩
def RX5 : String := "WalkedRounds$Past"
def TX5 : u_T := fun k => match k with
  | 0 => ("WalkedRounds$Past", "ring", "[LWalkedRounds$Memory;", true)
  | 1 => ("WalkedRounds$Past", "next", "I", false)
  | _ => ("WalkedRounds$Past", "kept", "I", false)
def tyX5 : Nat → FieldType := fun k => match k with
  | 0 => .array (.object "WalkedRounds$Memory")
  | 1 => .int
  | _ => .int
theorem nmX5 : ∀ a, a < 3 → ∀ b, b < 3 → a ≠ b → (TX5 a).2.1 ≠ (TX5 b).2.1 := by decide +kernel
theorem tyX5_ok : ∀ k, k < 3 → parseFieldDescriptor (TX5 k).2.2.1 = some (tyX5 k) := by decide +kernel
abbrev cX5_init : ByteArray := prog_7_method_1_code
def yX5_init : MethodName := ⟨RX5, "<init>", "()V"⟩
abbrev cX5_mark : ByteArray := prog_7_method_2_code
def yX5_mark : MethodName := ⟨RX5, "mark", "(LWalkedRounds$Web;)V"⟩
abbrev cX5_backToMark : ByteArray := prog_7_method_3_code
def yX5_backToMark : MethodName := ⟨RX5, "backToMark", "(LWalkedRounds$Web;)V"⟩
abbrev cX5_keepMark : ByteArray := prog_7_method_4_code
def yX5_keepMark : MethodName := ⟨RX5, "keepMark", "()V"⟩
abbrev cX5_forget : ByteArray := prog_7_method_5_code
def yX5_forget : MethodName := ⟨RX5, "forget", "()V"⟩
abbrev cX5_undoLatest : ByteArray := prog_7_method_6_code
def yX5_undoLatest : MethodName := ⟨RX5, "undoLatest", "(LWalkedRounds$Web;)I"⟩
def RX6 : String := "WalkedRounds$Program"
def TX6 : u_T := fun k => match k with
  | 0 => ("WalkedRounds$Program", "acts", "[I", true)
  | _ => ("WalkedRounds$Program", "foldSort", "I", false)
def tyX6 : Nat → FieldType := fun k => match k with
  | 0 => .array .int
  | _ => .int
theorem nmX6 : ∀ a, a < 2 → ∀ b, b < 2 → a ≠ b → (TX6 a).2.1 ≠ (TX6 b).2.1 := by decide +kernel
theorem tyX6_ok : ∀ k, k < 2 → parseFieldDescriptor (TX6 k).2.2.1 = some (tyX6 k) := by decide +kernel
abbrev cX6_init : ByteArray := prog_8_method_1_code
def yX6_init : MethodName := ⟨RX6, "<init>", "()V"⟩
def RX7 : String := "WalkedRounds$RoundWalk"
def TX7 : u_T := fun k => match k with
  | 0 => ("WalkedRounds$RoundWalk", "web", "LWalkedRounds$Web;", true)
  | 1 => ("WalkedRounds$RoundWalk", "actor", "LWalkedRounds$Actor;", true)
  | 2 => ("WalkedRounds$RoundWalk", "failure", "LWalkedRounds$Failure;", true)
  | 3 => ("WalkedRounds$RoundWalk", "past", "LWalkedRounds$Past;", true)
  | 4 => ("WalkedRounds$RoundWalk", "told", "LWalkedRounds$Told;", true)
  | 5 => ("WalkedRounds$RoundWalk", "sentArcs", "[I", true)
  | 6 => ("WalkedRounds$RoundWalk", "carries", "[Z", true)
  | 7 => ("WalkedRounds$RoundWalk", "carried", "[J", true)
  | 8 => ("WalkedRounds$RoundWalk", "reached", "[Z", true)
  | 9 => ("WalkedRounds$RoundWalk", "halting", "[Z", true)
  | 10 => ("WalkedRounds$RoundWalk", "newStates", "[J", true)
  | _ => ("WalkedRounds$RoundWalk", "sent", "I", false)
def tyX7 : Nat → FieldType := fun k => match k with
  | 0 => .object "WalkedRounds$Web"
  | 1 => .object "WalkedRounds$Actor"
  | 2 => .object "WalkedRounds$Failure"
  | 3 => .object "WalkedRounds$Past"
  | 4 => .object "WalkedRounds$Told"
  | 5 => .array .int
  | 6 => .array .boolean
  | 7 => .array .long
  | 8 => .array .boolean
  | 9 => .array .boolean
  | 10 => .array .long
  | _ => .int
theorem nmX7 : ∀ a, a < 12 → ∀ b, b < 12 → a ≠ b → (TX7 a).2.1 ≠ (TX7 b).2.1 := by decide +kernel
theorem tyX7_ok : ∀ k, k < 12 → parseFieldDescriptor (TX7 k).2.2.1 = some (tyX7 k) := by decide +kernel
abbrev cX7_init : ByteArray := prog_9_method_1_code
def yX7_init : MethodName := ⟨RX7, "<init>", "(LWalkedRounds$Actor;LWalkedRounds$Past;LWalkedRounds$Told;)V"⟩
abbrev cX7_walk : ByteArray := prog_9_method_2_code
def yX7_walk : MethodName := ⟨RX7, "walk", "(ZI)I"⟩
abbrev cX7_isDone : ByteArray := prog_9_method_3_code
def yX7_isDone : MethodName := ⟨RX7, "isDone", "(Z)Z"⟩
abbrev cX7_begin : ByteArray := prog_9_method_4_code
def yX7_begin : MethodName := ⟨RX7, "begin", "()V"⟩
abbrev cX7_sendAll : ByteArray := prog_9_method_5_code
def yX7_sendAll : MethodName := ⟨RX7, "sendAll", "(Z)V"⟩
abbrev cX7_sendAlong : ByteArray := prog_9_method_6_code
def yX7_sendAlong : MethodName := ⟨RX7, "sendAlong", "(I)V"⟩
abbrev cX7_askNodes : ByteArray := prog_9_method_7_code
def yX7_askNodes : MethodName := ⟨RX7, "askNodes", "()V"⟩
abbrev cX7_messagesTo : ByteArray := prog_9_method_8_code
def yX7_messagesTo : MethodName := ⟨RX7, "messagesTo", "(I)I"⟩
abbrev cX7_askNode : ByteArray := prog_9_method_9_code
def yX7_askNode : MethodName := ⟨RX7, "askNode", "(II)V"⟩
abbrev cX7_foldFor : ByteArray := prog_9_method_10_code
def yX7_foldFor : MethodName := ⟨RX7, "foldFor", "(I)J"⟩
abbrev cX7_foldTwo : ByteArray := prog_9_method_11_code
def yX7_foldTwo : MethodName := ⟨RX7, "foldTwo", "(JJI)J"⟩
abbrev cX7_changeNodes : ByteArray := prog_9_method_12_code
def yX7_changeNodes : MethodName := ⟨RX7, "changeNodes", "()V"⟩
abbrev cX7_sumParts : ByteArray := prog_9_method_13_code
def yX7_sumParts : MethodName := ⟨RX7, "sumParts", "()V"⟩
abbrev cX7_tellMessages : ByteArray := prog_9_method_14_code
def yX7_tellMessages : MethodName := ⟨RX7, "tellMessages", "()V"⟩
def RX8 : String := "WalkedRounds$Terms"
def TX8 : u_T := fun k => match k with
  | 0 => ("WalkedRounds$Terms", "kinds", "[I", true)
  | 1 => ("WalkedRounds$Terms", "partA", "[I", true)
  | 2 => ("WalkedRounds$Terms", "partB", "[I", true)
  | 3 => ("WalkedRounds$Terms", "partC", "[I", true)
  | 4 => ("WalkedRounds$Terms", "numbers", "[J", true)
  | _ => ("WalkedRounds$Terms", "size", "I", false)
def tyX8 : Nat → FieldType := fun k => match k with
  | 0 => .array .int
  | 1 => .array .int
  | 2 => .array .int
  | 3 => .array .int
  | 4 => .array .long
  | _ => .int
theorem nmX8 : ∀ a, a < 6 → ∀ b, b < 6 → a ≠ b → (TX8 a).2.1 ≠ (TX8 b).2.1 := by decide +kernel
theorem tyX8_ok : ∀ k, k < 6 → parseFieldDescriptor (TX8 k).2.2.1 = some (tyX8 k) := by decide +kernel
abbrev cX8_init : ByteArray := prog_10_method_1_code
def yX8_init : MethodName := ⟨RX8, "<init>", "()V"⟩
abbrev cX8_has : ByteArray := prog_10_method_2_code
def yX8_has : MethodName := ⟨RX8, "has", "(I)Z"⟩
abbrev cX8_add : ByteArray := prog_10_method_3_code
def yX8_add : MethodName := ⟨RX8, "add", "(IIIIJ)I"⟩
abbrev cX8_partsOf : ByteArray := prog_10_method_4_code
def yX8_partsOf : MethodName := ⟨RX8, "partsOf", "(I)I"⟩
def RX9 : String := "WalkedRounds$Told"
def TX9 : u_T := fun k => match k with
  | 0 => ("WalkedRounds$Told", "arcs", "[I", true)
  | 1 => ("WalkedRounds$Told", "values", "[J", true)
  | _ => ("WalkedRounds$Told", "size", "I", false)
def tyX9 : Nat → FieldType := fun k => match k with
  | 0 => .array .int
  | 1 => .array .long
  | _ => .int
theorem nmX9 : ∀ a, a < 3 → ∀ b, b < 3 → a ≠ b → (TX9 a).2.1 ≠ (TX9 b).2.1 := by decide +kernel
theorem tyX9_ok : ∀ k, k < 3 → parseFieldDescriptor (TX9 k).2.2.1 = some (tyX9 k) := by decide +kernel
abbrev cX9_init : ByteArray := prog_11_method_1_code
def yX9_init : MethodName := ⟨RX9, "<init>", "()V"⟩
abbrev cX9_has : ByteArray := prog_11_method_2_code
def yX9_has : MethodName := ⟨RX9, "has", "(I)Z"⟩
abbrev cX9_clear : ByteArray := prog_11_method_3_code
def yX9_clear : MethodName := ⟨RX9, "clear", "()V"⟩
abbrev cX9_add : ByteArray := prog_11_method_4_code
def yX9_add : MethodName := ⟨RX9, "add", "(IJ)V"⟩
def RX10 : String := "WalkedRounds$Web"
def TX10 : u_T := fun k => match k with
  | 0 => ("WalkedRounds$Web", "states", "[J", true)
  | 1 => ("WalkedRounds$Web", "awake", "[Z", true)
  | 2 => ("WalkedRounds$Web", "degrees", "[I", true)
  | 3 => ("WalkedRounds$Web", "from", "[I", true)
  | 4 => ("WalkedRounds$Web", "to", "[I", true)
  | 5 => ("WalkedRounds$Web", "weights", "[J", true)
  | 6 => ("WalkedRounds$Web", "nodes", "I", false)
  | 7 => ("WalkedRounds$Web", "arcs", "I", false)
  | 8 => ("WalkedRounds$Web", "rounds", "I", false)
  | _ => ("WalkedRounds$Web", "sum", "J", false)
def tyX10 : Nat → FieldType := fun k => match k with
  | 0 => .array .long
  | 1 => .array .boolean
  | 2 => .array .int
  | 3 => .array .int
  | 4 => .array .int
  | 5 => .array .long
  | 6 => .int
  | 7 => .int
  | 8 => .int
  | _ => .long
theorem nmX10 : ∀ a, a < 10 → ∀ b, b < 10 → a ≠ b → (TX10 a).2.1 ≠ (TX10 b).2.1 := by decide +kernel
theorem tyX10_ok : ∀ k, k < 10 → parseFieldDescriptor (TX10 k).2.2.1 = some (tyX10 k) := by decide +kernel
abbrev cX10_init : ByteArray := prog_12_method_1_code
def yX10_init : MethodName := ⟨RX10, "<init>", "()V"⟩
abbrev cX10_hasNode : ByteArray := prog_12_method_2_code
def yX10_hasNode : MethodName := ⟨RX10, "hasNode", "(I)Z"⟩
abbrev cX10_hasArc : ByteArray := prog_12_method_3_code
def yX10_hasArc : MethodName := ⟨RX10, "hasArc", "(I)Z"⟩
abbrev cX10_addNode : ByteArray := prog_12_method_4_code
def yX10_addNode : MethodName := ⟨RX10, "addNode", "()I"⟩
abbrev cX10_addArc : ByteArray := prog_12_method_5_code
def yX10_addArc : MethodName := ⟨RX10, "addArc", "(IIJ)I"⟩
abbrev cX10_awakeNodes : ByteArray := prog_12_method_6_code
def yX10_awakeNodes : MethodName := ⟨RX10, "awakeNodes", "()I"⟩
def RX11 : String := "WalkedRounds"
def TX11 : u_T := fun k => match k with
  | 0 => ("WalkedRounds", "terms", "LWalkedRounds$Terms;", true)
  | 1 => ("WalkedRounds", "web", "LWalkedRounds$Web;", true)
  | 2 => ("WalkedRounds", "program", "LWalkedRounds$Program;", true)
  | 3 => ("WalkedRounds", "failure", "LWalkedRounds$Failure;", true)
  | 4 => ("WalkedRounds", "past", "LWalkedRounds$Past;", true)
  | 5 => ("WalkedRounds", "told", "LWalkedRounds$Told;", true)
  | 6 => ("WalkedRounds", "asker", "LWalkedRounds$Asker;", true)
  | 7 => ("WalkedRounds", "actor", "LWalkedRounds$Actor;", true)
  | 8 => ("WalkedRounds", "roundWalk", "LWalkedRounds$RoundWalk;", true)
  | 9 => ("WalkedRounds", "lineWalk", "LWalkedRounds$LineWalk;", true)
  | _ => ("WalkedRounds", "whyAsked", "I", false)
def tyX11 : Nat → FieldType := fun k => match k with
  | 0 => .object "WalkedRounds$Terms"
  | 1 => .object "WalkedRounds$Web"
  | 2 => .object "WalkedRounds$Program"
  | 3 => .object "WalkedRounds$Failure"
  | 4 => .object "WalkedRounds$Past"
  | 5 => .object "WalkedRounds$Told"
  | 6 => .object "WalkedRounds$Asker"
  | 7 => .object "WalkedRounds$Actor"
  | 8 => .object "WalkedRounds$RoundWalk"
  | 9 => .object "WalkedRounds$LineWalk"
  | _ => .int
theorem nmX11 : ∀ a, a < 11 → ∀ b, b < 11 → a ≠ b → (TX11 a).2.1 ≠ (TX11 b).2.1 := by decide +kernel
theorem tyX11_ok : ∀ k, k < 11 → parseFieldDescriptor (TX11 k).2.2.1 = some (tyX11 k) := by decide +kernel
abbrev cX11_init : ByteArray := prog_1_method_1_code
def yX11_init : MethodName := ⟨RX11, "<init>", "()V"⟩
abbrev cX11_term : ByteArray := prog_1_method_2_code
def yX11_term : MethodName := ⟨RX11, "term", "(IIIIJ)I"⟩
abbrev cX11_node : ByteArray := prog_1_method_3_code
def yX11_node : MethodName := ⟨RX11, "node", "()I"⟩
abbrev cX11_arc : ByteArray := prog_1_method_4_code
def yX11_arc : MethodName := ⟨RX11, "arc", "(IIJ)I"⟩
abbrev cX11_put : ByteArray := prog_1_method_5_code
def yX11_put : MethodName := ⟨RX11, "put", "(IIJ)I"⟩
abbrev cX11_wake : ByteArray := prog_1_method_6_code
def yX11_wake : MethodName := ⟨RX11, "wake", "(IZ)I"⟩
abbrev cX11_act : ByteArray := prog_1_method_7_code
def yX11_act : MethodName := ⟨RX11, "act", "(II)I"⟩
abbrev cX11_fold : ByteArray := prog_1_method_8_code
def yX11_fold : MethodName := ⟨RX11, "fold", "(I)I"⟩
abbrev cX11_run : ByteArray := prog_1_method_9_code
def yX11_run : MethodName := ⟨RX11, "run", "(II)I"⟩
abbrev cX11_undo : ByteArray := prog_1_method_10_code
def yX11_undo : MethodName := ⟨RX11, "undo", "()I"⟩
abbrev cX11_failed : ByteArray := prog_1_method_11_code
def yX11_failed : MethodName := ⟨RX11, "failed", "(I)I"⟩
abbrev cX11_ask : ByteArray := prog_1_method_12_code
def yX11_ask : MethodName := ⟨RX11, "ask", "(III)J"⟩
abbrev cX11_why : ByteArray := prog_1_method_13_code
def yX11_why : MethodName := ⟨RX11, "why", "()I"⟩
abbrev cX11_state : ByteArray := prog_1_method_14_code
def yX11_state : MethodName := ⟨RX11, "state", "(II)J"⟩
abbrev cX11_whole : ByteArray := prog_1_method_15_code
def yX11_whole : MethodName := ⟨RX11, "whole", "()J"⟩
abbrev cX11_awake : ByteArray := prog_1_method_16_code
def yX11_awake : MethodName := ⟨RX11, "awake", "(I)I"⟩
abbrev cX11_along : ByteArray := prog_1_method_17_code
def yX11_along : MethodName := ⟨RX11, "along", "(I)I"⟩
abbrev cX11_message : ByteArray := prog_1_method_18_code
def yX11_message : MethodName := ⟨RX11, "message", "(I)J"⟩
abbrev cX11_count : ByteArray := prog_1_method_19_code
def yX11_count : MethodName := ⟨RX11, "count", "(I)I"⟩
abbrev cX11_isState : ByteArray := prog_1_method_20_code
def yX11_isState : MethodName := ⟨RX11, "isState", "(J)Z"⟩
abbrev cX11_changed : ByteArray := prog_1_method_21_code
def yX11_changed : MethodName := ⟨RX11, "changed", "(I)I"⟩
def RX12 : String := "WalkedRoundsModel"
def TX12 : u_T := fun k => match k with
  | 0 => ("WalkedRoundsModel", "terms", "I", false)
  | 1 => ("WalkedRoundsModel", "kinds", "[I", true)
  | 2 => ("WalkedRoundsModel", "partA", "[I", true)
  | 3 => ("WalkedRoundsModel", "partB", "[I", true)
  | 4 => ("WalkedRoundsModel", "partC", "[I", true)
  | 5 => ("WalkedRoundsModel", "numbers", "[J", true)
  | 6 => ("WalkedRoundsModel", "nodes", "I", false)
  | 7 => ("WalkedRoundsModel", "states", "[J", true)
  | 8 => ("WalkedRoundsModel", "awake", "[Z", true)
  | 9 => ("WalkedRoundsModel", "arcs", "I", false)
  | 10 => ("WalkedRoundsModel", "from", "[I", true)
  | 11 => ("WalkedRoundsModel", "to", "[I", true)
  | 12 => ("WalkedRoundsModel", "weights", "[J", true)
  | 13 => ("WalkedRoundsModel", "acts", "[I", true)
  | 14 => ("WalkedRoundsModel", "fold", "I", false)
  | 15 => ("WalkedRoundsModel", "whole", "J", false)
  | 16 => ("WalkedRoundsModel", "rounds", "I", false)
  | 17 => ("WalkedRoundsModel", "steps", "I", false)
  | 18 => ("WalkedRoundsModel", "failed", "[I", true)
  | 19 => ("WalkedRoundsModel", "why", "I", false)
  | 20 => ("WalkedRoundsModel", "kept", "I", false)
  | 21 => ("WalkedRoundsModel", "oldStates", "[J", true)
  | 22 => ("WalkedRoundsModel", "oldAwake", "[Z", true)
  | 23 => ("WalkedRoundsModel", "oldWhole", "[J", true)
  | 24 => ("WalkedRoundsModel", "oldRounds", "[I", true)
  | 25 => ("WalkedRoundsModel", "told", "I", false)
  | 26 => ("WalkedRoundsModel", "toldArcs", "[I", true)
  | 27 => ("WalkedRoundsModel", "toldMessages", "[J", true)
  | 28 => ("WalkedRoundsModel", "top", "I", false)
  | 29 => ("WalkedRoundsModel", "pile", "[I", true)
  | 30 => ("WalkedRoundsModel", "stage", "[I", true)
  | 31 => ("WalkedRoundsModel", "first", "[J", true)
  | 32 => ("WalkedRoundsModel", "came", "J", false)
  | 33 => ("WalkedRoundsModel", "fails", "I", false)
  | 34 => ("WalkedRoundsModel", "spent", "I", false)
  | 35 => ("WalkedRoundsModel", "atNode", "I", false)
  | 36 => ("WalkedRoundsModel", "atArc", "I", false)
  | 37 => ("WalkedRoundsModel", "folded", "J", false)
  | 38 => ("WalkedRoundsModel", "many", "I", false)
  | 39 => ("WalkedRoundsModel", "goes", "[Z", true)
  | 40 => ("WalkedRoundsModel", "messages", "[J", true)
  | 41 => ("WalkedRoundsModel", "sent", "I", false)
  | 42 => ("WalkedRoundsModel", "sentArcs", "[I", true)
  | 43 => ("WalkedRoundsModel", "sends", "Z", false)
  | 44 => ("WalkedRoundsModel", "message", "J", false)
  | 45 => ("WalkedRoundsModel", "newStates", "[J", true)
  | 46 => ("WalkedRoundsModel", "newAwake", "[Z", true)
  | 47 => ("WalkedRoundsModel", "beforeStates", "[J", true)
  | 48 => ("WalkedRoundsModel", "beforeAwake", "[Z", true)
  | 49 => ("WalkedRoundsModel", "waiting", "I", false)
  | 50 => ("WalkedRoundsModel", "lineArcs", "[I", true)
  | 51 => ("WalkedRoundsModel", "line", "[J", true)
  | _ => ("WalkedRoundsModel", "takenStates", "[J", true)
def tyX12 : Nat → FieldType := fun k => match k with
  | 0 => .int
  | 1 => .array .int
  | 2 => .array .int
  | 3 => .array .int
  | 4 => .array .int
  | 5 => .array .long
  | 6 => .int
  | 7 => .array .long
  | 8 => .array .boolean
  | 9 => .int
  | 10 => .array .int
  | 11 => .array .int
  | 12 => .array .long
  | 13 => .array .int
  | 14 => .int
  | 15 => .long
  | 16 => .int
  | 17 => .int
  | 18 => .array .int
  | 19 => .int
  | 20 => .int
  | 21 => .array .long
  | 22 => .array .boolean
  | 23 => .array .long
  | 24 => .array .int
  | 25 => .int
  | 26 => .array .int
  | 27 => .array .long
  | 28 => .int
  | 29 => .array .int
  | 30 => .array .int
  | 31 => .array .long
  | 32 => .long
  | 33 => .int
  | 34 => .int
  | 35 => .int
  | 36 => .int
  | 37 => .long
  | 38 => .int
  | 39 => .array .boolean
  | 40 => .array .long
  | 41 => .int
  | 42 => .array .int
  | 43 => .boolean
  | 44 => .long
  | 45 => .array .long
  | 46 => .array .boolean
  | 47 => .array .long
  | 48 => .array .boolean
  | 49 => .int
  | 50 => .array .int
  | 51 => .array .long
  | _ => .array .long
theorem nmX12 : ∀ a, a < 53 → ∀ b, b < 53 → a ≠ b → (TX12 a).2.1 ≠ (TX12 b).2.1 := by decide +kernel
theorem tyX12_ok : ∀ k, k < 53 → parseFieldDescriptor (TX12 k).2.2.1 = some (tyX12 k) := by decide +kernel
abbrev cX12_init : ByteArray := prog_14_method_1_code
def yX12_init : MethodName := ⟨RX12, "<init>", "()V"⟩
abbrev cX12_in : ByteArray := prog_14_method_3_code
def yX12_in : MethodName := ⟨RX12, "in", "(III)Z"⟩
abbrev cX12_isTerm : ByteArray := prog_14_method_4_code
def yX12_isTerm : MethodName := ⟨RX12, "isTerm", "(I)Z"⟩
abbrev cX12_isNode : ByteArray := prog_14_method_5_code
def yX12_isNode : MethodName := ⟨RX12, "isNode", "(I)Z"⟩
abbrev cX12_isArc : ByteArray := prog_14_method_6_code
def yX12_isArc : MethodName := ⟨RX12, "isArc", "(I)Z"⟩
abbrev cX12_term : ByteArray := prog_14_method_7_code
def yX12_term : MethodName := ⟨RX12, "term", "(IIIIJ)I"⟩
abbrev cX12_node : ByteArray := prog_14_method_8_code
def yX12_node : MethodName := ⟨RX12, "node", "()I"⟩
abbrev cX12_arc : ByteArray := prog_14_method_9_code
def yX12_arc : MethodName := ⟨RX12, "arc", "(IIJ)I"⟩
abbrev cX12_put : ByteArray := prog_14_method_10_code
def yX12_put : MethodName := ⟨RX12, "put", "(IIJ)I"⟩
abbrev cX12_wake : ByteArray := prog_14_method_11_code
def yX12_wake : MethodName := ⟨RX12, "wake", "(IZ)I"⟩
abbrev cX12_act : ByteArray := prog_14_method_12_code
def yX12_act : MethodName := ⟨RX12, "act", "(II)I"⟩
abbrev cX12_fold : ByteArray := prog_14_method_13_code
def yX12_fold : MethodName := ⟨RX12, "fold", "(I)I"⟩
abbrev cX12_push : ByteArray := prog_14_method_14_code
def yX12_push : MethodName := ⟨RX12, "push", "(I)V"⟩
abbrev cX12_asked : ByteArray := prog_14_method_15_code
def yX12_asked : MethodName := ⟨RX12, "asked", "(III)I"⟩
abbrev cX12_arcsFrom : ByteArray := prog_14_method_16_code
def yX12_arcsFrom : MethodName := ⟨RX12, "arcsFrom", "(I)I"⟩
abbrev cX12_begins : ByteArray := prog_14_method_17_code
def yX12_begins : MethodName := ⟨RX12, "begins", "(I)Z"⟩
abbrev cX12_goesOn : ByteArray := prog_14_method_18_code
def yX12_goesOn : MethodName := ⟨RX12, "goesOn", "(I)Z"⟩
abbrev cX12_joined : ByteArray := prog_14_method_19_code
def yX12_joined : MethodName := ⟨RX12, "joined", "(IJJ)J"⟩
abbrev cX12_clearFailed : ByteArray := prog_14_method_20_code
def yX12_clearFailed : MethodName := ⟨RX12, "clearFailed", "()V"⟩
abbrev cX12_note : ByteArray := prog_14_method_21_code
def yX12_note : MethodName := ⟨RX12, "note", "(IIII)V"⟩
abbrev cX12_does : ByteArray := prog_14_method_22_code
def yX12_does : MethodName := ⟨RX12, "does", "(III)Z"⟩
abbrev cX12_isFailed : ByteArray := prog_14_method_23_code
def yX12_isFailed : MethodName := ⟨RX12, "isFailed", "()Z"⟩
abbrev cX12_askArc : ByteArray := prog_14_method_24_code
def yX12_askArc : MethodName := ⟨RX12, "askArc", "(I)V"⟩
abbrev cX12_sendAlong : ByteArray := prog_14_method_25_code
def yX12_sendAlong : MethodName := ⟨RX12, "sendAlong", "(I)V"⟩
abbrev cX12_sendAll : ByteArray := prog_14_method_26_code
def yX12_sendAll : MethodName := ⟨RX12, "sendAll", "(I)V"⟩
abbrev cX12_isOver : ByteArray := prog_14_method_27_code
def yX12_isOver : MethodName := ⟨RX12, "isOver", "(JJ)Z"⟩
abbrev cX12_foldFor : ByteArray := prog_14_method_28_code
def yX12_foldFor : MethodName := ⟨RX12, "foldFor", "(I)V"⟩
abbrev cX12_isReached : ByteArray := prog_14_method_29_code
def yX12_isReached : MethodName := ⟨RX12, "isReached", "(I)Z"⟩
abbrev cX12_renew : ByteArray := prog_14_method_30_code
def yX12_renew : MethodName := ⟨RX12, "renew", "(I)V"⟩
abbrev cX12_remember : ByteArray := prog_14_method_31_code
def yX12_remember : MethodName := ⟨RX12, "remember", "()V"⟩
abbrev cX12_keep : ByteArray := prog_14_method_32_code
def yX12_keep : MethodName := ⟨RX12, "keep", "(JI)V"⟩
abbrev cX12_asBefore : ByteArray := prog_14_method_33_code
def yX12_asBefore : MethodName := ⟨RX12, "asBefore", "()V"⟩
abbrev cX12_isAnyAwake : ByteArray := prog_14_method_34_code
def yX12_isAnyAwake : MethodName := ⟨RX12, "isAnyAwake", "()Z"⟩
abbrev cX12_round : ByteArray := prog_14_method_35_code
def yX12_round : MethodName := ⟨RX12, "round", "(I)Z"⟩
abbrev cX12_sendsOn : ByteArray := prog_14_method_36_code
def yX12_sendsOn : MethodName := ⟨RX12, "sendsOn", "(I)V"⟩
abbrev cX12_takes : ByteArray := prog_14_method_37_code
def yX12_takes : MethodName := ⟨RX12, "takes", "(I)Z"⟩
abbrev cX12_walk : ByteArray := prog_14_method_38_code
def yX12_walk : MethodName := ⟨RX12, "walk", "(I)I"⟩
abbrev cX12_run : ByteArray := prog_14_method_39_code
def yX12_run : MethodName := ⟨RX12, "run", "(II)I"⟩
abbrev cX12_undo : ByteArray := prog_14_method_40_code
def yX12_undo : MethodName := ⟨RX12, "undo", "()I"⟩
abbrev cX12_failed : ByteArray := prog_14_method_41_code
def yX12_failed : MethodName := ⟨RX12, "failed", "(I)I"⟩
abbrev cX12_ask : ByteArray := prog_14_method_42_code
def yX12_ask : MethodName := ⟨RX12, "ask", "(III)J"⟩
abbrev cX12_why : ByteArray := prog_14_method_43_code
def yX12_why : MethodName := ⟨RX12, "why", "()I"⟩
abbrev cX12_state : ByteArray := prog_14_method_44_code
def yX12_state : MethodName := ⟨RX12, "state", "(II)J"⟩
abbrev cX12_whole : ByteArray := prog_14_method_45_code
def yX12_whole : MethodName := ⟨RX12, "whole", "()J"⟩
abbrev cX12_awake : ByteArray := prog_14_method_46_code
def yX12_awake : MethodName := ⟨RX12, "awake", "(I)I"⟩
abbrev cX12_along : ByteArray := prog_14_method_47_code
def yX12_along : MethodName := ⟨RX12, "along", "(I)I"⟩
abbrev cX12_message : ByteArray := prog_14_method_48_code
def yX12_message : MethodName := ⟨RX12, "message", "(I)J"⟩
abbrev cX12_count : ByteArray := prog_14_method_49_code
def yX12_count : MethodName := ⟨RX12, "count", "(I)I"⟩
def RL : String := "WalkedRoundsLaw"
abbrev cL_law : ByteArray := code
def yL_law : MethodName := ⟨RL, "law", "([I)Z"⟩
abbrev vwCl : List vw_C := [(RX0, TX0, 4), (RX1, TX1, 7), (RX2, TX2, 5), (RX3, TX3, 11), (RX4, TX4, 4), (RX5, TX5, 3), (RX6, TX6, 2), (RX7, TX7, 12), (RX8, TX8, 6), (RX9, TX9, 3), (RX10, TX10, 10), (RX11, TX11, 11), (RX12, TX12, 53)]
