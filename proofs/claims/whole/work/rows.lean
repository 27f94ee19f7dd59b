section
-- ===== PART A: goes FIRST, ahead of the names: the tables' words, and 'selects' of the private methods out of them =====
/-- a private method of a class that the tables say can be made, by its rows of tables_1 -/
def lw_okq (q : MethodName × Nat) : Prop := (q.1.cls ≠ "java/lang/invoke/MethodHandle" ∧ q.1.cls ≠ "java/lang/invoke/VarHandle") ∧ Cond.instantiable q.1.cls q.2 ∈ tables_1 ∧ Cond.privateMethod q.1 ∈ tables_1 ∧ Cond.instanceMethod q.1 ∈ tables_1
theorem lw_p0 : lw_okq (⟨"WalkedRounds", "changed", "(I)I"⟩, 11) := ⟨⟨by decide +kernel, by decide +kernel⟩, List.mem_of_getElem? (i := 17) (by decide +kernel), List.mem_of_getElem? (i := 420) (by decide +kernel), List.mem_of_getElem? (i := 421) (by decide +kernel)⟩
theorem lw_p1 : lw_okq (⟨"WalkedRounds$LineWalk", "startLine", "()V"⟩, 11) := ⟨⟨by decide +kernel, by decide +kernel⟩, List.mem_of_getElem? (i := 319) (by decide +kernel), List.mem_of_getElem? (i := 490) (by decide +kernel), List.mem_of_getElem? (i := 491) (by decide +kernel)⟩
theorem lw_p2 : lw_okq (⟨"WalkedRounds$LineWalk", "sendOn", "(I)V"⟩, 11) := ⟨⟨by decide +kernel, by decide +kernel⟩, List.mem_of_getElem? (i := 319) (by decide +kernel), List.mem_of_getElem? (i := 494) (by decide +kernel), List.mem_of_getElem? (i := 495) (by decide +kernel)⟩
theorem lw_p3 : lw_okq (⟨"WalkedRounds$LineWalk", "sendAlong", "(II)V"⟩, 11) := ⟨⟨by decide +kernel, by decide +kernel⟩, List.mem_of_getElem? (i := 319) (by decide +kernel), List.mem_of_getElem? (i := 498) (by decide +kernel), List.mem_of_getElem? (i := 499) (by decide +kernel)⟩
theorem lw_p4 : lw_okq (⟨"WalkedRounds$Asker", "valueOf", "(IIII)J"⟩, 7) := ⟨⟨by decide +kernel, by decide +kernel⟩, List.mem_of_getElem? (i := 219) (by decide +kernel), List.mem_of_getElem? (i := 506) (by decide +kernel), List.mem_of_getElem? (i := 507) (by decide +kernel)⟩
theorem lw_p5 : lw_okq (⟨"WalkedRounds$Asker", "fails", "(I)J"⟩, 7) := ⟨⟨by decide +kernel, by decide +kernel⟩, List.mem_of_getElem? (i := 219) (by decide +kernel), List.mem_of_getElem? (i := 510) (by decide +kernel), List.mem_of_getElem? (i := 511) (by decide +kernel)⟩
theorem lw_p6 : lw_okq (⟨"WalkedRounds$Asker", "plainValue", "(III)J"⟩, 7) := ⟨⟨by decide +kernel, by decide +kernel⟩, List.mem_of_getElem? (i := 219) (by decide +kernel), List.mem_of_getElem? (i := 514) (by decide +kernel), List.mem_of_getElem? (i := 515) (by decide +kernel)⟩
theorem lw_p7 : lw_okq (⟨"WalkedRounds$Asker", "stateAt", "(II)J"⟩, 7) := ⟨⟨by decide +kernel, by decide +kernel⟩, List.mem_of_getElem? (i := 219) (by decide +kernel), List.mem_of_getElem? (i := 519) (by decide +kernel), List.mem_of_getElem? (i := 520) (by decide +kernel)⟩
theorem lw_p8 : lw_okq (⟨"WalkedRounds$Asker", "joined", "(IJJ)J"⟩, 7) := ⟨⟨by decide +kernel, by decide +kernel⟩, List.mem_of_getElem? (i := 219) (by decide +kernel), List.mem_of_getElem? (i := 523) (by decide +kernel), List.mem_of_getElem? (i := 524) (by decide +kernel)⟩
theorem lw_p9 : lw_okq (⟨"WalkedRounds$LineWalk", "isDone", "(IJ)Z"⟩, 11) := ⟨⟨by decide +kernel, by decide +kernel⟩, List.mem_of_getElem? (i := 319) (by decide +kernel), List.mem_of_getElem? (i := 536) (by decide +kernel), List.mem_of_getElem? (i := 537) (by decide +kernel)⟩
theorem lw_p10 : lw_okq (⟨"WalkedRounds$LineWalk", "takeStates", "(I)V"⟩, 11) := ⟨⟨by decide +kernel, by decide +kernel⟩, List.mem_of_getElem? (i := 319) (by decide +kernel), List.mem_of_getElem? (i := 542) (by decide +kernel), List.mem_of_getElem? (i := 543) (by decide +kernel)⟩
theorem lw_p11 : lw_okq (⟨"WalkedRounds$RoundWalk", "isDone", "(Z)Z"⟩, 12) := ⟨⟨by decide +kernel, by decide +kernel⟩, List.mem_of_getElem? (i := 276) (by decide +kernel), List.mem_of_getElem? (i := 566) (by decide +kernel), List.mem_of_getElem? (i := 567) (by decide +kernel)⟩
theorem lw_p12 : lw_okq (⟨"WalkedRounds$RoundWalk", "begin", "()V"⟩, 12) := ⟨⟨by decide +kernel, by decide +kernel⟩, List.mem_of_getElem? (i := 276) (by decide +kernel), List.mem_of_getElem? (i := 571) (by decide +kernel), List.mem_of_getElem? (i := 572) (by decide +kernel)⟩
theorem lw_p13 : lw_okq (⟨"WalkedRounds$RoundWalk", "sendAll", "(Z)V"⟩, 12) := ⟨⟨by decide +kernel, by decide +kernel⟩, List.mem_of_getElem? (i := 276) (by decide +kernel), List.mem_of_getElem? (i := 576) (by decide +kernel), List.mem_of_getElem? (i := 577) (by decide +kernel)⟩
theorem lw_p14 : lw_okq (⟨"WalkedRounds$RoundWalk", "sendAlong", "(I)V"⟩, 12) := ⟨⟨by decide +kernel, by decide +kernel⟩, List.mem_of_getElem? (i := 276) (by decide +kernel), List.mem_of_getElem? (i := 580) (by decide +kernel), List.mem_of_getElem? (i := 581) (by decide +kernel)⟩
theorem lw_p15 : lw_okq (⟨"WalkedRounds$RoundWalk", "askNodes", "()V"⟩, 12) := ⟨⟨by decide +kernel, by decide +kernel⟩, List.mem_of_getElem? (i := 276) (by decide +kernel), List.mem_of_getElem? (i := 586) (by decide +kernel), List.mem_of_getElem? (i := 587) (by decide +kernel)⟩
def lw_privs_1 : List (MethodName × Nat) := [(⟨"WalkedRounds", "changed", "(I)I"⟩, 11), (⟨"WalkedRounds$LineWalk", "startLine", "()V"⟩, 11), (⟨"WalkedRounds$LineWalk", "sendOn", "(I)V"⟩, 11), (⟨"WalkedRounds$LineWalk", "sendAlong", "(II)V"⟩, 11), (⟨"WalkedRounds$Asker", "valueOf", "(IIII)J"⟩, 7), (⟨"WalkedRounds$Asker", "fails", "(I)J"⟩, 7), (⟨"WalkedRounds$Asker", "plainValue", "(III)J"⟩, 7), (⟨"WalkedRounds$Asker", "stateAt", "(II)J"⟩, 7), (⟨"WalkedRounds$Asker", "joined", "(IJJ)J"⟩, 7), (⟨"WalkedRounds$LineWalk", "isDone", "(IJ)Z"⟩, 11), (⟨"WalkedRounds$LineWalk", "takeStates", "(I)V"⟩, 11), (⟨"WalkedRounds$RoundWalk", "isDone", "(Z)Z"⟩, 12), (⟨"WalkedRounds$RoundWalk", "begin", "()V"⟩, 12), (⟨"WalkedRounds$RoundWalk", "sendAll", "(Z)V"⟩, 12), (⟨"WalkedRounds$RoundWalk", "sendAlong", "(I)V"⟩, 12), (⟨"WalkedRounds$RoundWalk", "askNodes", "()V"⟩, 12)]
theorem lw_r1 : ∀ q ∈ lw_privs_1, lw_okq q := List.forall_mem_cons.mpr ⟨lw_p0, List.forall_mem_cons.mpr ⟨lw_p1, List.forall_mem_cons.mpr ⟨lw_p2, List.forall_mem_cons.mpr ⟨lw_p3, List.forall_mem_cons.mpr ⟨lw_p4, List.forall_mem_cons.mpr ⟨lw_p5, List.forall_mem_cons.mpr ⟨lw_p6, List.forall_mem_cons.mpr ⟨lw_p7, List.forall_mem_cons.mpr ⟨lw_p8, List.forall_mem_cons.mpr ⟨lw_p9, List.forall_mem_cons.mpr ⟨lw_p10, List.forall_mem_cons.mpr ⟨lw_p11, List.forall_mem_cons.mpr ⟨lw_p12, List.forall_mem_cons.mpr ⟨lw_p13, List.forall_mem_cons.mpr ⟨lw_p14, List.forall_mem_cons.mpr ⟨lw_p15, fun _ h => absurd h List.not_mem_nil⟩⟩⟩⟩⟩⟩⟩⟩⟩⟩⟩⟩⟩⟩⟩⟩
theorem lw_p16 : lw_okq (⟨"WalkedRounds$RoundWalk", "messagesTo", "(I)I"⟩, 12) := ⟨⟨by decide +kernel, by decide +kernel⟩, List.mem_of_getElem? (i := 276) (by decide +kernel), List.mem_of_getElem? (i := 590) (by decide +kernel), List.mem_of_getElem? (i := 591) (by decide +kernel)⟩
theorem lw_p17 : lw_okq (⟨"WalkedRounds$RoundWalk", "askNode", "(II)V"⟩, 12) := ⟨⟨by decide +kernel, by decide +kernel⟩, List.mem_of_getElem? (i := 276) (by decide +kernel), List.mem_of_getElem? (i := 594) (by decide +kernel), List.mem_of_getElem? (i := 595) (by decide +kernel)⟩
theorem lw_p18 : lw_okq (⟨"WalkedRounds$RoundWalk", "foldFor", "(I)J"⟩, 12) := ⟨⟨by decide +kernel, by decide +kernel⟩, List.mem_of_getElem? (i := 276) (by decide +kernel), List.mem_of_getElem? (i := 598) (by decide +kernel), List.mem_of_getElem? (i := 599) (by decide +kernel)⟩
theorem lw_p19 : lw_okq (⟨"WalkedRounds$RoundWalk", "foldTwo", "(JJI)J"⟩, 12) := ⟨⟨by decide +kernel, by decide +kernel⟩, List.mem_of_getElem? (i := 276) (by decide +kernel), List.mem_of_getElem? (i := 602) (by decide +kernel), List.mem_of_getElem? (i := 603) (by decide +kernel)⟩
theorem lw_p20 : lw_okq (⟨"WalkedRounds$RoundWalk", "changeNodes", "()V"⟩, 12) := ⟨⟨by decide +kernel, by decide +kernel⟩, List.mem_of_getElem? (i := 276) (by decide +kernel), List.mem_of_getElem? (i := 614) (by decide +kernel), List.mem_of_getElem? (i := 615) (by decide +kernel)⟩
theorem lw_p21 : lw_okq (⟨"WalkedRounds$RoundWalk", "sumParts", "()V"⟩, 12) := ⟨⟨by decide +kernel, by decide +kernel⟩, List.mem_of_getElem? (i := 276) (by decide +kernel), List.mem_of_getElem? (i := 619) (by decide +kernel), List.mem_of_getElem? (i := 620) (by decide +kernel)⟩
theorem lw_p22 : lw_okq (⟨"WalkedRounds$RoundWalk", "tellMessages", "()V"⟩, 12) := ⟨⟨by decide +kernel, by decide +kernel⟩, List.mem_of_getElem? (i := 276) (by decide +kernel), List.mem_of_getElem? (i := 632) (by decide +kernel), List.mem_of_getElem? (i := 633) (by decide +kernel)⟩
theorem lw_p23 : lw_okq (⟨"WalkedRoundsModel", "clearFailed", "()V"⟩, 53) := ⟨⟨by decide +kernel, by decide +kernel⟩, List.mem_of_getElem? (i := 699) (by decide +kernel), List.mem_of_getElem? (i := 705) (by decide +kernel), List.mem_of_getElem? (i := 706) (by decide +kernel)⟩
theorem lw_p24 : lw_okq (⟨"WalkedRoundsModel", "isTerm", "(I)Z"⟩, 53) := ⟨⟨by decide +kernel, by decide +kernel⟩, List.mem_of_getElem? (i := 699) (by decide +kernel), List.mem_of_getElem? (i := 876) (by decide +kernel), List.mem_of_getElem? (i := 877) (by decide +kernel)⟩
theorem lw_p25 : lw_okq (⟨"WalkedRoundsModel", "isNode", "(I)Z"⟩, 53) := ⟨⟨by decide +kernel, by decide +kernel⟩, List.mem_of_getElem? (i := 699) (by decide +kernel), List.mem_of_getElem? (i := 889) (by decide +kernel), List.mem_of_getElem? (i := 890) (by decide +kernel)⟩
theorem lw_p26 : lw_okq (⟨"WalkedRoundsModel", "walk", "(I)I"⟩, 53) := ⟨⟨by decide +kernel, by decide +kernel⟩, List.mem_of_getElem? (i := 699) (by decide +kernel), List.mem_of_getElem? (i := 913) (by decide +kernel), List.mem_of_getElem? (i := 914) (by decide +kernel)⟩
theorem lw_p27 : lw_okq (⟨"WalkedRoundsModel", "remember", "()V"⟩, 53) := ⟨⟨by decide +kernel, by decide +kernel⟩, List.mem_of_getElem? (i := 699) (by decide +kernel), List.mem_of_getElem? (i := 917) (by decide +kernel), List.mem_of_getElem? (i := 918) (by decide +kernel)⟩
theorem lw_p28 : lw_okq (⟨"WalkedRoundsModel", "isFailed", "()Z"⟩, 53) := ⟨⟨by decide +kernel, by decide +kernel⟩, List.mem_of_getElem? (i := 699) (by decide +kernel), List.mem_of_getElem? (i := 921) (by decide +kernel), List.mem_of_getElem? (i := 922) (by decide +kernel)⟩
theorem lw_p29 : lw_okq (⟨"WalkedRoundsModel", "sendsOn", "(I)V"⟩, 53) := ⟨⟨by decide +kernel, by decide +kernel⟩, List.mem_of_getElem? (i := 699) (by decide +kernel), List.mem_of_getElem? (i := 925) (by decide +kernel), List.mem_of_getElem? (i := 926) (by decide +kernel)⟩
theorem lw_p30 : lw_okq (⟨"WalkedRoundsModel", "askArc", "(I)V"⟩, 53) := ⟨⟨by decide +kernel, by decide +kernel⟩, List.mem_of_getElem? (i := 699) (by decide +kernel), List.mem_of_getElem? (i := 929) (by decide +kernel), List.mem_of_getElem? (i := 930) (by decide +kernel)⟩
theorem lw_p31 : lw_okq (⟨"WalkedRoundsModel", "does", "(III)Z"⟩, 53) := ⟨⟨by decide +kernel, by decide +kernel⟩, List.mem_of_getElem? (i := 699) (by decide +kernel), List.mem_of_getElem? (i := 933) (by decide +kernel), List.mem_of_getElem? (i := 934) (by decide +kernel)⟩
def lw_privs_2 : List (MethodName × Nat) := [(⟨"WalkedRounds$RoundWalk", "messagesTo", "(I)I"⟩, 12), (⟨"WalkedRounds$RoundWalk", "askNode", "(II)V"⟩, 12), (⟨"WalkedRounds$RoundWalk", "foldFor", "(I)J"⟩, 12), (⟨"WalkedRounds$RoundWalk", "foldTwo", "(JJI)J"⟩, 12), (⟨"WalkedRounds$RoundWalk", "changeNodes", "()V"⟩, 12), (⟨"WalkedRounds$RoundWalk", "sumParts", "()V"⟩, 12), (⟨"WalkedRounds$RoundWalk", "tellMessages", "()V"⟩, 12), (⟨"WalkedRoundsModel", "clearFailed", "()V"⟩, 53), (⟨"WalkedRoundsModel", "isTerm", "(I)Z"⟩, 53), (⟨"WalkedRoundsModel", "isNode", "(I)Z"⟩, 53), (⟨"WalkedRoundsModel", "walk", "(I)I"⟩, 53), (⟨"WalkedRoundsModel", "remember", "()V"⟩, 53), (⟨"WalkedRoundsModel", "isFailed", "()Z"⟩, 53), (⟨"WalkedRoundsModel", "sendsOn", "(I)V"⟩, 53), (⟨"WalkedRoundsModel", "askArc", "(I)V"⟩, 53), (⟨"WalkedRoundsModel", "does", "(III)Z"⟩, 53)]
theorem lw_r2 : ∀ q ∈ lw_privs_2, lw_okq q := List.forall_mem_cons.mpr ⟨lw_p16, List.forall_mem_cons.mpr ⟨lw_p17, List.forall_mem_cons.mpr ⟨lw_p18, List.forall_mem_cons.mpr ⟨lw_p19, List.forall_mem_cons.mpr ⟨lw_p20, List.forall_mem_cons.mpr ⟨lw_p21, List.forall_mem_cons.mpr ⟨lw_p22, List.forall_mem_cons.mpr ⟨lw_p23, List.forall_mem_cons.mpr ⟨lw_p24, List.forall_mem_cons.mpr ⟨lw_p25, List.forall_mem_cons.mpr ⟨lw_p26, List.forall_mem_cons.mpr ⟨lw_p27, List.forall_mem_cons.mpr ⟨lw_p28, List.forall_mem_cons.mpr ⟨lw_p29, List.forall_mem_cons.mpr ⟨lw_p30, List.forall_mem_cons.mpr ⟨lw_p31, fun _ h => absurd h List.not_mem_nil⟩⟩⟩⟩⟩⟩⟩⟩⟩⟩⟩⟩⟩⟩⟩⟩
theorem lw_p32 : lw_okq (⟨"WalkedRoundsModel", "asked", "(III)I"⟩, 53) := ⟨⟨by decide +kernel, by decide +kernel⟩, List.mem_of_getElem? (i := 699) (by decide +kernel), List.mem_of_getElem? (i := 937) (by decide +kernel), List.mem_of_getElem? (i := 938) (by decide +kernel)⟩
theorem lw_p33 : lw_okq (⟨"WalkedRoundsModel", "push", "(I)V"⟩, 53) := ⟨⟨by decide +kernel, by decide +kernel⟩, List.mem_of_getElem? (i := 699) (by decide +kernel), List.mem_of_getElem? (i := 941) (by decide +kernel), List.mem_of_getElem? (i := 942) (by decide +kernel)⟩
theorem lw_p34 : lw_okq (⟨"WalkedRoundsModel", "begins", "(I)Z"⟩, 53) := ⟨⟨by decide +kernel, by decide +kernel⟩, List.mem_of_getElem? (i := 699) (by decide +kernel), List.mem_of_getElem? (i := 945) (by decide +kernel), List.mem_of_getElem? (i := 946) (by decide +kernel)⟩
theorem lw_p35 : lw_okq (⟨"WalkedRoundsModel", "arcsFrom", "(I)I"⟩, 53) := ⟨⟨by decide +kernel, by decide +kernel⟩, List.mem_of_getElem? (i := 699) (by decide +kernel), List.mem_of_getElem? (i := 949) (by decide +kernel), List.mem_of_getElem? (i := 950) (by decide +kernel)⟩
theorem lw_p36 : lw_okq (⟨"WalkedRoundsModel", "goesOn", "(I)Z"⟩, 53) := ⟨⟨by decide +kernel, by decide +kernel⟩, List.mem_of_getElem? (i := 699) (by decide +kernel), List.mem_of_getElem? (i := 953) (by decide +kernel), List.mem_of_getElem? (i := 954) (by decide +kernel)⟩
theorem lw_p37 : lw_okq (⟨"WalkedRoundsModel", "joined", "(IJJ)J"⟩, 53) := ⟨⟨by decide +kernel, by decide +kernel⟩, List.mem_of_getElem? (i := 699) (by decide +kernel), List.mem_of_getElem? (i := 957) (by decide +kernel), List.mem_of_getElem? (i := 958) (by decide +kernel)⟩
theorem lw_p38 : lw_okq (⟨"WalkedRoundsModel", "note", "(IIII)V"⟩, 53) := ⟨⟨by decide +kernel, by decide +kernel⟩, List.mem_of_getElem? (i := 699) (by decide +kernel), List.mem_of_getElem? (i := 961) (by decide +kernel), List.mem_of_getElem? (i := 962) (by decide +kernel)⟩
theorem lw_p39 : lw_okq (⟨"WalkedRoundsModel", "takes", "(I)Z"⟩, 53) := ⟨⟨by decide +kernel, by decide +kernel⟩, List.mem_of_getElem? (i := 699) (by decide +kernel), List.mem_of_getElem? (i := 965) (by decide +kernel), List.mem_of_getElem? (i := 966) (by decide +kernel)⟩
theorem lw_p40 : lw_okq (⟨"WalkedRoundsModel", "keep", "(JI)V"⟩, 53) := ⟨⟨by decide +kernel, by decide +kernel⟩, List.mem_of_getElem? (i := 699) (by decide +kernel), List.mem_of_getElem? (i := 969) (by decide +kernel), List.mem_of_getElem? (i := 970) (by decide +kernel)⟩
theorem lw_p41 : lw_okq (⟨"WalkedRoundsModel", "isAnyAwake", "()Z"⟩, 53) := ⟨⟨by decide +kernel, by decide +kernel⟩, List.mem_of_getElem? (i := 699) (by decide +kernel), List.mem_of_getElem? (i := 973) (by decide +kernel), List.mem_of_getElem? (i := 974) (by decide +kernel)⟩
theorem lw_p42 : lw_okq (⟨"WalkedRoundsModel", "round", "(I)Z"⟩, 53) := ⟨⟨by decide +kernel, by decide +kernel⟩, List.mem_of_getElem? (i := 699) (by decide +kernel), List.mem_of_getElem? (i := 977) (by decide +kernel), List.mem_of_getElem? (i := 978) (by decide +kernel)⟩
theorem lw_p43 : lw_okq (⟨"WalkedRoundsModel", "sendAll", "(I)V"⟩, 53) := ⟨⟨by decide +kernel, by decide +kernel⟩, List.mem_of_getElem? (i := 699) (by decide +kernel), List.mem_of_getElem? (i := 981) (by decide +kernel), List.mem_of_getElem? (i := 982) (by decide +kernel)⟩
theorem lw_p44 : lw_okq (⟨"WalkedRoundsModel", "sendAlong", "(I)V"⟩, 53) := ⟨⟨by decide +kernel, by decide +kernel⟩, List.mem_of_getElem? (i := 699) (by decide +kernel), List.mem_of_getElem? (i := 985) (by decide +kernel), List.mem_of_getElem? (i := 986) (by decide +kernel)⟩
theorem lw_p45 : lw_okq (⟨"WalkedRoundsModel", "isReached", "(I)Z"⟩, 53) := ⟨⟨by decide +kernel, by decide +kernel⟩, List.mem_of_getElem? (i := 699) (by decide +kernel), List.mem_of_getElem? (i := 989) (by decide +kernel), List.mem_of_getElem? (i := 990) (by decide +kernel)⟩
theorem lw_p46 : lw_okq (⟨"WalkedRoundsModel", "renew", "(I)V"⟩, 53) := ⟨⟨by decide +kernel, by decide +kernel⟩, List.mem_of_getElem? (i := 699) (by decide +kernel), List.mem_of_getElem? (i := 993) (by decide +kernel), List.mem_of_getElem? (i := 994) (by decide +kernel)⟩
theorem lw_p47 : lw_okq (⟨"WalkedRoundsModel", "foldFor", "(I)V"⟩, 53) := ⟨⟨by decide +kernel, by decide +kernel⟩, List.mem_of_getElem? (i := 699) (by decide +kernel), List.mem_of_getElem? (i := 997) (by decide +kernel), List.mem_of_getElem? (i := 998) (by decide +kernel)⟩
def lw_privs_3 : List (MethodName × Nat) := [(⟨"WalkedRoundsModel", "asked", "(III)I"⟩, 53), (⟨"WalkedRoundsModel", "push", "(I)V"⟩, 53), (⟨"WalkedRoundsModel", "begins", "(I)Z"⟩, 53), (⟨"WalkedRoundsModel", "arcsFrom", "(I)I"⟩, 53), (⟨"WalkedRoundsModel", "goesOn", "(I)Z"⟩, 53), (⟨"WalkedRoundsModel", "joined", "(IJJ)J"⟩, 53), (⟨"WalkedRoundsModel", "note", "(IIII)V"⟩, 53), (⟨"WalkedRoundsModel", "takes", "(I)Z"⟩, 53), (⟨"WalkedRoundsModel", "keep", "(JI)V"⟩, 53), (⟨"WalkedRoundsModel", "isAnyAwake", "()Z"⟩, 53), (⟨"WalkedRoundsModel", "round", "(I)Z"⟩, 53), (⟨"WalkedRoundsModel", "sendAll", "(I)V"⟩, 53), (⟨"WalkedRoundsModel", "sendAlong", "(I)V"⟩, 53), (⟨"WalkedRoundsModel", "isReached", "(I)Z"⟩, 53), (⟨"WalkedRoundsModel", "renew", "(I)V"⟩, 53), (⟨"WalkedRoundsModel", "foldFor", "(I)V"⟩, 53)]
theorem lw_r3 : ∀ q ∈ lw_privs_3, lw_okq q := List.forall_mem_cons.mpr ⟨lw_p32, List.forall_mem_cons.mpr ⟨lw_p33, List.forall_mem_cons.mpr ⟨lw_p34, List.forall_mem_cons.mpr ⟨lw_p35, List.forall_mem_cons.mpr ⟨lw_p36, List.forall_mem_cons.mpr ⟨lw_p37, List.forall_mem_cons.mpr ⟨lw_p38, List.forall_mem_cons.mpr ⟨lw_p39, List.forall_mem_cons.mpr ⟨lw_p40, List.forall_mem_cons.mpr ⟨lw_p41, List.forall_mem_cons.mpr ⟨lw_p42, List.forall_mem_cons.mpr ⟨lw_p43, List.forall_mem_cons.mpr ⟨lw_p44, List.forall_mem_cons.mpr ⟨lw_p45, List.forall_mem_cons.mpr ⟨lw_p46, List.forall_mem_cons.mpr ⟨lw_p47, fun _ h => absurd h List.not_mem_nil⟩⟩⟩⟩⟩⟩⟩⟩⟩⟩⟩⟩⟩⟩⟩⟩
theorem lw_p48 : lw_okq (⟨"WalkedRoundsModel", "isOver", "(JJ)Z"⟩, 53) := ⟨⟨by decide +kernel, by decide +kernel⟩, List.mem_of_getElem? (i := 699) (by decide +kernel), List.mem_of_getElem? (i := 1001) (by decide +kernel), List.mem_of_getElem? (i := 1002) (by decide +kernel)⟩
theorem lw_p49 : lw_okq (⟨"WalkedRoundsModel", "asBefore", "()V"⟩, 53) := ⟨⟨by decide +kernel, by decide +kernel⟩, List.mem_of_getElem? (i := 699) (by decide +kernel), List.mem_of_getElem? (i := 1005) (by decide +kernel), List.mem_of_getElem? (i := 1006) (by decide +kernel)⟩
theorem lw_p50 : lw_okq (⟨"WalkedRoundsModel", "isArc", "(I)Z"⟩, 53) := ⟨⟨by decide +kernel, by decide +kernel⟩, List.mem_of_getElem? (i := 699) (by decide +kernel), List.mem_of_getElem? (i := 1021) (by decide +kernel), List.mem_of_getElem? (i := 1022) (by decide +kernel)⟩
def lw_privs_4 : List (MethodName × Nat) := [(⟨"WalkedRoundsModel", "isOver", "(JJ)Z"⟩, 53), (⟨"WalkedRoundsModel", "asBefore", "()V"⟩, 53), (⟨"WalkedRoundsModel", "isArc", "(I)Z"⟩, 53)]
theorem lw_r4 : ∀ q ∈ lw_privs_4, lw_okq q := List.forall_mem_cons.mpr ⟨lw_p48, List.forall_mem_cons.mpr ⟨lw_p49, List.forall_mem_cons.mpr ⟨lw_p50, fun _ h => absurd h List.not_mem_nil⟩⟩⟩
def lw_privs : List (MethodName × Nat) := lw_privs_1 ++ (lw_privs_2 ++ (lw_privs_3 ++ (lw_privs_4)))
def lw_tbl : List Cond := k2_sels lw_privs ++ tables_1
theorem lw_privs_ok : ∀ q ∈ lw_privs, lw_okq q := by
  show ∀ q ∈ lw_privs_1 ++ (lw_privs_2 ++ (lw_privs_3 ++ (lw_privs_4))), lw_okq q
  exact List.forall_mem_append.mpr ⟨lw_r1, List.forall_mem_append.mpr ⟨lw_r2, List.forall_mem_append.mpr ⟨lw_r3, lw_r4⟩⟩⟩
def RX0 : String := "WalkedRounds$Actor"
def TX0 : u_T := fun k => match k with
  | 0 => ("WalkedRounds$Actor", "web", "LWalkedRounds$Web;", true)
  | 1 => ("WalkedRounds$Actor", "program", "LWalkedRounds$Program;", true)
  | 2 => ("WalkedRounds$Actor", "asker", "LWalkedRounds$Asker;", true)
  | _ => ("WalkedRounds$Actor", "failure", "LWalkedRounds$Failure;", true)
def tyX0 : Nat → FieldType := fun k => match k with
  | 0 => .object "WalkedRounds$Web"
  | 1 => .object "WalkedRounds$Program"
  | 2 => .object "WalkedRounds$Asker"
  | _ => .object "WalkedRounds$Failure"
theorem nmX0 : ∀ a, a < 4 → ∀ b, b < 4 → a ≠ b → (TX0 a).2.1 ≠ (TX0 b).2.1 := by decide +kernel
theorem tyX0_ok : ∀ k, k < 4 → parseFieldDescriptor (TX0 k).2.2.1 = some (tyX0 k) := by decide +kernel
abbrev cX0_init : ByteArray := prog_2_method_1_code
def yX0_init : MethodName := ⟨RX0, "<init>", "(LWalkedRounds$Web;LWalkedRounds$Program;LWalkedRounds$Asker;LWalkedRounds$Failure;)V"⟩
abbrev cX0_comesTo : ByteArray := prog_2_method_2_code
def yX0_comesTo : MethodName := ⟨RX0, "comesTo", "(IIIJ)J"⟩
def RX1 : String := "WalkedRounds$Asker"
def TX1 : u_T := fun k => match k with
  | 0 => ("WalkedRounds$Asker", "terms", "LWalkedRounds$Terms;", true)
  | 1 => ("WalkedRounds$Asker", "web", "LWalkedRounds$Web;", true)
  | 2 => ("WalkedRounds$Asker", "foldedMessages", "I", false)
  | 3 => ("WalkedRounds$Asker", "steps", "I", false)
  | 4 => ("WalkedRounds$Asker", "foldedValue", "J", false)
  | 5 => ("WalkedRounds$Asker", "fault", "I", false)
  | _ => ("WalkedRounds$Asker", "allSteps", "I", false)
def tyX1 : Nat → FieldType := fun k => match k with
  | 0 => .object "WalkedRounds$Terms"
  | 1 => .object "WalkedRounds$Web"
  | 2 => .int
  | 3 => .int
  | 4 => .long
  | 5 => .int
  | _ => .int
theorem nmX1 : ∀ a, a < 7 → ∀ b, b < 7 → a ≠ b → (TX1 a).2.1 ≠ (TX1 b).2.1 := by decide +kernel
theorem tyX1_ok : ∀ k, k < 7 → parseFieldDescriptor (TX1 k).2.2.1 = some (tyX1 k) := by decide +kernel
abbrev cX1_init : ByteArray := prog_3_method_1_code
def yX1_init : MethodName := ⟨RX1, "<init>", "(LWalkedRounds$Terms;LWalkedRounds$Web;)V"⟩
abbrev cX1_begin : ByteArray := prog_3_method_2_code
def yX1_begin : MethodName := ⟨RX1, "begin", "()V"⟩
abbrev cX1_setFolded : ByteArray := prog_3_method_3_code
def yX1_setFolded : MethodName := ⟨RX1, "setFolded", "(JI)V"⟩
abbrev cX1_valueOf : ByteArray := prog_3_method_4_code
def yX1_valueOf : MethodName := ⟨RX1, "valueOf", "(IIII)J"⟩
abbrev cX1_plainValue : ByteArray := prog_3_method_5_code
def yX1_plainValue : MethodName := ⟨RX1, "plainValue", "(III)J"⟩
abbrev cX1_stateAt : ByteArray := prog_3_method_6_code
def yX1_stateAt : MethodName := ⟨RX1, "stateAt", "(II)J"⟩
abbrev cX1_joined : ByteArray := prog_3_method_7_code
def yX1_joined : MethodName := ⟨RX1, "joined", "(IJJ)J"⟩
abbrev cX1_fails : ByteArray := prog_3_method_8_code
def yX1_fails : MethodName := ⟨RX1, "fails", "(I)J"⟩
def RX2 : String := "WalkedRounds$Failure"
def TX2 : u_T := fun k => match k with
  | 0 => ("WalkedRounds$Failure", "sort", "I", false)
  | 1 => ("WalkedRounds$Failure", "act", "I", false)
  | 2 => ("WalkedRounds$Failure", "node", "I", false)
  | 3 => ("WalkedRounds$Failure", "arc", "I", false)
  | _ => ("WalkedRounds$Failure", "round", "I", false)
def tyX2 : Nat → FieldType := fun k => match k with
  | 0 => .int
  | 1 => .int
  | 2 => .int
  | 3 => .int
  | _ => .int
theorem nmX2 : ∀ a, a < 5 → ∀ b, b < 5 → a ≠ b → (TX2 a).2.1 ≠ (TX2 b).2.1 := by decide +kernel
theorem tyX2_ok : ∀ k, k < 5 → parseFieldDescriptor (TX2 k).2.2.1 = some (tyX2 k) := by decide +kernel
abbrev cX2_init : ByteArray := prog_4_method_1_code
def yX2_init : MethodName := ⟨RX2, "<init>", "()V"⟩
abbrev cX2_clear : ByteArray := prog_4_method_2_code
def yX2_clear : MethodName := ⟨RX2, "clear", "()V"⟩
abbrev cX2_is : ByteArray := prog_4_method_3_code
def yX2_is : MethodName := ⟨RX2, "is", "()Z"⟩
abbrev cX2_keep : ByteArray := prog_4_method_4_code
def yX2_keep : MethodName := ⟨RX2, "keep", "(IIIII)V"⟩
abbrev cX2_tell : ByteArray := prog_4_method_5_code
def yX2_tell : MethodName := ⟨RX2, "tell", "(I)I"⟩
def RX3 : String := "WalkedRounds$LineWalk"
def TX3 : u_T := fun k => match k with
  | 0 => ("WalkedRounds$LineWalk", "web", "LWalkedRounds$Web;", true)
  | 1 => ("WalkedRounds$LineWalk", "actor", "LWalkedRounds$Actor;", true)
  | 2 => ("WalkedRounds$LineWalk", "failure", "LWalkedRounds$Failure;", true)
  | 3 => ("WalkedRounds$LineWalk", "past", "LWalkedRounds$Past;", true)
  | 4 => ("WalkedRounds$LineWalk", "told", "LWalkedRounds$Told;", true)
  | 5 => ("WalkedRounds$LineWalk", "arcs", "[I", true)
  | 6 => ("WalkedRounds$LineWalk", "values", "[J", true)
  | 7 => ("WalkedRounds$LineWalk", "newStates", "[J", true)
  | 8 => ("WalkedRounds$LineWalk", "oldStates", "[J", true)
  | 9 => ("WalkedRounds$LineWalk", "first", "I", false)
  | _ => ("WalkedRounds$LineWalk", "size", "I", false)
def tyX3 : Nat → FieldType := fun k => match k with
  | 0 => .object "WalkedRounds$Web"
  | 1 => .object "WalkedRounds$Actor"
  | 2 => .object "WalkedRounds$Failure"
  | 3 => .object "WalkedRounds$Past"
  | 4 => .object "WalkedRounds$Told"
  | 5 => .array .int
  | 6 => .array .long
  | 7 => .array .long
  | 8 => .array .long
  | 9 => .int
  | _ => .int
theorem nmX3 : ∀ a, a < 11 → ∀ b, b < 11 → a ≠ b → (TX3 a).2.1 ≠ (TX3 b).2.1 := by decide +kernel
theorem tyX3_ok : ∀ k, k < 11 → parseFieldDescriptor (TX3 k).2.2.1 = some (tyX3 k) := by decide +kernel
abbrev cX3_init : ByteArray := prog_5_method_1_code
def yX3_init : MethodName := ⟨RX3, "<init>", "(LWalkedRounds$Actor;LWalkedRounds$Past;LWalkedRounds$Told;)V"⟩
abbrev cX3_walk : ByteArray := prog_5_method_2_code
def yX3_walk : MethodName := ⟨RX3, "walk", "(I)I"⟩
abbrev cX3_startLine : ByteArray := prog_5_method_3_code
def yX3_startLine : MethodName := ⟨RX3, "startLine", "()V"⟩
abbrev cX3_sendOn : ByteArray := prog_5_method_4_code
def yX3_sendOn : MethodName := ⟨RX3, "sendOn", "(I)V"⟩
abbrev cX3_sendAlong : ByteArray := prog_5_method_5_code
def yX3_sendAlong : MethodName := ⟨RX3, "sendAlong", "(II)V"⟩
abbrev cX3_isDone : ByteArray := prog_5_method_6_code
def yX3_isDone : MethodName := ⟨RX3, "isDone", "(IJ)Z"⟩
abbrev cX3_takeStates : ByteArray := prog_5_method_7_code
def yX3_takeStates : MethodName := ⟨RX3, "takeStates", "(I)V"⟩
def RX4 : String := "WalkedRounds$Memory"
def TX4 : u_T := fun k => match k with
  | 0 => ("WalkedRounds$Memory", "states", "[J", true)
  | 1 => ("WalkedRounds$Memory", "awake", "[Z", true)
  | 2 => ("WalkedRounds$Memory", "rounds", "I", false)
  | _ => ("WalkedRounds$Memory", "sum", "J", false)
def tyX4 : Nat → FieldType := fun k => match k with
  | 0 => .array .long
  | 1 => .array .boolean
  | 2 => .int
  | _ => .long
theorem nmX4 : ∀ a, a < 4 → ∀ b, b < 4 → a ≠ b → (TX4 a).2.1 ≠ (TX4 b).2.1 := by decide +kernel
theorem tyX4_ok : ∀ k, k < 4 → parseFieldDescriptor (TX4 k).2.2.1 = some (tyX4 k) := by decide +kernel
abbrev cX4_init : ByteArray := prog_6_method_1_code
def yX4_init : MethodName := ⟨RX4, "<init>", "()V"⟩
abbrev cX4_take : ByteArray := prog_6_method_2_code
def yX4_take : MethodName := ⟨RX4, "take", "(LWalkedRounds$Web;)V"⟩
abbrev cX4_giveBack : ByteArray := prog_6_method_3_code
def yX4_giveBack : MethodName := ⟨RX4, "giveBack", "(LWalkedRounds$Web;)V"⟩
def RX5 : String := "WalkedRounds$Past"
def TX5 : u_T := fun k => match k with
  | 0 => ("WalkedRounds$Past", "ring", "[LWalkedRounds$Memory;", true)
  | 1 => ("WalkedRounds$Past", "next", "I", false)
  | _ => ("WalkedRounds$Past", "kept", "I", false)
def tyX5 : Nat → FieldType := fun k => match k with
  | 0 => .array (.object "WalkedRounds$Memory")
  | 1 => .int
  | _ => .int
theorem nmX5 : ∀ a, a < 3 → ∀ b, b < 3 → a ≠ b → (TX5 a).2.1 ≠ (TX5 b).2.1 := by decide +kernel
theorem tyX5_ok : ∀ k, k < 3 → parseFieldDescriptor (TX5 k).2.2.1 = some (tyX5 k) := by decide +kernel
abbrev cX5_init : ByteArray := prog_7_method_1_code
def yX5_init : MethodName := ⟨RX5, "<init>", "()V"⟩
abbrev cX5_mark : ByteArray := prog_7_method_2_code
def yX5_mark : MethodName := ⟨RX5, "mark", "(LWalkedRounds$Web;)V"⟩
abbrev cX5_backToMark : ByteArray := prog_7_method_3_code
def yX5_backToMark : MethodName := ⟨RX5, "backToMark", "(LWalkedRounds$Web;)V"⟩
abbrev cX5_keepMark : ByteArray := prog_7_method_4_code
def yX5_keepMark : MethodName := ⟨RX5, "keepMark", "()V"⟩
abbrev cX5_forget : ByteArray := prog_7_method_5_code
def yX5_forget : MethodName := ⟨RX5, "forget", "()V"⟩
abbrev cX5_undoLatest : ByteArray := prog_7_method_6_code
def yX5_undoLatest : MethodName := ⟨RX5, "undoLatest", "(LWalkedRounds$Web;)I"⟩
def RX6 : String := "WalkedRounds$Program"
def TX6 : u_T := fun k => match k with
  | 0 => ("WalkedRounds$Program", "acts", "[I", true)
  | _ => ("WalkedRounds$Program", "foldSort", "I", false)
def tyX6 : Nat → FieldType := fun k => match k with
  | 0 => .array .int
  | _ => .int
theorem nmX6 : ∀ a, a < 2 → ∀ b, b < 2 → a ≠ b → (TX6 a).2.1 ≠ (TX6 b).2.1 := by decide +kernel
theorem tyX6_ok : ∀ k, k < 2 → parseFieldDescriptor (TX6 k).2.2.1 = some (tyX6 k) := by decide +kernel
abbrev cX6_init : ByteArray := prog_8_method_1_code
def yX6_init : MethodName := ⟨RX6, "<init>", "()V"⟩
def RX7 : String := "WalkedRounds$RoundWalk"
def TX7 : u_T := fun k => match k with
  | 0 => ("WalkedRounds$RoundWalk", "web", "LWalkedRounds$Web;", true)
  | 1 => ("WalkedRounds$RoundWalk", "actor", "LWalkedRounds$Actor;", true)
  | 2 => ("WalkedRounds$RoundWalk", "failure", "LWalkedRounds$Failure;", true)
  | 3 => ("WalkedRounds$RoundWalk", "past", "LWalkedRounds$Past;", true)
  | 4 => ("WalkedRounds$RoundWalk", "told", "LWalkedRounds$Told;", true)
  | 5 => ("WalkedRounds$RoundWalk", "sentArcs", "[I", true)
  | 6 => ("WalkedRounds$RoundWalk", "carries", "[Z", true)
  | 7 => ("WalkedRounds$RoundWalk", "carried", "[J", true)
  | 8 => ("WalkedRounds$RoundWalk", "reached", "[Z", true)
  | 9 => ("WalkedRounds$RoundWalk", "halting", "[Z", true)
  | 10 => ("WalkedRounds$RoundWalk", "newStates", "[J", true)
  | _ => ("WalkedRounds$RoundWalk", "sent", "I", false)
def tyX7 : Nat → FieldType := fun k => match k with
  | 0 => .object "WalkedRounds$Web"
  | 1 => .object "WalkedRounds$Actor"
  | 2 => .object "WalkedRounds$Failure"
  | 3 => .object "WalkedRounds$Past"
  | 4 => .object "WalkedRounds$Told"
  | 5 => .array .int
  | 6 => .array .boolean
  | 7 => .array .long
  | 8 => .array .boolean
  | 9 => .array .boolean
  | 10 => .array .long
  | _ => .int
theorem nmX7 : ∀ a, a < 12 → ∀ b, b < 12 → a ≠ b → (TX7 a).2.1 ≠ (TX7 b).2.1 := by decide +kernel
theorem tyX7_ok : ∀ k, k < 12 → parseFieldDescriptor (TX7 k).2.2.1 = some (tyX7 k) := by decide +kernel
abbrev cX7_init : ByteArray := prog_9_method_1_code
def yX7_init : MethodName := ⟨RX7, "<init>", "(LWalkedRounds$Actor;LWalkedRounds$Past;LWalkedRounds$Told;)V"⟩
abbrev cX7_walk : ByteArray := prog_9_method_2_code
def yX7_walk : MethodName := ⟨RX7, "walk", "(ZI)I"⟩
abbrev cX7_isDone : ByteArray := prog_9_method_3_code
def yX7_isDone : MethodName := ⟨RX7, "isDone", "(Z)Z"⟩
abbrev cX7_begin : ByteArray := prog_9_method_4_code
def yX7_begin : MethodName := ⟨RX7, "begin", "()V"⟩
abbrev cX7_sendAll : ByteArray := prog_9_method_5_code
def yX7_sendAll : MethodName := ⟨RX7, "sendAll", "(Z)V"⟩
abbrev cX7_sendAlong : ByteArray := prog_9_method_6_code
def yX7_sendAlong : MethodName := ⟨RX7, "sendAlong", "(I)V"⟩
abbrev cX7_askNodes : ByteArray := prog_9_method_7_code
def yX7_askNodes : MethodName := ⟨RX7, "askNodes", "()V"⟩
abbrev cX7_messagesTo : ByteArray := prog_9_method_8_code
def yX7_messagesTo : MethodName := ⟨RX7, "messagesTo", "(I)I"⟩
abbrev cX7_askNode : ByteArray := prog_9_method_9_code
def yX7_askNode : MethodName := ⟨RX7, "askNode", "(II)V"⟩
abbrev cX7_foldFor : ByteArray := prog_9_method_10_code
def yX7_foldFor : MethodName := ⟨RX7, "foldFor", "(I)J"⟩
abbrev cX7_foldTwo : ByteArray := prog_9_method_11_code
def yX7_foldTwo : MethodName := ⟨RX7, "foldTwo", "(JJI)J"⟩
abbrev cX7_changeNodes : ByteArray := prog_9_method_12_code
def yX7_changeNodes : MethodName := ⟨RX7, "changeNodes", "()V"⟩
abbrev cX7_sumParts : ByteArray := prog_9_method_13_code
def yX7_sumParts : MethodName := ⟨RX7, "sumParts", "()V"⟩
abbrev cX7_tellMessages : ByteArray := prog_9_method_14_code
def yX7_tellMessages : MethodName := ⟨RX7, "tellMessages", "()V"⟩
def RX8 : String := "WalkedRounds$Terms"
def TX8 : u_T := fun k => match k with
  | 0 => ("WalkedRounds$Terms", "kinds", "[I", true)
  | 1 => ("WalkedRounds$Terms", "partA", "[I", true)
  | 2 => ("WalkedRounds$Terms", "partB", "[I", true)
  | 3 => ("WalkedRounds$Terms", "partC", "[I", true)
  | 4 => ("WalkedRounds$Terms", "numbers", "[J", true)
  | _ => ("WalkedRounds$Terms", "size", "I", false)
def tyX8 : Nat → FieldType := fun k => match k with
  | 0 => .array .int
  | 1 => .array .int
  | 2 => .array .int
  | 3 => .array .int
  | 4 => .array .long
  | _ => .int
theorem nmX8 : ∀ a, a < 6 → ∀ b, b < 6 → a ≠ b → (TX8 a).2.1 ≠ (TX8 b).2.1 := by decide +kernel
theorem tyX8_ok : ∀ k, k < 6 → parseFieldDescriptor (TX8 k).2.2.1 = some (tyX8 k) := by decide +kernel
abbrev cX8_init : ByteArray := prog_10_method_1_code
def yX8_init : MethodName := ⟨RX8, "<init>", "()V"⟩
abbrev cX8_has : ByteArray := prog_10_method_2_code
def yX8_has : MethodName := ⟨RX8, "has", "(I)Z"⟩
abbrev cX8_add : ByteArray := prog_10_method_3_code
def yX8_add : MethodName := ⟨RX8, "add", "(IIIIJ)I"⟩
abbrev cX8_partsOf : ByteArray := prog_10_method_4_code
def yX8_partsOf : MethodName := ⟨RX8, "partsOf", "(I)I"⟩
def RX9 : String := "WalkedRounds$Told"
def TX9 : u_T := fun k => match k with
  | 0 => ("WalkedRounds$Told", "arcs", "[I", true)
  | 1 => ("WalkedRounds$Told", "values", "[J", true)
  | _ => ("WalkedRounds$Told", "size", "I", false)
def tyX9 : Nat → FieldType := fun k => match k with
  | 0 => .array .int
  | 1 => .array .long
  | _ => .int
theorem nmX9 : ∀ a, a < 3 → ∀ b, b < 3 → a ≠ b → (TX9 a).2.1 ≠ (TX9 b).2.1 := by decide +kernel
theorem tyX9_ok : ∀ k, k < 3 → parseFieldDescriptor (TX9 k).2.2.1 = some (tyX9 k) := by decide +kernel
abbrev cX9_init : ByteArray := prog_11_method_1_code
def yX9_init : MethodName := ⟨RX9, "<init>", "()V"⟩
abbrev cX9_has : ByteArray := prog_11_method_2_code
def yX9_has : MethodName := ⟨RX9, "has", "(I)Z"⟩
abbrev cX9_clear : ByteArray := prog_11_method_3_code
def yX9_clear : MethodName := ⟨RX9, "clear", "()V"⟩
abbrev cX9_add : ByteArray := prog_11_method_4_code
def yX9_add : MethodName := ⟨RX9, "add", "(IJ)V"⟩
def RX10 : String := "WalkedRounds$Web"
def TX10 : u_T := fun k => match k with
  | 0 => ("WalkedRounds$Web", "states", "[J", true)
  | 1 => ("WalkedRounds$Web", "awake", "[Z", true)
  | 2 => ("WalkedRounds$Web", "degrees", "[I", true)
  | 3 => ("WalkedRounds$Web", "from", "[I", true)
  | 4 => ("WalkedRounds$Web", "to", "[I", true)
  | 5 => ("WalkedRounds$Web", "weights", "[J", true)
  | 6 => ("WalkedRounds$Web", "nodes", "I", false)
  | 7 => ("WalkedRounds$Web", "arcs", "I", false)
  | 8 => ("WalkedRounds$Web", "rounds", "I", false)
  | _ => ("WalkedRounds$Web", "sum", "J", false)
def tyX10 : Nat → FieldType := fun k => match k with
  | 0 => .array .long
  | 1 => .array .boolean
  | 2 => .array .int
  | 3 => .array .int
  | 4 => .array .int
  | 5 => .array .long
  | 6 => .int
  | 7 => .int
  | 8 => .int
  | _ => .long
theorem nmX10 : ∀ a, a < 10 → ∀ b, b < 10 → a ≠ b → (TX10 a).2.1 ≠ (TX10 b).2.1 := by decide +kernel
theorem tyX10_ok : ∀ k, k < 10 → parseFieldDescriptor (TX10 k).2.2.1 = some (tyX10 k) := by decide +kernel
abbrev cX10_init : ByteArray := prog_12_method_1_code
def yX10_init : MethodName := ⟨RX10, "<init>", "()V"⟩
abbrev cX10_hasNode : ByteArray := prog_12_method_2_code
def yX10_hasNode : MethodName := ⟨RX10, "hasNode", "(I)Z"⟩
abbrev cX10_hasArc : ByteArray := prog_12_method_3_code
def yX10_hasArc : MethodName := ⟨RX10, "hasArc", "(I)Z"⟩
abbrev cX10_addNode : ByteArray := prog_12_method_4_code
def yX10_addNode : MethodName := ⟨RX10, "addNode", "()I"⟩
abbrev cX10_addArc : ByteArray := prog_12_method_5_code
def yX10_addArc : MethodName := ⟨RX10, "addArc", "(IIJ)I"⟩
abbrev cX10_awakeNodes : ByteArray := prog_12_method_6_code
def yX10_awakeNodes : MethodName := ⟨RX10, "awakeNodes", "()I"⟩
def RX11 : String := "WalkedRounds"
def TX11 : u_T := fun k => match k with
  | 0 => ("WalkedRounds", "terms", "LWalkedRounds$Terms;", true)
  | 1 => ("WalkedRounds", "web", "LWalkedRounds$Web;", true)
  | 2 => ("WalkedRounds", "program", "LWalkedRounds$Program;", true)
  | 3 => ("WalkedRounds", "failure", "LWalkedRounds$Failure;", true)
  | 4 => ("WalkedRounds", "past", "LWalkedRounds$Past;", true)
  | 5 => ("WalkedRounds", "told", "LWalkedRounds$Told;", true)
  | 6 => ("WalkedRounds", "asker", "LWalkedRounds$Asker;", true)
  | 7 => ("WalkedRounds", "actor", "LWalkedRounds$Actor;", true)
  | 8 => ("WalkedRounds", "roundWalk", "LWalkedRounds$RoundWalk;", true)
  | 9 => ("WalkedRounds", "lineWalk", "LWalkedRounds$LineWalk;", true)
  | _ => ("WalkedRounds", "whyAsked", "I", false)
def tyX11 : Nat → FieldType := fun k => match k with
  | 0 => .object "WalkedRounds$Terms"
  | 1 => .object "WalkedRounds$Web"
  | 2 => .object "WalkedRounds$Program"
  | 3 => .object "WalkedRounds$Failure"
  | 4 => .object "WalkedRounds$Past"
  | 5 => .object "WalkedRounds$Told"
  | 6 => .object "WalkedRounds$Asker"
  | 7 => .object "WalkedRounds$Actor"
  | 8 => .object "WalkedRounds$RoundWalk"
  | 9 => .object "WalkedRounds$LineWalk"
  | _ => .int
theorem nmX11 : ∀ a, a < 11 → ∀ b, b < 11 → a ≠ b → (TX11 a).2.1 ≠ (TX11 b).2.1 := by decide +kernel
theorem tyX11_ok : ∀ k, k < 11 → parseFieldDescriptor (TX11 k).2.2.1 = some (tyX11 k) := by decide +kernel
abbrev cX11_init : ByteArray := prog_1_method_1_code
def yX11_init : MethodName := ⟨RX11, "<init>", "()V"⟩
abbrev cX11_term : ByteArray := prog_1_method_2_code
def yX11_term : MethodName := ⟨RX11, "term", "(IIIIJ)I"⟩
abbrev cX11_node : ByteArray := prog_1_method_3_code
def yX11_node : MethodName := ⟨RX11, "node", "()I"⟩
abbrev cX11_arc : ByteArray := prog_1_method_4_code
def yX11_arc : MethodName := ⟨RX11, "arc", "(IIJ)I"⟩
abbrev cX11_put : ByteArray := prog_1_method_5_code
def yX11_put : MethodName := ⟨RX11, "put", "(IIJ)I"⟩
abbrev cX11_wake : ByteArray := prog_1_method_6_code
def yX11_wake : MethodName := ⟨RX11, "wake", "(IZ)I"⟩
abbrev cX11_act : ByteArray := prog_1_method_7_code
def yX11_act : MethodName := ⟨RX11, "act", "(II)I"⟩
abbrev cX11_fold : ByteArray := prog_1_method_8_code
def yX11_fold : MethodName := ⟨RX11, "fold", "(I)I"⟩
abbrev cX11_run : ByteArray := prog_1_method_9_code
def yX11_run : MethodName := ⟨RX11, "run", "(II)I"⟩
abbrev cX11_undo : ByteArray := prog_1_method_10_code
def yX11_undo : MethodName := ⟨RX11, "undo", "()I"⟩
abbrev cX11_failed : ByteArray := prog_1_method_11_code
def yX11_failed : MethodName := ⟨RX11, "failed", "(I)I"⟩
abbrev cX11_ask : ByteArray := prog_1_method_12_code
def yX11_ask : MethodName := ⟨RX11, "ask", "(III)J"⟩
abbrev cX11_why : ByteArray := prog_1_method_13_code
def yX11_why : MethodName := ⟨RX11, "why", "()I"⟩
abbrev cX11_state : ByteArray := prog_1_method_14_code
def yX11_state : MethodName := ⟨RX11, "state", "(II)J"⟩
abbrev cX11_whole : ByteArray := prog_1_method_15_code
def yX11_whole : MethodName := ⟨RX11, "whole", "()J"⟩
abbrev cX11_awake : ByteArray := prog_1_method_16_code
def yX11_awake : MethodName := ⟨RX11, "awake", "(I)I"⟩
abbrev cX11_along : ByteArray := prog_1_method_17_code
def yX11_along : MethodName := ⟨RX11, "along", "(I)I"⟩
abbrev cX11_message : ByteArray := prog_1_method_18_code
def yX11_message : MethodName := ⟨RX11, "message", "(I)J"⟩
abbrev cX11_count : ByteArray := prog_1_method_19_code
def yX11_count : MethodName := ⟨RX11, "count", "(I)I"⟩
abbrev cX11_isState : ByteArray := prog_1_method_20_code
def yX11_isState : MethodName := ⟨RX11, "isState", "(J)Z"⟩
abbrev cX11_changed : ByteArray := prog_1_method_21_code
def yX11_changed : MethodName := ⟨RX11, "changed", "(I)I"⟩
def RX12 : String := "WalkedRoundsModel"
def TX12 : u_T := fun k => match k with
  | 0 => ("WalkedRoundsModel", "terms", "I", false)
  | 1 => ("WalkedRoundsModel", "kinds", "[I", true)
  | 2 => ("WalkedRoundsModel", "partA", "[I", true)
  | 3 => ("WalkedRoundsModel", "partB", "[I", true)
  | 4 => ("WalkedRoundsModel", "partC", "[I", true)
  | 5 => ("WalkedRoundsModel", "numbers", "[J", true)
  | 6 => ("WalkedRoundsModel", "nodes", "I", false)
  | 7 => ("WalkedRoundsModel", "states", "[J", true)
  | 8 => ("WalkedRoundsModel", "awake", "[Z", true)
  | 9 => ("WalkedRoundsModel", "arcs", "I", false)
  | 10 => ("WalkedRoundsModel", "from", "[I", true)
  | 11 => ("WalkedRoundsModel", "to", "[I", true)
  | 12 => ("WalkedRoundsModel", "weights", "[J", true)
  | 13 => ("WalkedRoundsModel", "acts", "[I", true)
  | 14 => ("WalkedRoundsModel", "fold", "I", false)
  | 15 => ("WalkedRoundsModel", "whole", "J", false)
  | 16 => ("WalkedRoundsModel", "rounds", "I", false)
  | 17 => ("WalkedRoundsModel", "steps", "I", false)
  | 18 => ("WalkedRoundsModel", "failed", "[I", true)
  | 19 => ("WalkedRoundsModel", "why", "I", false)
  | 20 => ("WalkedRoundsModel", "kept", "I", false)
  | 21 => ("WalkedRoundsModel", "oldStates", "[J", true)
  | 22 => ("WalkedRoundsModel", "oldAwake", "[Z", true)
  | 23 => ("WalkedRoundsModel", "oldWhole", "[J", true)
  | 24 => ("WalkedRoundsModel", "oldRounds", "[I", true)
  | 25 => ("WalkedRoundsModel", "told", "I", false)
  | 26 => ("WalkedRoundsModel", "toldArcs", "[I", true)
  | 27 => ("WalkedRoundsModel", "toldMessages", "[J", true)
  | 28 => ("WalkedRoundsModel", "top", "I", false)
  | 29 => ("WalkedRoundsModel", "pile", "[I", true)
  | 30 => ("WalkedRoundsModel", "stage", "[I", true)
  | 31 => ("WalkedRoundsModel", "first", "[J", true)
  | 32 => ("WalkedRoundsModel", "came", "J", false)
  | 33 => ("WalkedRoundsModel", "fails", "I", false)
  | 34 => ("WalkedRoundsModel", "spent", "I", false)
  | 35 => ("WalkedRoundsModel", "atNode", "I", false)
  | 36 => ("WalkedRoundsModel", "atArc", "I", false)
  | 37 => ("WalkedRoundsModel", "folded", "J", false)
  | 38 => ("WalkedRoundsModel", "many", "I", false)
  | 39 => ("WalkedRoundsModel", "goes", "[Z", true)
  | 40 => ("WalkedRoundsModel", "messages", "[J", true)
  | 41 => ("WalkedRoundsModel", "sent", "I", false)
  | 42 => ("WalkedRoundsModel", "sentArcs", "[I", true)
  | 43 => ("WalkedRoundsModel", "sends", "Z", false)
  | 44 => ("WalkedRoundsModel", "message", "J", false)
  | 45 => ("WalkedRoundsModel", "newStates", "[J", true)
  | 46 => ("WalkedRoundsModel", "newAwake", "[Z", true)
  | 47 => ("WalkedRoundsModel", "beforeStates", "[J", true)
  | 48 => ("WalkedRoundsModel", "beforeAwake", "[Z", true)
  | 49 => ("WalkedRoundsModel", "waiting", "I", false)
  | 50 => ("WalkedRoundsModel", "lineArcs", "[I", true)
  | 51 => ("WalkedRoundsModel", "line", "[J", true)
  | _ => ("WalkedRoundsModel", "takenStates", "[J", true)
def tyX12 : Nat → FieldType := fun k => match k with
  | 0 => .int
  | 1 => .array .int
  | 2 => .array .int
  | 3 => .array .int
  | 4 => .array .int
  | 5 => .array .long
  | 6 => .int
  | 7 => .array .long
  | 8 => .array .boolean
  | 9 => .int
  | 10 => .array .int
  | 11 => .array .int
  | 12 => .array .long
  | 13 => .array .int
  | 14 => .int
  | 15 => .long
  | 16 => .int
  | 17 => .int
  | 18 => .array .int
  | 19 => .int
  | 20 => .int
  | 21 => .array .long
  | 22 => .array .boolean
  | 23 => .array .long
  | 24 => .array .int
  | 25 => .int
  | 26 => .array .int
  | 27 => .array .long
  | 28 => .int
  | 29 => .array .int
  | 30 => .array .int
  | 31 => .array .long
  | 32 => .long
  | 33 => .int
  | 34 => .int
  | 35 => .int
  | 36 => .int
  | 37 => .long
  | 38 => .int
  | 39 => .array .boolean
  | 40 => .array .long
  | 41 => .int
  | 42 => .array .int
  | 43 => .boolean
  | 44 => .long
  | 45 => .array .long
  | 46 => .array .boolean
  | 47 => .array .long
  | 48 => .array .boolean
  | 49 => .int
  | 50 => .array .int
  | 51 => .array .long
  | _ => .array .long
theorem nmX12 : ∀ a, a < 53 → ∀ b, b < 53 → a ≠ b → (TX12 a).2.1 ≠ (TX12 b).2.1 := by decide +kernel
theorem tyX12_ok : ∀ k, k < 53 → parseFieldDescriptor (TX12 k).2.2.1 = some (tyX12 k) := by decide +kernel
abbrev cX12_init : ByteArray := prog_14_method_1_code
def yX12_init : MethodName := ⟨RX12, "<init>", "()V"⟩
abbrev cX12_in : ByteArray := prog_14_method_3_code
def yX12_in : MethodName := ⟨RX12, "in", "(III)Z"⟩
abbrev cX12_isTerm : ByteArray := prog_14_method_4_code
def yX12_isTerm : MethodName := ⟨RX12, "isTerm", "(I)Z"⟩
abbrev cX12_isNode : ByteArray := prog_14_method_5_code
def yX12_isNode : MethodName := ⟨RX12, "isNode", "(I)Z"⟩
abbrev cX12_isArc : ByteArray := prog_14_method_6_code
def yX12_isArc : MethodName := ⟨RX12, "isArc", "(I)Z"⟩
abbrev cX12_term : ByteArray := prog_14_method_7_code
def yX12_term : MethodName := ⟨RX12, "term", "(IIIIJ)I"⟩
abbrev cX12_node : ByteArray := prog_14_method_8_code
def yX12_node : MethodName := ⟨RX12, "node", "()I"⟩
abbrev cX12_arc : ByteArray := prog_14_method_9_code
def yX12_arc : MethodName := ⟨RX12, "arc", "(IIJ)I"⟩
abbrev cX12_put : ByteArray := prog_14_method_10_code
def yX12_put : MethodName := ⟨RX12, "put", "(IIJ)I"⟩
abbrev cX12_wake : ByteArray := prog_14_method_11_code
def yX12_wake : MethodName := ⟨RX12, "wake", "(IZ)I"⟩
abbrev cX12_act : ByteArray := prog_14_method_12_code
def yX12_act : MethodName := ⟨RX12, "act", "(II)I"⟩
abbrev cX12_fold : ByteArray := prog_14_method_13_code
def yX12_fold : MethodName := ⟨RX12, "fold", "(I)I"⟩
abbrev cX12_push : ByteArray := prog_14_method_14_code
def yX12_push : MethodName := ⟨RX12, "push", "(I)V"⟩
abbrev cX12_asked : ByteArray := prog_14_method_15_code
def yX12_asked : MethodName := ⟨RX12, "asked", "(III)I"⟩
abbrev cX12_arcsFrom : ByteArray := prog_14_method_16_code
def yX12_arcsFrom : MethodName := ⟨RX12, "arcsFrom", "(I)I"⟩
abbrev cX12_begins : ByteArray := prog_14_method_17_code
def yX12_begins : MethodName := ⟨RX12, "begins", "(I)Z"⟩
abbrev cX12_goesOn : ByteArray := prog_14_method_18_code
def yX12_goesOn : MethodName := ⟨RX12, "goesOn", "(I)Z"⟩
abbrev cX12_joined : ByteArray := prog_14_method_19_code
def yX12_joined : MethodName := ⟨RX12, "joined", "(IJJ)J"⟩
abbrev cX12_clearFailed : ByteArray := prog_14_method_20_code
def yX12_clearFailed : MethodName := ⟨RX12, "clearFailed", "()V"⟩
abbrev cX12_note : ByteArray := prog_14_method_21_code
def yX12_note : MethodName := ⟨RX12, "note", "(IIII)V"⟩
abbrev cX12_does : ByteArray := prog_14_method_22_code
def yX12_does : MethodName := ⟨RX12, "does", "(III)Z"⟩
abbrev cX12_isFailed : ByteArray := prog_14_method_23_code
def yX12_isFailed : MethodName := ⟨RX12, "isFailed", "()Z"⟩
abbrev cX12_askArc : ByteArray := prog_14_method_24_code
def yX12_askArc : MethodName := ⟨RX12, "askArc", "(I)V"⟩
abbrev cX12_sendAlong : ByteArray := prog_14_method_25_code
def yX12_sendAlong : MethodName := ⟨RX12, "sendAlong", "(I)V"⟩
abbrev cX12_sendAll : ByteArray := prog_14_method_26_code
def yX12_sendAll : MethodName := ⟨RX12, "sendAll", "(I)V"⟩
abbrev cX12_isOver : ByteArray := prog_14_method_27_code
def yX12_isOver : MethodName := ⟨RX12, "isOver", "(JJ)Z"⟩
abbrev cX12_foldFor : ByteArray := prog_14_method_28_code
def yX12_foldFor : MethodName := ⟨RX12, "foldFor", "(I)V"⟩
abbrev cX12_isReached : ByteArray := prog_14_method_29_code
def yX12_isReached : MethodName := ⟨RX12, "isReached", "(I)Z"⟩
abbrev cX12_renew : ByteArray := prog_14_method_30_code
def yX12_renew : MethodName := ⟨RX12, "renew", "(I)V"⟩
abbrev cX12_remember : ByteArray := prog_14_method_31_code
def yX12_remember : MethodName := ⟨RX12, "remember", "()V"⟩
abbrev cX12_keep : ByteArray := prog_14_method_32_code
def yX12_keep : MethodName := ⟨RX12, "keep", "(JI)V"⟩
abbrev cX12_asBefore : ByteArray := prog_14_method_33_code
def yX12_asBefore : MethodName := ⟨RX12, "asBefore", "()V"⟩
abbrev cX12_isAnyAwake : ByteArray := prog_14_method_34_code
def yX12_isAnyAwake : MethodName := ⟨RX12, "isAnyAwake", "()Z"⟩
abbrev cX12_round : ByteArray := prog_14_method_35_code
def yX12_round : MethodName := ⟨RX12, "round", "(I)Z"⟩
abbrev cX12_sendsOn : ByteArray := prog_14_method_36_code
def yX12_sendsOn : MethodName := ⟨RX12, "sendsOn", "(I)V"⟩
abbrev cX12_takes : ByteArray := prog_14_method_37_code
def yX12_takes : MethodName := ⟨RX12, "takes", "(I)Z"⟩
abbrev cX12_walk : ByteArray := prog_14_method_38_code
def yX12_walk : MethodName := ⟨RX12, "walk", "(I)I"⟩
abbrev cX12_run : ByteArray := prog_14_method_39_code
def yX12_run : MethodName := ⟨RX12, "run", "(II)I"⟩
abbrev cX12_undo : ByteArray := prog_14_method_40_code
def yX12_undo : MethodName := ⟨RX12, "undo", "()I"⟩
abbrev cX12_failed : ByteArray := prog_14_method_41_code
def yX12_failed : MethodName := ⟨RX12, "failed", "(I)I"⟩
abbrev cX12_ask : ByteArray := prog_14_method_42_code
def yX12_ask : MethodName := ⟨RX12, "ask", "(III)J"⟩
abbrev cX12_why : ByteArray := prog_14_method_43_code
def yX12_why : MethodName := ⟨RX12, "why", "()I"⟩
abbrev cX12_state : ByteArray := prog_14_method_44_code
def yX12_state : MethodName := ⟨RX12, "state", "(II)J"⟩
abbrev cX12_whole : ByteArray := prog_14_method_45_code
def yX12_whole : MethodName := ⟨RX12, "whole", "()J"⟩
abbrev cX12_awake : ByteArray := prog_14_method_46_code
def yX12_awake : MethodName := ⟨RX12, "awake", "(I)I"⟩
abbrev cX12_along : ByteArray := prog_14_method_47_code
def yX12_along : MethodName := ⟨RX12, "along", "(I)I"⟩
abbrev cX12_message : ByteArray := prog_14_method_48_code
def yX12_message : MethodName := ⟨RX12, "message", "(I)J"⟩
abbrev cX12_count : ByteArray := prog_14_method_49_code
def yX12_count : MethodName := ⟨RX12, "count", "(I)I"⟩
def RL : String := "WalkedRoundsLaw"
abbrev cL_law : ByteArray := code
def yL_law : MethodName := ⟨RL, "law", "([I)Z"⟩
abbrev vwCl : List vw_C := [(RX0, TX0, 4), (RX1, TX1, 7), (RX2, TX2, 5), (RX3, TX3, 11), (RX4, TX4, 4), (RX5, TX5, 3), (RX6, TX6, 2), (RX7, TX7, 12), (RX8, TX8, 6), (RX9, TX9, 3), (RX10, TX10, 10), (RX11, TX11, 11), (RX12, TX12, 53)]
end
section
/-! registers: what the cells of a system hold: int fields, long fields, int (and boolean) arrays, long arrays -/
abbrev RS : Type := (Nat → Int32) × (Nat → Int64) × (Nat → Nat → Int32) × (Nat → Nat → Int64)
def rg_I (σ : RS) (k : Nat) : Int32 := σ.1 k
def rg_L (σ : RS) (k : Nat) : Int64 := σ.2.1 k
def rg_A (σ : RS) (k : Nat) : Nat → Int32 := σ.2.2.1 k
def rg_B (σ : RS) (k : Nat) : Nat → Int64 := σ.2.2.2 k
def rs_I (σ : RS) (k : Nat) (v : Int32) : RS := (va_up σ.1 k v, σ.2.1, σ.2.2.1, σ.2.2.2)
def rs_L (σ : RS) (k : Nat) (v : Int64) : RS := (σ.1, va_up σ.2.1 k v, σ.2.2.1, σ.2.2.2)
def rs_A (σ : RS) (k : Nat) (v : Nat → Int32) : RS := (σ.1, σ.2.1, va_up σ.2.2.1 k v, σ.2.2.2)
def rs_B (σ : RS) (k : Nat) (v : Nat → Int64) : RS := (σ.1, σ.2.1, σ.2.2.1, va_up σ.2.2.2 k v)
/-! the words of the functions that a method comes to -/
def kn_v {α β : Type} (a : α) (k : α → Option β) : Option β := k a
def kn_ld {α β : Type} (f : Nat → α) (n : Nat) (i : Int32) (k : α → Option β) : Option β := if i < 0 ∨ n ≤ i.toNatClampNeg then none else k (f i.toNatClampNeg)
def kn_st {β : Type} (σ : RS) (n : Nat) (i : Int32) (k : RS → Option β) : Option β := if i < 0 ∨ n ≤ i.toNatClampNeg then none else k σ
def kn_i {β : Type} (o : Option (Int32 × RS)) (k : Int32 → RS → Option β) : Option β := o.bind (fun q => k q.1 q.2)
def kn_l {β : Type} (o : Option (Int64 × RS)) (k : Int64 → RS → Option β) : Option β := o.bind (fun q => k q.1 q.2)
def kn_u {β : Type} (o : Option RS) (k : RS → Option β) : Option β := o.bind k
def kn_nz32 {β : Type} (y : Int32) (k : Option β) : Option β := if y = 0 then none else k
def kn_nz64 {β : Type} (y : Int64) (k : Option β) : Option β := if y = 0 then none else k
def kn_cp {β : Type} (n0 n1 : Nat) (sp dp n : Int32) (σ : RS) (k : RS → Option β) : Option β := if sp < 0 ∨ dp < 0 ∨ n < 0 ∨ n0 < sp.toNatClampNeg + n.toNatClampNeg ∨ n1 < dp.toNatClampNeg + n.toNatClampNeg then none else k σ
def kn_bz (f : Nat → Int32) (sp n : Nat) : Bool := (List.range n).all (fun i => fits .boolean (.int (f (sp + i))))
def kn_cz {β : Type} (f : Nat → Int32) (n0 n1 : Nat) (sp dp n : Int32) (σ : RS) (k : RS → Option β) : Option β := if kn_bz f sp.toNatClampNeg n.toNatClampNeg = true then kn_cp n0 n1 sp dp n σ k else none
theorem kn_ld_e {α β : Type} {f : Nat → α} {n : Nat} {i : Int32} {k : α → Option β} {r : β} (h : kn_ld f n i k = some r) : vp_in i n ∧ k (f i.toNatClampNeg) = some r := by
  unfold kn_ld at h
  by_cases c : i < 0 ∨ n ≤ i.toNatClampNeg
  · rw [if_pos c] at h; cases h
  · rw [if_neg c] at h; exact ⟨c, h⟩
theorem kn_st_e {β : Type} {σ : RS} {n : Nat} {i : Int32} {k : RS → Option β} {r : β} (h : kn_st σ n i k = some r) : vp_in i n ∧ k σ = some r := by
  unfold kn_st at h
  by_cases c : i < 0 ∨ n ≤ i.toNatClampNeg
  · rw [if_pos c] at h; cases h
  · rw [if_neg c] at h; exact ⟨c, h⟩
theorem kn_i_e {β : Type} {o : Option (Int32 × RS)} {k : Int32 → RS → Option β} {r : β} (h : kn_i o k = some r) : ∃ v σ, o = some (v, σ) ∧ k v σ = some r := by
  unfold kn_i at h
  cases o with
  | none => cases h
  | some q => exact ⟨q.1, q.2, rfl, h⟩
theorem kn_l_e {β : Type} {o : Option (Int64 × RS)} {k : Int64 → RS → Option β} {r : β} (h : kn_l o k = some r) : ∃ v σ, o = some (v, σ) ∧ k v σ = some r := by
  unfold kn_l at h
  cases o with
  | none => cases h
  | some q => exact ⟨q.1, q.2, rfl, h⟩
theorem kn_u_e {β : Type} {o : Option RS} {k : RS → Option β} {r : β} (h : kn_u o k = some r) : ∃ σ, o = some σ ∧ k σ = some r := by
  unfold kn_u at h
  cases o with
  | none => cases h
  | some q => exact ⟨q, rfl, h⟩
theorem kn_nz32_e {β : Type} {y : Int32} {k : Option β} {r : β} (h : kn_nz32 y k = some r) : ¬ y = 0 ∧ k = some r := by
  unfold kn_nz32 at h
  by_cases c : y = 0
  · rw [if_pos c] at h; cases h
  · rw [if_neg c] at h; exact ⟨c, h⟩
theorem kn_nz64_e {β : Type} {y : Int64} {k : Option β} {r : β} (h : kn_nz64 y k = some r) : ¬ y = 0 ∧ k = some r := by
  unfold kn_nz64 at h
  by_cases c : y = 0
  · rw [if_pos c] at h; cases h
  · rw [if_neg c] at h; exact ⟨c, h⟩
theorem kn_cp_e {β : Type} {n0 n1 : Nat} {sp dp n : Int32} {σ : RS} {k : RS → Option β} {r : β} (h : kn_cp n0 n1 sp dp n σ k = some r) : (¬ sp < 0 ∧ ¬ dp < 0 ∧ ¬ n < 0 ∧ sp.toNatClampNeg + n.toNatClampNeg ≤ n0 ∧ dp.toNatClampNeg + n.toNatClampNeg ≤ n1) ∧ k σ = some r := by
  unfold kn_cp at h
  by_cases c : sp < 0 ∨ dp < 0 ∨ n < 0 ∨ n0 < sp.toNatClampNeg + n.toNatClampNeg ∨ n1 < dp.toNatClampNeg + n.toNatClampNeg
  · rw [if_pos c] at h; cases h
  · rw [if_neg c] at h
    simp only [not_or, Nat.not_lt] at c
    exact ⟨c, h⟩
theorem kn_cz_e {β : Type} {f : Nat → Int32} {n0 n1 : Nat} {sp dp n : Int32} {σ : RS} {k : RS → Option β} {r : β} (h : kn_cz f n0 n1 sp dp n σ k = some r) : (∀ i, i < n.toNatClampNeg → fits .boolean (.int (f (sp.toNatClampNeg + i))) = true) ∧ (¬ sp < 0 ∧ ¬ dp < 0 ∧ ¬ n < 0 ∧ sp.toNatClampNeg + n.toNatClampNeg ≤ n0 ∧ dp.toNatClampNeg + n.toNatClampNeg ≤ n1) ∧ k σ = some r := by
  unfold kn_cz at h
  by_cases c : kn_bz f sp.toNatClampNeg n.toNatClampNeg = true
  · rw [if_pos c] at h
    refine ⟨fun i hi => ?_, kn_cp_e h⟩
    exact List.all_eq_true.mp c i (List.mem_range.mpr hi)
  · rw [if_neg c] at h; cases h
theorem kn_t {β : Type} {c : Prop} {d : Decidable c} {X Y : Option β} {r : β} (h : (@ite _ c d X Y) = some r) (hc : c) : X = some r := by rw [if_pos hc] at h; exact h
theorem kn_f {β : Type} {c : Prop} {d : Decidable c} {X Y : Option β} {r : β} (h : (@ite _ c d X Y) = some r) (hc : ¬ c) : Y = some r := by rw [if_neg hc] at h; exact h
/-! a world that the registers fill, at addresses ad 0 .. ad (N - 1) -/
def jw_A (N : Nat) (ad : Nat → Nat) : Nat → Prop := fun q => ∃ k, k < N ∧ q = ad k
def jw_ap (N : Nat) (ad : Nat → Nat) : Prop := ∀ i j, i < N → j < N → ad i = ad j → i = j
theorem jw_D {N : Nat} {ad : Nat → Nat} {ws : va_W} (hap : jw_ap N ad) (hw : ws.map (·.1) = (List.range N).map ad) : va_D (jw_A N ad) ws := by
  have hlen : ws.length = N := by
    have h := congrArg List.length hw
    simpa using h
  have key : ∀ (k : Nat) (q : Nat × va_E), ws[k]? = some q → k < N ∧ q.1 = ad k := by
    intro k q hk
    have hkN : k < N := by rw [← hlen]; exact (List.getElem?_eq_some_iff.mp hk).1
    refine ⟨hkN, ?_⟩
    have h1 : (ws.map (·.1))[k]? = some q.1 := by rw [List.getElem?_map, hk]; rfl
    rw [hw, List.getElem?_map, List.getElem?_range hkN] at h1
    exact (Option.some.inj h1).symm
  refine ⟨fun i j p q hi hj e => ?_, fun k q hk => ?_⟩
  · obtain ⟨a1, b1⟩ := key i p hi
    obtain ⟨a2, b2⟩ := key j q hj
    exact hap i j a1 a2 (by rw [← b1, ← b2]; exact e)
  · obtain ⟨a1, b1⟩ := key k q hk
    exact ⟨k, a1, b1⟩
def jw_nest : Cond → Bool
  | .fieldLinkNest .. => true
  | .methodLinkNest .. => true
  | _ => false
theorem jw_nest_warm {w : Cond} (h : jw_nest w = true) {s U : State} (hW : s.WarmedH U.vm) (hZ : va_Nw w s) : va_Nw w U := by
  cases w with
  | fieldLinkNest a i b n d k => exact va_Nw.warmF hW hZ
  | methodLinkNest a i x k => exact va_Nw.warmM hW hZ
  | _ => cases h
theorem jw_nest_same {w : Cond} (h : jw_nest w = true) {u U : State} (e : u.vm = U.vm) (hZ : va_Nw w u) : va_Nw w U := by
  cases w with
  | fieldLinkNest a i b n d k => exact va_Nw.same rfl e hZ
  | methodLinkNest a i x k => exact va_Nw.same rfl e hZ
  | _ => cases h
/-- the state of a system: its cells, its classes, its nest's words -/
def jw_at (D : va_G) (cl : List vw_C) (tys : List (ClassId × FieldType)) (NW : List Cond) (w : RS → va_W) (σ : RS) (U : State) : Prop := va_P D cl (w σ) U.heap ∧ va_K D cl tys U ∧ ∀ x ∈ NW, va_Nw x U
theorem jw_at_calling {D : va_G} {cl : List vw_C} {tys : List (ClassId × FieldType)} {NW : List Cond} {w : RS → va_W} {σ : RS} (hNW : ∀ x ∈ NW, jw_nest x = true) {U : State} (g : JFrame) (mk : MethodId) (a : Array Value) (h : jw_at D cl tys NW w σ U) : jw_at D cl tys NW w σ (U.calling g mk a) := by
  obtain ⟨h1, h2, h3⟩ := h
  exact ⟨h1, va_K.moved (u := U) (U := U.calling g mk a) (Vm.Alike.refl U.vm) h2, fun x hx => jw_nest_same (u := U) (U := U.calling g mk a) (hNW x hx) rfl (h3 x hx)⟩
theorem jw_at_of {D : va_G} {cl : List vw_C} {tys : List (ClassId × FieldType)} {NW : List Cond} {w : RS → va_W} {σ : RS} (hNW : ∀ x ∈ NW, jw_nest x = true) {s U : State} {H : Heap} (hP : va_P D cl (w σ) H) (hK : va_K D cl tys s) (hN : ∀ x ∈ NW, va_Nw x s) (hU : U.heap = H) (hW : s.WarmedH U.vm) : jw_at D cl tys NW w σ U :=
  ⟨by rw [hU]; exact hP, va_K.moved hW.alike hK, fun x hx => jw_nest_warm (hNW x hx) hW (hN x hx)⟩
/-- contracts: the method returns what the function came to -/
def jm_i (l : Launch) (KW NW : List Cond) (D : va_G) (cl : List vw_C) (tys : List (ClassId × FieldType)) (A : Nat → Prop) (w : RS → va_W) (y : MethodName) (b : ByteArray) (nL : Nat) (ty : FieldType) (rm : Room) (av : List Value) (σ : RS) (res : Int32 × RS) : Prop :=
  Met l y (.code y b nL (some ty) :: KW) rm (va_Pc av (jw_at D cl tys NW w σ)) (va_Qi (fun r u => (r, u) = res) (fun u t => va_P D cl (w u) t.heap) A) 0 0 A
def jm_l (l : Launch) (KW NW : List Cond) (D : va_G) (cl : List vw_C) (tys : List (ClassId × FieldType)) (A : Nat → Prop) (w : RS → va_W) (y : MethodName) (b : ByteArray) (nL : Nat) (rm : Room) (av : List Value) (σ : RS) (res : Int64 × RS) : Prop :=
  Met l y (.code y b nL (some .long) :: KW) rm (va_Pc av (jw_at D cl tys NW w σ)) (va_Ql (fun r u => (r, u) = res) (fun u t => va_P D cl (w u) t.heap) A) 0 0 A
def jm_u (l : Launch) (KW NW : List Cond) (D : va_G) (cl : List vw_C) (tys : List (ClassId × FieldType)) (A : Nat → Prop) (w : RS → va_W) (y : MethodName) (b : ByteArray) (nL : Nat) (rm : Room) (av : List Value) (σ : RS) (res : RS) : Prop :=
  Met l y (.code y b nL none :: KW) rm (va_Pc av (jw_at D cl tys NW w σ)) (va_Qv (fun u => u = res) (fun u t => va_P D cl (w u) t.heap) A) 0 0 A
/-- what a walk of a method's body stands on -/
def jx (KW NW : List Cond) (D : va_G) (cl : List vw_C) (tys : List (ClassId × FieldType)) (cc : ByteArray) (ret : Option FieldType) (nL : Nat) (own : String) (p : Program) (s : State) (m : MethodId) (args : Array Value) (meth : Method) (c : Code) : Prop :=
  p.tables.exec = Jvm.exec ∧ c.code = cc ∧ c.maxLocals = nL ∧ s.vm.findClass own = some m.cls ∧ (∀ w ∈ KW, w.before args s = true) ∧ meth.sig.returnType = ret ∧ meth.locks = false ∧ va_K D cl tys s ∧ (∀ x ∈ NW, va_Nw x s)
section JM
variable {l : Launch} {KW NW : List Cond} {D : va_G} {cl : List vw_C} {tys : List (ClassId × FieldType)} {A : Nat → Prop} {w : RS → va_W} {y : MethodName} {b : ByteArray} {nL : Nat} {rm : Room} {av : List Value} {σ : RS}
theorem jm_i_of {ty : FieldType} {res : Int32 × RS} (hy : plainName y.cls = true) (hn : (lg_sl av).length ≤ nL)
    (body : ∀ (p : Program) (e : Env) (s : State) (m : MethodId) (below : List Frame) (meth : Method) (c : Code), jx KW NW D cl tys b (some ty) nL y.cls p s m av.toArray meth c → va_P D cl (w σ) s.heap → va_S A s.heap s.heap [] → ∀ ls : Array Slot, lv_has ls nL (lv_args 0 av) →
      W p l e rm s m av.toArray below meth c s.heap [] 0 0 (MQ below (va_Qi (fun r u => (r, u) = res) (fun u t => va_P D cl (w u) t.heap) A) av.toArray s 0 0 A) (F0 m 0 ls [])) : jm_i l KW NW D cl tys A w y b nL ty rm av σ res := by
  refine Met.ofW (cc := b) (maxL := nL) (ret := some ty) hy rfl ?_
  intro p e s m args below meth c s₁ B hml hv
  obtain ⟨rfl, hP, hK, hN⟩ := hv
  have hts := atoms_spec (ws := .code y b nL (some ty) :: KW) B.pre
  have hl := lv_entry av (n := nL) hn
  rw [lg_entry_eq]
  exact body p e s m below meth c ⟨B.exec, B.bytes, hml, findClass_of_methodNamed B.named, fun w h => hts w (List.mem_cons_of_mem _ h), B.returns, B.notSynchronized, hK, hN⟩ hP va_S.rf _ hl
theorem jm_l_of {res : Int64 × RS} (hy : plainName y.cls = true) (hn : (lg_sl av).length ≤ nL)
    (body : ∀ (p : Program) (e : Env) (s : State) (m : MethodId) (below : List Frame) (meth : Method) (c : Code), jx KW NW D cl tys b (some .long) nL y.cls p s m av.toArray meth c → va_P D cl (w σ) s.heap → va_S A s.heap s.heap [] → ∀ ls : Array Slot, lv_has ls nL (lv_args 0 av) →
      W p l e rm s m av.toArray below meth c s.heap [] 0 0 (MQ below (va_Ql (fun r u => (r, u) = res) (fun u t => va_P D cl (w u) t.heap) A) av.toArray s 0 0 A) (F0 m 0 ls [])) : jm_l l KW NW D cl tys A w y b nL rm av σ res := by
  refine Met.ofW (cc := b) (maxL := nL) (ret := some .long) hy rfl ?_
  intro p e s m args below meth c s₁ B hml hv
  obtain ⟨rfl, hP, hK, hN⟩ := hv
  have hts := atoms_spec (ws := .code y b nL (some .long) :: KW) B.pre
  have hl := lv_entry av (n := nL) hn
  rw [lg_entry_eq]
  exact body p e s m below meth c ⟨B.exec, B.bytes, hml, findClass_of_methodNamed B.named, fun w h => hts w (List.mem_cons_of_mem _ h), B.returns, B.notSynchronized, hK, hN⟩ hP va_S.rf _ hl
theorem jm_u_of {res : RS} (hy : plainName y.cls = true) (hn : (lg_sl av).length ≤ nL)
    (body : ∀ (p : Program) (e : Env) (s : State) (m : MethodId) (below : List Frame) (meth : Method) (c : Code), jx KW NW D cl tys b none nL y.cls p s m av.toArray meth c → va_P D cl (w σ) s.heap → va_S A s.heap s.heap [] → ∀ ls : Array Slot, lv_has ls nL (lv_args 0 av) →
      W p l e rm s m av.toArray below meth c s.heap [] 0 0 (MQ below (va_Qv (fun u => u = res) (fun u t => va_P D cl (w u) t.heap) A) av.toArray s 0 0 A) (F0 m 0 ls [])) : jm_u l KW NW D cl tys A w y b nL rm av σ res := by
  refine Met.ofW (cc := b) (maxL := nL) (ret := none) hy rfl ?_
  intro p e s m args below meth c s₁ B hml hv
  obtain ⟨rfl, hP, hK, hN⟩ := hv
  have hts := atoms_spec (ws := .code y b nL none :: KW) B.pre
  have hl := lv_entry av (n := nL) hn
  rw [lg_entry_eq]
  exact body p e s m below meth c ⟨B.exec, B.bytes, hml, findClass_of_methodNamed B.named, fun w h => hts w (List.mem_cons_of_mem _ h), B.returns, B.notSynchronized, hK, hN⟩ hP va_S.rf _ hl
end JM
theorem kn_v_e {α β : Type} {a : α} {F : α → Option β} {r : β} (h : kn_v a F = some r) : ∃ v, a = v ∧ F v = some r := ⟨a, rfl, h⟩
def kn_fix {α : Type} (z : α) (F : α → α) : Nat → α
  | 0 => z
  | n + 1 => F (kn_fix z F n)
theorem kn_fix_ind {α : Type} {G : α → Prop} {z : α} {F : α → α} (h0 : G z) (hs : ∀ k, G k → G (F k)) : ∀ n, G (kn_fix z F n)
  | 0 => h0
  | n + 1 => hs _ (kn_fix_ind h0 hs n)
/-- how often a loop goes round at the most (no loop of these two programs goes round more than 200 times) -/
def FU : Nat := 300
section JR
variable {p : Program} {l : Launch} {e : Env} {R : Room} {s : State} {m : MethodId} {args : Array Value} {below : List Frame} {meth : Method} {c : Code} {H : Heap} {locs : List Loc} {cells slots : Nat} {Q : State → Prop}
variable {cc : ByteArray} {pc : Nat} {ls : Array Slot} {rest : List Value} {β : Type} {r : β} {X Y : Option β}

theorem jn_i {x : Int32} {F : Int32 → Option β} (hf : kn_v x F = some r) (kk : ∀ v : Int32, F v = some r → W p l e R s m args below meth c H locs cells slots Q (F0 m pc ls (.int v :: rest))) : W p l e R s m args below meth c H locs cells slots Q (F0 m pc ls (.int x :: rest)) := kk x hf
theorem jn_l {x : Int64} {F : Int64 → Option β} (hf : kn_v x F = some r) (kk : ∀ v : Int64, F v = some r → W p l e R s m args below meth c H locs cells slots Q (F0 m pc ls (.long v :: rest))) : W p l e R s m args below meth c H locs cells slots Q (F0 m pc ls (.long x :: rest)) := kk x hf
theorem jb_eq (hx : p.tables.exec = Jvm.exec) (hb : c.code = cc) {x : Int32} {off : Int} {tgt : Nat} (hf : (if x = 0 then X else Y) = some r) (hdg : decode cc pc = .ok (.ifCond .eq off, 3)) (ht : (pc : Int) + off = (tgt : Int)) (kt : X = some r → W p l e R s m args below meth c H locs cells slots Q (F0 m tgt ls rest)) (kf : Y = some r → W p l e R s m args below meth c H locs cells slots Q (F0 m (pc + 3) ls rest)) : W p l e R s m args below meth c H locs cells slots Q (F0 m pc ls (.int x :: rest)) := lv_if_eq hx hb hdg ht (fun h => kt (kn_t hf h)) (fun h => kf (kn_f hf h))
theorem jb_ne (hx : p.tables.exec = Jvm.exec) (hb : c.code = cc) {x : Int32} {off : Int} {tgt : Nat} (hf : (if x = 0 then X else Y) = some r) (hdg : decode cc pc = .ok (.ifCond .ne off, 3)) (ht : (pc : Int) + off = (tgt : Int)) (kt : Y = some r → W p l e R s m args below meth c H locs cells slots Q (F0 m tgt ls rest)) (kf : X = some r → W p l e R s m args below meth c H locs cells slots Q (F0 m (pc + 3) ls rest)) : W p l e R s m args below meth c H locs cells slots Q (F0 m pc ls (.int x :: rest)) := lv_if_ne hx hb hdg ht (fun h => kt (kn_f hf h)) (fun h => kf (kn_t hf h))
theorem jb_lt (hx : p.tables.exec = Jvm.exec) (hb : c.code = cc) {x : Int32} {off : Int} {tgt : Nat} (hf : (if x < 0 then X else Y) = some r) (hdg : decode cc pc = .ok (.ifCond .lt off, 3)) (ht : (pc : Int) + off = (tgt : Int)) (kt : X = some r → W p l e R s m args below meth c H locs cells slots Q (F0 m tgt ls rest)) (kf : Y = some r → W p l e R s m args below meth c H locs cells slots Q (F0 m (pc + 3) ls rest)) : W p l e R s m args below meth c H locs cells slots Q (F0 m pc ls (.int x :: rest)) := lv_if_lt hx hb hdg ht (fun h => kt (kn_t hf h)) (fun h => kf (kn_f hf h))
theorem jb_ge (hx : p.tables.exec = Jvm.exec) (hb : c.code = cc) {x : Int32} {off : Int} {tgt : Nat} (hf : (if 0 ≤ x then X else Y) = some r) (hdg : decode cc pc = .ok (.ifCond .ge off, 3)) (ht : (pc : Int) + off = (tgt : Int)) (kt : X = some r → W p l e R s m args below meth c H locs cells slots Q (F0 m tgt ls rest)) (kf : Y = some r → W p l e R s m args below meth c H locs cells slots Q (F0 m (pc + 3) ls rest)) : W p l e R s m args below meth c H locs cells slots Q (F0 m pc ls (.int x :: rest)) := lv_if_ge hx hb hdg ht (fun h => kt (kn_t hf h)) (fun h => kf (kn_f hf h))
theorem jb_gt (hx : p.tables.exec = Jvm.exec) (hb : c.code = cc) {x : Int32} {off : Int} {tgt : Nat} (hf : (if 0 < x then X else Y) = some r) (hdg : decode cc pc = .ok (.ifCond .gt off, 3)) (ht : (pc : Int) + off = (tgt : Int)) (kt : X = some r → W p l e R s m args below meth c H locs cells slots Q (F0 m tgt ls rest)) (kf : Y = some r → W p l e R s m args below meth c H locs cells slots Q (F0 m (pc + 3) ls rest)) : W p l e R s m args below meth c H locs cells slots Q (F0 m pc ls (.int x :: rest)) := lv_if_gt hx hb hdg ht (fun h => kt (kn_t hf h)) (fun h => kf (kn_f hf h))
theorem jb_le (hx : p.tables.exec = Jvm.exec) (hb : c.code = cc) {x : Int32} {off : Int} {tgt : Nat} (hf : (if x ≤ 0 then X else Y) = some r) (hdg : decode cc pc = .ok (.ifCond .le off, 3)) (ht : (pc : Int) + off = (tgt : Int)) (kt : X = some r → W p l e R s m args below meth c H locs cells slots Q (F0 m tgt ls rest)) (kf : Y = some r → W p l e R s m args below meth c H locs cells slots Q (F0 m (pc + 3) ls rest)) : W p l e R s m args below meth c H locs cells slots Q (F0 m pc ls (.int x :: rest)) := lv_if_le hx hb hdg ht (fun h => kt (kn_t hf h)) (fun h => kf (kn_f hf h))
theorem jc_eq (hx : p.tables.exec = Jvm.exec) (hb : c.code = cc) {x y : Int32} {off : Int} {tgt : Nat} (hf : (if x = y then X else Y) = some r) (hdg : decode cc pc = .ok (.if_icmp .eq off, 3)) (ht : (pc : Int) + off = (tgt : Int)) (kt : X = some r → W p l e R s m args below meth c H locs cells slots Q (F0 m tgt ls rest)) (kf : Y = some r → W p l e R s m args below meth c H locs cells slots Q (F0 m (pc + 3) ls rest)) : W p l e R s m args below meth c H locs cells slots Q (F0 m pc ls (.int y :: .int x :: rest)) := lv_icmp_eq hx hb hdg ht (fun h => kt (kn_t hf h)) (fun h => kf (kn_f hf h))
theorem jc_ne (hx : p.tables.exec = Jvm.exec) (hb : c.code = cc) {x y : Int32} {off : Int} {tgt : Nat} (hf : (if x = y then X else Y) = some r) (hdg : decode cc pc = .ok (.if_icmp .ne off, 3)) (ht : (pc : Int) + off = (tgt : Int)) (kt : Y = some r → W p l e R s m args below meth c H locs cells slots Q (F0 m tgt ls rest)) (kf : X = some r → W p l e R s m args below meth c H locs cells slots Q (F0 m (pc + 3) ls rest)) : W p l e R s m args below meth c H locs cells slots Q (F0 m pc ls (.int y :: .int x :: rest)) := lv_icmp_ne hx hb hdg ht (fun h => kt (kn_f hf h)) (fun h => kf (kn_t hf h))
theorem jc_lt (hx : p.tables.exec = Jvm.exec) (hb : c.code = cc) {x y : Int32} {off : Int} {tgt : Nat} (hf : (if x < y then X else Y) = some r) (hdg : decode cc pc = .ok (.if_icmp .lt off, 3)) (ht : (pc : Int) + off = (tgt : Int)) (kt : X = some r → W p l e R s m args below meth c H locs cells slots Q (F0 m tgt ls rest)) (kf : Y = some r → W p l e R s m args below meth c H locs cells slots Q (F0 m (pc + 3) ls rest)) : W p l e R s m args below meth c H locs cells slots Q (F0 m pc ls (.int y :: .int x :: rest)) := lv_icmp_lt hx hb hdg ht (fun h => kt (kn_t hf h)) (fun h => kf (kn_f hf h))
theorem jc_ge (hx : p.tables.exec = Jvm.exec) (hb : c.code = cc) {x y : Int32} {off : Int} {tgt : Nat} (hf : (if y ≤ x then X else Y) = some r) (hdg : decode cc pc = .ok (.if_icmp .ge off, 3)) (ht : (pc : Int) + off = (tgt : Int)) (kt : X = some r → W p l e R s m args below meth c H locs cells slots Q (F0 m tgt ls rest)) (kf : Y = some r → W p l e R s m args below meth c H locs cells slots Q (F0 m (pc + 3) ls rest)) : W p l e R s m args below meth c H locs cells slots Q (F0 m pc ls (.int y :: .int x :: rest)) := lv_icmp_ge hx hb hdg ht (fun h => kt (kn_t hf h)) (fun h => kf (kn_f hf h))
theorem jc_gt (hx : p.tables.exec = Jvm.exec) (hb : c.code = cc) {x y : Int32} {off : Int} {tgt : Nat} (hf : (if y < x then X else Y) = some r) (hdg : decode cc pc = .ok (.if_icmp .gt off, 3)) (ht : (pc : Int) + off = (tgt : Int)) (kt : X = some r → W p l e R s m args below meth c H locs cells slots Q (F0 m tgt ls rest)) (kf : Y = some r → W p l e R s m args below meth c H locs cells slots Q (F0 m (pc + 3) ls rest)) : W p l e R s m args below meth c H locs cells slots Q (F0 m pc ls (.int y :: .int x :: rest)) := lv_icmp_gt hx hb hdg ht (fun h => kt (kn_t hf h)) (fun h => kf (kn_f hf h))
theorem jc_le (hx : p.tables.exec = Jvm.exec) (hb : c.code = cc) {x y : Int32} {off : Int} {tgt : Nat} (hf : (if x ≤ y then X else Y) = some r) (hdg : decode cc pc = .ok (.if_icmp .le off, 3)) (ht : (pc : Int) + off = (tgt : Int)) (kt : X = some r → W p l e R s m args below meth c H locs cells slots Q (F0 m tgt ls rest)) (kf : Y = some r → W p l e R s m args below meth c H locs cells slots Q (F0 m (pc + 3) ls rest)) : W p l e R s m args below meth c H locs cells slots Q (F0 m pc ls (.int y :: .int x :: rest)) := lv_icmp_le hx hb hdg ht (fun h => kt (kn_t hf h)) (fun h => kf (kn_f hf h))
theorem jl_eq (hx : p.tables.exec = Jvm.exec) (hb : c.code = cc) {x y : Int64} {off : Int} {tgt : Nat} (hf : (if x = y then X else Y) = some r) (hd0 : decode cc pc = .ok (.lcmp, 1)) (hdg : decode cc (pc + 1) = .ok (.ifCond .eq off, 3)) (ht : ((pc + 1 : Nat) : Int) + off = (tgt : Int)) (kt : X = some r → W p l e R s m args below meth c H locs cells slots Q (F0 m tgt ls rest)) (kf : Y = some r → W p l e R s m args below meth c H locs cells slots Q (F0 m (pc + 1 + 3) ls rest)) : W p l e R s m args below meth c H locs cells slots Q (F0 m pc ls (.long y :: .long x :: rest)) := W.lcmp hx hb hd0 (lv_if_eq hx hb hdg ht (fun h => kt (kn_t hf ((lg_cmp_eq x y).mp h))) (fun h => kf (kn_f hf (fun q => h ((lg_cmp_eq x y).mpr q)))))
theorem jl_ne (hx : p.tables.exec = Jvm.exec) (hb : c.code = cc) {x y : Int64} {off : Int} {tgt : Nat} (hf : (if x = y then X else Y) = some r) (hd0 : decode cc pc = .ok (.lcmp, 1)) (hdg : decode cc (pc + 1) = .ok (.ifCond .ne off, 3)) (ht : ((pc + 1 : Nat) : Int) + off = (tgt : Int)) (kt : Y = some r → W p l e R s m args below meth c H locs cells slots Q (F0 m tgt ls rest)) (kf : X = some r → W p l e R s m args below meth c H locs cells slots Q (F0 m (pc + 1 + 3) ls rest)) : W p l e R s m args below meth c H locs cells slots Q (F0 m pc ls (.long y :: .long x :: rest)) := W.lcmp hx hb hd0 (lv_if_ne hx hb hdg ht (fun h => kt (kn_f hf (fun q => h ((lg_cmp_eq x y).mpr q)))) (fun h => kf (kn_t hf ((lg_cmp_eq x y).mp h))))
theorem jl_lt (hx : p.tables.exec = Jvm.exec) (hb : c.code = cc) {x y : Int64} {off : Int} {tgt : Nat} (hf : (if x < y then X else Y) = some r) (hd0 : decode cc pc = .ok (.lcmp, 1)) (hdg : decode cc (pc + 1) = .ok (.ifCond .lt off, 3)) (ht : ((pc + 1 : Nat) : Int) + off = (tgt : Int)) (kt : X = some r → W p l e R s m args below meth c H locs cells slots Q (F0 m tgt ls rest)) (kf : Y = some r → W p l e R s m args below meth c H locs cells slots Q (F0 m (pc + 1 + 3) ls rest)) : W p l e R s m args below meth c H locs cells slots Q (F0 m pc ls (.long y :: .long x :: rest)) := W.lcmp hx hb hd0 (lv_if_lt hx hb hdg ht (fun h => kt (kn_t hf ((lg_cmp_lt x y).mp h))) (fun h => kf (kn_f hf (fun q => h ((lg_cmp_lt x y).mpr q)))))
theorem jl_ge (hx : p.tables.exec = Jvm.exec) (hb : c.code = cc) {x y : Int64} {off : Int} {tgt : Nat} (hf : (if y ≤ x then X else Y) = some r) (hd0 : decode cc pc = .ok (.lcmp, 1)) (hdg : decode cc (pc + 1) = .ok (.ifCond .ge off, 3)) (ht : ((pc + 1 : Nat) : Int) + off = (tgt : Int)) (kt : X = some r → W p l e R s m args below meth c H locs cells slots Q (F0 m tgt ls rest)) (kf : Y = some r → W p l e R s m args below meth c H locs cells slots Q (F0 m (pc + 1 + 3) ls rest)) : W p l e R s m args below meth c H locs cells slots Q (F0 m pc ls (.long y :: .long x :: rest)) := W.lcmp hx hb hd0 (lv_if_ge hx hb hdg ht (fun h => kt (kn_t hf ((lg_cmp_ge x y).mp h))) (fun h => kf (kn_f hf (fun q => h ((lg_cmp_ge x y).mpr q)))))
theorem jl_gt (hx : p.tables.exec = Jvm.exec) (hb : c.code = cc) {x y : Int64} {off : Int} {tgt : Nat} (hf : (if y < x then X else Y) = some r) (hd0 : decode cc pc = .ok (.lcmp, 1)) (hdg : decode cc (pc + 1) = .ok (.ifCond .gt off, 3)) (ht : ((pc + 1 : Nat) : Int) + off = (tgt : Int)) (kt : X = some r → W p l e R s m args below meth c H locs cells slots Q (F0 m tgt ls rest)) (kf : Y = some r → W p l e R s m args below meth c H locs cells slots Q (F0 m (pc + 1 + 3) ls rest)) : W p l e R s m args below meth c H locs cells slots Q (F0 m pc ls (.long y :: .long x :: rest)) := W.lcmp hx hb hd0 (lv_if_gt hx hb hdg ht (fun h => kt (kn_t hf ((lg_cmp_gt x y).mp h))) (fun h => kf (kn_f hf (fun q => h ((lg_cmp_gt x y).mpr q)))))
theorem jl_le (hx : p.tables.exec = Jvm.exec) (hb : c.code = cc) {x y : Int64} {off : Int} {tgt : Nat} (hf : (if x ≤ y then X else Y) = some r) (hd0 : decode cc pc = .ok (.lcmp, 1)) (hdg : decode cc (pc + 1) = .ok (.ifCond .le off, 3)) (ht : ((pc + 1 : Nat) : Int) + off = (tgt : Int)) (kt : X = some r → W p l e R s m args below meth c H locs cells slots Q (F0 m tgt ls rest)) (kf : Y = some r → W p l e R s m args below meth c H locs cells slots Q (F0 m (pc + 1 + 3) ls rest)) : W p l e R s m args below meth c H locs cells slots Q (F0 m pc ls (.long y :: .long x :: rest)) := W.lcmp hx hb hd0 (lv_if_le hx hb hdg ht (fun h => kt (kn_t hf ((lg_cmp_le x y).mp h))) (fun h => kf (kn_f hf (fun q => h ((lg_cmp_le x y).mpr q)))))
theorem jd_idiv (hx : p.tables.exec = Jvm.exec) (hb : c.code = cc) {x y : Int32} (hf : kn_nz32 y X = some r) (hdg : decode cc pc = .ok (.idiv, 1)) (kk : X = some r → W p l e R s m args below meth c H locs cells slots Q (F0 m (pc + 1) ls (.int (x / y) :: rest))) : W p l e R s m args below meth c H locs cells slots Q (F0 m pc ls (.int y :: .int x :: rest)) := lv_idiv hx hb hdg (kn_nz32_e hf).1 (kk (kn_nz32_e hf).2)
theorem jd_irem (hx : p.tables.exec = Jvm.exec) (hb : c.code = cc) {x y : Int32} (hf : kn_nz32 y X = some r) (hdg : decode cc pc = .ok (.irem, 1)) (kk : X = some r → W p l e R s m args below meth c H locs cells slots Q (F0 m (pc + 1) ls (.int (x - x / y * y) :: rest))) : W p l e R s m args below meth c H locs cells slots Q (F0 m pc ls (.int y :: .int x :: rest)) := lv_irem hx hb hdg (kn_nz32_e hf).1 (kk (kn_nz32_e hf).2)
theorem jd_ldiv (hx : p.tables.exec = Jvm.exec) (hb : c.code = cc) {x y : Int64} (hf : kn_nz64 y X = some r) (hdg : decode cc pc = .ok (.ldiv, 1)) (kk : X = some r → W p l e R s m args below meth c H locs cells slots Q (F0 m (pc + 1) ls (.long (x / y) :: rest))) : W p l e R s m args below meth c H locs cells slots Q (F0 m pc ls (.long y :: .long x :: rest)) := lv_ldiv hx hb hdg (kn_nz64_e hf).1 (kk (kn_nz64_e hf).2)
theorem jd_lrem (hx : p.tables.exec = Jvm.exec) (hb : c.code = cc) {x y : Int64} (hf : kn_nz64 y X = some r) (hdg : decode cc pc = .ok (.lrem, 1)) (kk : X = some r → W p l e R s m args below meth c H locs cells slots Q (F0 m (pc + 1) ls (.long (x - x / y * y) :: rest))) : W p l e R s m args below meth c H locs cells slots Q (F0 m pc ls (.long y :: .long x :: rest)) := lv_lrem hx hb hdg (kn_nz64_e hf).1 (kk (kn_nz64_e hf).2)
end JR
section JA
variable {p : Program} {l : Launch} {e : Env} {R : Room} {s : State} {m : MethodId} {args : Array Value} {below : List Frame} {meth : Method} {c : Code} {H H0 : Heap} {locs : List Loc} {cells slots : Nat} {Q : State → Prop}
variable {cc : ByteArray} {pc : Nat} {ls : Array Slot} {rest : List Value} {β : Type} {r : β} {D : va_G} {cl : List vw_C} {tys : List (ClassId × FieldType)} {A : Nat → Prop} {w : RS → va_W} {σ σ1 : RS} {a : Nat}

theorem ja_ild (hx : p.tables.exec = Jvm.exec) (hb : c.code = cc) (hK : va_K D cl tys s) (hP : va_P D cl (w σ) H) (q0 t0 : Nat) {cA : ClassId} {n : Nat} {f : Nat → Int32} (ha : (w σ)[q0]? = some (a, .inl (cA, n, .inl f))) (ht : tys[t0]? = some (cA, .int)) {i : Int32} {F : Int32 → Option β} (hf : kn_ld f n i F = some r) (hdg : decode cc pc = .ok (.iaload, 1)) (kk : ∀ v : Int32, F v = some r → W p l e R s m args below meth c H locs cells slots Q (F0 m (pc + 1) ls (.int v :: rest))) : W p l e R s m args below meth c H locs cells slots Q (F0 m pc ls (.int i :: .ref a :: rest)) := va_iald hx hb hK hP q0 t0 ha ht (kn_ld_e hf).1 hdg (kk _ (kn_ld_e hf).2)
theorem ja_zld (hx : p.tables.exec = Jvm.exec) (hb : c.code = cc) (hK : va_K D cl tys s) (hP : va_P D cl (w σ) H) (q0 t0 : Nat) {cA : ClassId} {n : Nat} {f : Nat → Int32} (ha : (w σ)[q0]? = some (a, .inl (cA, n, .inl f))) (ht : tys[t0]? = some (cA, .boolean)) {i : Int32} {F : Int32 → Option β} (hf : kn_ld f n i F = some r) (hdg : decode cc pc = .ok (.baload, 1)) (kk : ∀ v : Int32, F v = some r → W p l e R s m args below meth c H locs cells slots Q (F0 m (pc + 1) ls (.int v :: rest))) : W p l e R s m args below meth c H locs cells slots Q (F0 m pc ls (.int i :: .ref a :: rest)) := va_zald hx hb hK hP q0 t0 ha ht (kn_ld_e hf).1 hdg (kk _ (kn_ld_e hf).2)
theorem ja_lld (hx : p.tables.exec = Jvm.exec) (hb : c.code = cc) (hK : va_K D cl tys s) (hP : va_P D cl (w σ) H) (q0 t0 : Nat) {cA : ClassId} {n : Nat} {f : Nat → Int64} (ha : (w σ)[q0]? = some (a, .inl (cA, n, .inr (.inl f)))) (ht : tys[t0]? = some (cA, .long)) {i : Int32} {F : Int64 → Option β} (hf : kn_ld f n i F = some r) (hdg : decode cc pc = .ok (.laload, 1)) (kk : ∀ v : Int64, F v = some r → W p l e R s m args below meth c H locs cells slots Q (F0 m (pc + 1) ls (.long v :: rest))) : W p l e R s m args below meth c H locs cells slots Q (F0 m pc ls (.int i :: .ref a :: rest)) := va_lald hx hb hK hP q0 t0 ha ht (kn_ld_e hf).1 hdg (kk _ (kn_ld_e hf).2)
theorem ja_ist (hx : p.tables.exec = Jvm.exec) (hb : c.code = cc) (hK : va_K D cl tys s) (hD : va_D A (w σ)) (hP : va_P D cl (w σ) H) (hS : va_S A H0 H locs) (q0 t0 : Nat) {cA : ClassId} {n : Nat} {f : Nat → Int32} (ha : (w σ)[q0]? = some (a, .inl (cA, n, .inl f))) (ht : tys[t0]? = some (cA, .int)) {i : Int32} {x : Int32} (hw : (w σ).set q0 (a, .inl (cA, n, .inl (upd f i.toNatClampNeg x))) = w σ1) {F : RS → Option β} (hf : kn_st σ1 n i F = some r) (hdg : decode cc pc = .ok (.iastore, 1)) (kk : ∀ (σ2 : RS) (H1 : Heap) (locs1 : List Loc), va_P D cl (w σ2) H1 → va_S A H0 H1 locs1 → F σ2 = some r → W p l e R s m args below meth c H1 locs1 cells slots Q (F0 m (pc + 1) ls rest)) : W p l e R s m args below meth c H locs cells slots Q (F0 m pc ls (.int x :: .int i :: .ref a :: rest)) := va_iast hx hb hK hP hD hS q0 t0 ha ht (kn_st_e hf).1 hdg (fun H1 locs1 h1 _ h3 => kk σ1 H1 locs1 (hw ▸ h1) h3 (kn_st_e hf).2)
theorem ja_lst (hx : p.tables.exec = Jvm.exec) (hb : c.code = cc) (hK : va_K D cl tys s) (hD : va_D A (w σ)) (hP : va_P D cl (w σ) H) (hS : va_S A H0 H locs) (q0 t0 : Nat) {cA : ClassId} {n : Nat} {f : Nat → Int64} (ha : (w σ)[q0]? = some (a, .inl (cA, n, .inr (.inl f)))) (ht : tys[t0]? = some (cA, .long)) {i : Int32} {x : Int64} (hw : (w σ).set q0 (a, .inl (cA, n, .inr (.inl (vp_updL f i.toNatClampNeg x)))) = w σ1) {F : RS → Option β} (hf : kn_st σ1 n i F = some r) (hdg : decode cc pc = .ok (.lastore, 1)) (kk : ∀ (σ2 : RS) (H1 : Heap) (locs1 : List Loc), va_P D cl (w σ2) H1 → va_S A H0 H1 locs1 → F σ2 = some r → W p l e R s m args below meth c H1 locs1 cells slots Q (F0 m (pc + 1) ls rest)) : W p l e R s m args below meth c H locs cells slots Q (F0 m pc ls (.long x :: .int i :: .ref a :: rest)) := va_last hx hb hK hP hD hS q0 t0 ha ht (kn_st_e hf).1 hdg (fun H1 locs1 h1 _ h3 => kk σ1 H1 locs1 (hw ▸ h1) h3 (kn_st_e hf).2)
theorem ja_zst (hx : p.tables.exec = Jvm.exec) (hb : c.code = cc) (hK : va_K D cl tys s) (hD : va_D A (w σ)) (hP : va_P D cl (w σ) H) (hS : va_S A H0 H locs) (q0 t0 : Nat) {cA : ClassId} {n : Nat} {f : Nat → Int32} (ha : (w σ)[q0]? = some (a, .inl (cA, n, .inl f))) (ht : tys[t0]? = some (cA, .boolean)) {i : Int32} {x x1 : Int32} (hx1 : vp_nar .boolean x = x1) (hw : (w σ).set q0 (a, .inl (cA, n, .inl (upd f i.toNatClampNeg x1))) = w σ1) {F : RS → Option β} (hf : kn_st σ1 n i F = some r) (hdg : decode cc pc = .ok (.bastore, 1)) (kk : ∀ (σ2 : RS) (H1 : Heap) (locs1 : List Loc), va_P D cl (w σ2) H1 → va_S A H0 H1 locs1 → F σ2 = some r → W p l e R s m args below meth c H1 locs1 cells slots Q (F0 m (pc + 1) ls rest)) : W p l e R s m args below meth c H locs cells slots Q (F0 m pc ls (.int x :: .int i :: .ref a :: rest)) := by
  subst hx1
  exact va_zast hx hb hK hP hD hS q0 t0 ha ht (kn_st_e hf).1 hdg (fun H1 locs1 h1 _ h3 => kk σ1 H1 locs1 (hw ▸ h1) h3 (kn_st_e hf).2)
theorem ja_cpl (hx : p.tables.exec = Jvm.exec) (hb : c.code = cc) (hml : c.maxLocals = ls.size) {own : String} {index : Nat} (hown : s.vm.findClass own = some m.cls) (hlink : (Cond.methodLink own index arraycopyName).before args s = true) (hnat : (Cond.native arraycopyName).before args s = true) (hstat : (Cond.static arraycopyName).before args s = true) (hini : (Cond.initialized "java/lang/System").before args s = true) (hK : va_K D cl tys s) (hD : va_D A (w σ)) (hP : va_P D cl (w σ) H) (hS : va_S A H0 H locs) (q0 q1 t0 : Nat) {a0 : Nat} {c0 : ClassId} {n0 n1 : Nat} {f g : Nat → Int64} (ha0 : (w σ)[q0]? = some (a0, .inl (c0, n0, .inr (.inl f)))) (ha1 : (w σ)[q1]? = some (a, .inl (c0, n1, .inr (.inl g)))) (ht0 : tys[t0]? = some (c0, .long)) {sp dp n : Int32} (hw : (w σ).set q1 (a, .inl (c0, n1, .inr (.inl (va_cpy f g sp.toNatClampNeg dp.toNatClampNeg n.toNatClampNeg)))) = w σ1) {F : RS → Option β} (hf : kn_cp n0 n1 sp dp n σ1 F = some r) (hframes : 1 ≤ R.frames) (hlocals : (rest.map fun v => v.category).sum + (nativeFrameWords "java/lang/System" "arraycopy" 5 + 11) ≤ R.locals) (hdg : decode cc pc = .ok (.invokestatic index, 3)) (kk : ∀ (σ2 : RS) (H1 : Heap) (locs1 : List Loc), va_P D cl (w σ2) H1 → va_S A H0 H1 locs1 → F σ2 = some r → W p l e R s m args below meth c H1 locs1 cells slots Q (F0 m (pc + 3) ls rest)) : W p l e R s m args below meth c H locs cells slots Q (F0 m pc ls (.int n :: .int dp :: .ref a :: .int sp :: .ref a0 :: rest)) := by
  obtain ⟨⟨h1, h2, h3, h4, h5⟩, h6⟩ := kn_cp_e hf
  exact va_copyl hx hb hml hown hlink hnat hstat hini hK hP hD hS q0 q1 t0 t0 ha0 ha1 ht0 ht0 rfl h1 h2 h3 h4 h5 (fun _ _ => rfl) hframes hlocals hdg (fun H1 locs1 g1 _ g3 => kk σ1 H1 locs1 (hw ▸ g1) g3 h6)
theorem ja_cpz (hx : p.tables.exec = Jvm.exec) (hb : c.code = cc) (hml : c.maxLocals = ls.size) {own : String} {index : Nat} (hown : s.vm.findClass own = some m.cls) (hlink : (Cond.methodLink own index arraycopyName).before args s = true) (hnat : (Cond.native arraycopyName).before args s = true) (hstat : (Cond.static arraycopyName).before args s = true) (hini : (Cond.initialized "java/lang/System").before args s = true) (hK : va_K D cl tys s) (hD : va_D A (w σ)) (hP : va_P D cl (w σ) H) (hS : va_S A H0 H locs) (q0 q1 t0 : Nat) {a0 : Nat} {c0 : ClassId} {n0 n1 : Nat} {f g : Nat → Int32} (ha0 : (w σ)[q0]? = some (a0, .inl (c0, n0, .inl f))) (ha1 : (w σ)[q1]? = some (a, .inl (c0, n1, .inl g))) (ht0 : tys[t0]? = some (c0, .boolean)) {sp dp n : Int32} (hw : (w σ).set q1 (a, .inl (c0, n1, .inl (va_cpy f g sp.toNatClampNeg dp.toNatClampNeg n.toNatClampNeg))) = w σ1) {F : RS → Option β} (hf : kn_cz f n0 n1 sp dp n σ1 F = some r) (hframes : 1 ≤ R.frames) (hlocals : (rest.map fun v => v.category).sum + (nativeFrameWords "java/lang/System" "arraycopy" 5 + 11) ≤ R.locals) (hdg : decode cc pc = .ok (.invokestatic index, 3)) (kk : ∀ (σ2 : RS) (H1 : Heap) (locs1 : List Loc), va_P D cl (w σ2) H1 → va_S A H0 H1 locs1 → F σ2 = some r → W p l e R s m args below meth c H1 locs1 cells slots Q (F0 m (pc + 3) ls rest)) : W p l e R s m args below meth c H locs cells slots Q (F0 m pc ls (.int n :: .int dp :: .ref a :: .int sp :: .ref a0 :: rest)) := by
  obtain ⟨h0, ⟨h1, h2, h3, h4, h5⟩, h6⟩ := kn_cz_e hf
  exact va_copyi hx hb hml hown hlink hnat hstat hini hK hP hD hS q0 q1 t0 t0 ha0 ha1 ht0 ht0 rfl h1 h2 h3 h4 h5 h0 hframes hlocals hdg (fun H1 locs1 g1 _ g3 => kk σ1 H1 locs1 (hw ▸ g1) g3 h6)
theorem jr_i (hx : p.tables.exec = Jvm.exec) (hb : c.code = cc) {ty : FieldType} (hr : meth.sig.returnType = some ty) (hlocks : meth.locks = false) {v : Int32} {res : Int32 × RS} (hf : some (v, σ) = some res) (hn : narrow ty (.int v) = .int v) (hP : va_P D cl (w σ) H) (hS : va_S A s.heap H locs) (hdg : decode cc pc = .ok (.ireturn, 1)) : W p l e R s m args below meth c H locs 0 0 (MQ below (va_Qi (fun r u => (r, u) = res) (fun u t => va_P D cl (w u) t.heap) A) args s 0 0 A) (F0 m pc ls [.int v]) := by
  cases hf
  exact W.zret hx hb hr hn (fun t ht _ => ⟨⟨v, σ, rfl, rfl, by subst ht; exact hP⟩, hS.F ht⟩) hS.2.2 hdg hlocks
theorem jr_l (hx : p.tables.exec = Jvm.exec) (hb : c.code = cc) (hr : meth.sig.returnType = some .long) (hlocks : meth.locks = false) {v : Int64} {res : Int64 × RS} (hf : some (v, σ) = some res) (hP : va_P D cl (w σ) H) (hS : va_S A s.heap H locs) (hdg : decode cc pc = .ok (.lreturn, 1)) : W p l e R s m args below meth c H locs 0 0 (MQ below (va_Ql (fun r u => (r, u) = res) (fun u t => va_P D cl (w u) t.heap) A) args s 0 0 A) (F0 m pc ls [.long v]) := by
  cases hf
  exact W.lret hx hb hr (fun t ht _ => ⟨⟨v, σ, rfl, rfl, by subst ht; exact hP⟩, hS.F ht⟩) hS.2.2 hdg hlocks
theorem jr_u (hx : p.tables.exec = Jvm.exec) (hb : c.code = cc) (hr : meth.sig.returnType = none) (hlocks : meth.locks = false) {res : RS} (hf : some σ = some res) (hP : va_P D cl (w σ) H) (hS : va_S A s.heap H locs) (hdg : decode cc pc = .ok (.return_, 1)) : W p l e R s m args below meth c H locs 0 0 (MQ below (va_Qv (fun u => u = res) (fun u t => va_P D cl (w u) t.heap) A) args s 0 0 A) (F0 m pc ls []) := by
  cases hf
  exact W.vret hx hb hr (fun t ht _ => ⟨⟨σ, rfl, rfl, by subst ht; exact hP⟩, hS.F ht⟩) hS.2.2 hdg hlocks
theorem jk_i {st0 : List Value} {a0 : Array Value} {o : Option (Int32 × RS)} {F : Int32 → RS → Option β} (hf : kn_i o F = some r) (hr : ∀ res, o = some res → va_Run p l e R s m args below meth c H locs cells slots 0 0 (F0 m pc ls st0) rest (va_Qi (fun r u => (r, u) = res) (fun u t => va_P D cl (w u) t.heap) A a0) A) (hS : va_S A H0 H locs) (kk : ∀ (v : Int32) (σ2 : RS) (H1 : Heap) (locs1 : List Loc), va_P D cl (w σ2) H1 → va_S A H0 H1 locs1 → F v σ2 = some r → W p l e R s m args below meth c H1 locs1 cells slots Q (F0 m (pc + 3) ls (.int v :: rest))) : W p l e R s m args below meth c H locs cells slots Q (F0 m pc ls st0) := by
  obtain ⟨v, σ2, h1, h2⟩ := kn_i_e hf
  refine va_calli (hr _ h1) hS (fun q _ h => h) (fun q h => h) (fun r' u t H1 locs1 ht _ hw hB _ _ hS1 => ?_)
  cases hw
  exact kk v σ2 H1 locs1 (by rw [← ht]; exact hB) hS1 h2
theorem jk_l {st0 : List Value} {a0 : Array Value} {o : Option (Int64 × RS)} {F : Int64 → RS → Option β} (hf : kn_l o F = some r) (hr : ∀ res, o = some res → va_Run p l e R s m args below meth c H locs cells slots 0 0 (F0 m pc ls st0) rest (va_Ql (fun r u => (r, u) = res) (fun u t => va_P D cl (w u) t.heap) A a0) A) (hS : va_S A H0 H locs) (kk : ∀ (v : Int64) (σ2 : RS) (H1 : Heap) (locs1 : List Loc), va_P D cl (w σ2) H1 → va_S A H0 H1 locs1 → F v σ2 = some r → W p l e R s m args below meth c H1 locs1 cells slots Q (F0 m (pc + 3) ls (.long v :: rest))) : W p l e R s m args below meth c H locs cells slots Q (F0 m pc ls st0) := by
  obtain ⟨v, σ2, h1, h2⟩ := kn_l_e hf
  refine va_calll (hr _ h1) hS (fun q _ h => h) (fun q h => h) (fun r' u t H1 locs1 ht _ hw hB _ _ hS1 => ?_)
  cases hw
  exact kk v σ2 H1 locs1 (by rw [← ht]; exact hB) hS1 h2
theorem jk_u {st0 : List Value} {a0 : Array Value} {o : Option RS} {F : RS → Option β} (hf : kn_u o F = some r) (hr : ∀ res, o = some res → va_Run p l e R s m args below meth c H locs cells slots 0 0 (F0 m pc ls st0) rest (va_Qv (fun u => u = res) (fun u t => va_P D cl (w u) t.heap) A a0) A) (hS : va_S A H0 H locs) (kk : ∀ (σ2 : RS) (H1 : Heap) (locs1 : List Loc), va_P D cl (w σ2) H1 → va_S A H0 H1 locs1 → F σ2 = some r → W p l e R s m args below meth c H1 locs1 cells slots Q (F0 m (pc + 3) ls rest)) : W p l e R s m args below meth c H locs cells slots Q (F0 m pc ls st0) := by
  obtain ⟨σ2, h1, h2⟩ := kn_u_e hf
  refine va_callv (hr _ h1) hS (fun q _ h => h) (fun q h => h) (fun u t H1 locs1 ht _ hw hB _ _ hS1 => ?_)
  cases hw
  exact kk σ2 H1 locs1 (by rw [← ht]; exact hB) hS1 h2
end JA
section JV
variable {p : Program} {l : Launch} {e : Env} {R : Room} {s : State} {m : MethodId} {args : Array Value} {below : List Frame} {meth : Method} {c : Code} {H : Heap} {locs : List Loc}
variable {cc : ByteArray} {pc nL : Nat} {ls : Array Slot} {rest st0 As : List Value} {D : va_G} {cl : List vw_C} {tys : List (ClassId × FieldType)} {A : Nat → Prop} {w : RS → va_W} {σ : RS} {a : Nat} {KW NW : List Cond} {own : String}
theorem jg_in {q : Cond} (hG : ∀ w ∈ KW, goodWord w = true) (hq : q ∈ KW) : GoodIn KW (q :: KW) := by
  intro w hw
  rcases List.mem_cons.mp hw with rfl | h
  · exact ⟨hq, good_of_word (hG _ hq)⟩
  · exact ⟨h, good_of_word (hG _ h)⟩
theorem jw_blind {av : List Value} (hNW : ∀ x ∈ NW, jw_nest x = true) : FrameBlind (va_Pc av (jw_at D cl tys NW w σ)) := fun a U g mk h => ⟨h.1, jw_at_calling hNW g mk a h.2⟩
/-- a call of a method of an object of the world, by a link of the class's own or a public one -/
theorem jv_run (hx : p.tables.exec = Jvm.exec) (hb : c.code = cc) (hml : c.maxLocals = nL) (hown : s.vm.findClass own = some m.cls) (hts : ∀ w ∈ KW, w.before args s = true) (hK : va_K D cl tys s) (hN : ∀ x ∈ NW, va_Nw x s) (hG : ∀ w ∈ KW, goodWord w = true) (hNW : ∀ x ∈ NW, jw_nest x = true) (hls : ls.size = nL)
    {y : MethodName} {b' : ByteArray} {nL' idx n ci q0 : Nat} {ret' : Option FieldType} {rm : Room} {Qc : Array Value → State → Outcome → State → Prop} {vc : vw_C} {fs : List Value}
    (hM : Met l y (.code y b' nL' ret' :: KW) rm (va_Pc (.ref a :: As) (jw_at D cl tys NW w σ)) Qc 0 0 A) (hP : va_P D cl (w σ) H) (hc : cl[ci]? = some vc) (he : (w σ)[q0]? = some (a, .inr (ci, fs))) (hvc : vc.1 = y.cls)
    (hcode : Cond.code y b' nL' ret' ∈ KW) (hlink : Cond.methodLink own idx y ∈ KW) (hinst : Cond.instanceMethod y ∈ KW) (hsel : Cond.selects y.cls y y ∈ KW) (hini : Cond.initialized y.cls ∈ KW) (hrm : rm.cells = 0 ∧ rm.slots = 0)
    (hd : y.cls ≠ "java/lang/invoke/MethodHandle" ∧ y.cls ≠ "java/lang/invoke/VarHandle" ∧ (parseMethodDescriptor y.desc).map (fun d => d.parameters.length) = some n) (hn : As.length = n) (hR : rm.frames + 1 ≤ R.frames ∧ 8 + (nL' + 11) + rm.locals ≤ R.locals)
    (hst : st0 = As.reverse ++ .ref a :: rest) (hW : (rest.map fun v => v.category).sum ≤ 8) (hdg : decode cc pc = .ok (.invokevirtual idx, 3)) :
    va_Run p l e R s m args below meth c H locs 0 0 0 0 (F0 m pc ls st0) rest (Qc (Value.ref a :: As).toArray) A :=
  va_runV (C := y.cls) ⟨hx, hb, hml, hown, hts⟩ hM ⟨callB_of n hts (jg_in hG hcode) rfl hrm.1 hrm.2 (hts _ hini) (hts _ hlink) hd hR, hts _ hinst, hts _ hsel⟩
    ⟨jw_blind hNW, by have h := va_recv hK hP hc he; rw [hvc] at h; exact h, fun U hU hW => ⟨rfl, jw_at_of hNW hP hK hN hU hW⟩⟩ rfl hn hls hst (lv_room hW) hdg ⟨Nat.zero_le _, Nat.zero_le _⟩
/-- the same by a nest mate's link -/
theorem jv_runN (hx : p.tables.exec = Jvm.exec) (hb : c.code = cc) (hml : c.maxLocals = nL) (hown : s.vm.findClass own = some m.cls) (hts : ∀ w ∈ KW, w.before args s = true) (hK : va_K D cl tys s) (hN : ∀ x ∈ NW, va_Nw x s) (hG : ∀ w ∈ KW, goodWord w = true) (hNW : ∀ x ∈ NW, jw_nest x = true) (hls : ls.size = nL)
    {y : MethodName} {b' : ByteArray} {nL' idx n ci q0 : Nat} {ret' : Option FieldType} {rm : Room} {Qc : Array Value → State → Outcome → State → Prop} {vc : vw_C} {fs : List Value} {host : String}
    (hM : Met l y (.code y b' nL' ret' :: KW) rm (va_Pc (.ref a :: As) (jw_at D cl tys NW w σ)) Qc 0 0 A) (hP : va_P D cl (w σ) H) (hc : cl[ci]? = some vc) (he : (w σ)[q0]? = some (a, .inr (ci, fs))) (hvc : vc.1 = y.cls)
    (hcode : Cond.code y b' nL' ret' ∈ KW) (hlink : Cond.methodLinkNest own idx y host ∈ NW) (hinst : Cond.instanceMethod y ∈ KW) (hsel : Cond.selects y.cls y y ∈ KW) (hini : Cond.initialized y.cls ∈ KW) (hrm : rm.cells = 0 ∧ rm.slots = 0)
    (hd : y.cls ≠ "java/lang/invoke/MethodHandle" ∧ y.cls ≠ "java/lang/invoke/VarHandle" ∧ (parseMethodDescriptor y.desc).map (fun d => d.parameters.length) = some n) (hn : As.length = n) (hR : rm.frames + 1 ≤ R.frames ∧ 8 + (nL' + 11) + rm.locals ≤ R.locals)
    (hst : st0 = As.reverse ++ .ref a :: rest) (hW : (rest.map fun v => v.category).sum ≤ 8) (hdg : decode cc pc = .ok (.invokevirtual idx, 3)) :
    va_Run p l e R s m args below meth c H locs 0 0 0 0 (F0 m pc ls st0) rest (Qc (Value.ref a :: As).toArray) A :=
  va_runVN (C := y.cls) ⟨hx, hb, hml, hown, hts⟩ hM ⟨va_cnB n hts (jg_in hG hcode) rfl hrm.1 hrm.2 (hN _ hlink) (hts _ hini) hd hR, hts _ hinst, hts _ hsel⟩
    ⟨jw_blind hNW, by have h := va_recv hK hP hc he; rw [hvc] at h; exact h, fun U hU hW => ⟨rfl, jw_at_of hNW hP hK hN hU hW⟩⟩ rfl hn hls hst (lv_room hW) hdg ⟨Nat.zero_le _, Nat.zero_le _⟩
/-- a static method -/
theorem js_run (hx : p.tables.exec = Jvm.exec) (hb : c.code = cc) (hml : c.maxLocals = nL) (hown : s.vm.findClass own = some m.cls) (hts : ∀ w ∈ KW, w.before args s = true) (hK : va_K D cl tys s) (hN : ∀ x ∈ NW, va_Nw x s) (hG : ∀ w ∈ KW, goodWord w = true) (hNW : ∀ x ∈ NW, jw_nest x = true) (hls : ls.size = nL)
    {y : MethodName} {b' : ByteArray} {nL' idx n : Nat} {ret' : Option FieldType} {rm : Room} {Qc : Array Value → State → Outcome → State → Prop}
    (hM : Met l y (.code y b' nL' ret' :: KW) rm (va_Pc As (jw_at D cl tys NW w σ)) Qc 0 0 A) (hP : va_P D cl (w σ) H)
    (hcode : Cond.code y b' nL' ret' ∈ KW) (hlink : Cond.methodLink own idx y ∈ KW) (hstat : Cond.static y ∈ KW) (hini : Cond.initialized y.cls ∈ KW) (hrm : rm.cells = 0 ∧ rm.slots = 0)
    (hd : y.cls ≠ "java/lang/invoke/MethodHandle" ∧ y.cls ≠ "java/lang/invoke/VarHandle" ∧ (parseMethodDescriptor y.desc).map (fun d => d.parameters.length) = some n) (hn : As.length = n) (hR : rm.frames + 1 ≤ R.frames ∧ 8 + (nL' + 11) + rm.locals ≤ R.locals)
    (hst : st0 = As.reverse ++ rest) (hW : (rest.map fun v => v.category).sum ≤ 8) (hdg : decode cc pc = .ok (.invokestatic idx, 3)) :
    va_Run p l e R s m args below meth c H locs 0 0 0 0 (F0 m pc ls st0) rest (Qc As.toArray) A :=
  va_runS ⟨hx, hb, hml, hown, hts⟩ hM ⟨callB_of n hts (jg_in hG hcode) rfl hrm.1 hrm.2 (hts _ hini) (hts _ hlink) hd hR, hts _ hstat⟩
    ⟨jw_blind hNW, fun U hU hW => ⟨rfl, jw_at_of hNW hP hK hN hU hW⟩⟩ rfl hn hls hst (lv_room hW) hdg ⟨Nat.zero_le _, Nat.zero_le _⟩
theorem js_runN (hx : p.tables.exec = Jvm.exec) (hb : c.code = cc) (hml : c.maxLocals = nL) (hown : s.vm.findClass own = some m.cls) (hts : ∀ w ∈ KW, w.before args s = true) (hK : va_K D cl tys s) (hN : ∀ x ∈ NW, va_Nw x s) (hG : ∀ w ∈ KW, goodWord w = true) (hNW : ∀ x ∈ NW, jw_nest x = true) (hls : ls.size = nL)
    {y : MethodName} {b' : ByteArray} {nL' idx n : Nat} {ret' : Option FieldType} {rm : Room} {Qc : Array Value → State → Outcome → State → Prop} {host : String}
    (hM : Met l y (.code y b' nL' ret' :: KW) rm (va_Pc As (jw_at D cl tys NW w σ)) Qc 0 0 A) (hP : va_P D cl (w σ) H)
    (hcode : Cond.code y b' nL' ret' ∈ KW) (hlink : Cond.methodLinkNest own idx y host ∈ NW) (hstat : Cond.static y ∈ KW) (hini : Cond.initialized y.cls ∈ KW) (hrm : rm.cells = 0 ∧ rm.slots = 0)
    (hd : y.cls ≠ "java/lang/invoke/MethodHandle" ∧ y.cls ≠ "java/lang/invoke/VarHandle" ∧ (parseMethodDescriptor y.desc).map (fun d => d.parameters.length) = some n) (hn : As.length = n) (hR : rm.frames + 1 ≤ R.frames ∧ 8 + (nL' + 11) + rm.locals ≤ R.locals)
    (hst : st0 = As.reverse ++ rest) (hW : (rest.map fun v => v.category).sum ≤ 8) (hdg : decode cc pc = .ok (.invokestatic idx, 3)) :
    va_Run p l e R s m args below meth c H locs 0 0 0 0 (F0 m pc ls st0) rest (Qc As.toArray) A :=
  va_runSN ⟨hx, hb, hml, hown, hts⟩ hM ⟨va_cnB n hts (jg_in hG hcode) rfl hrm.1 hrm.2 (hN _ hlink) (hts _ hini) hd hR, hts _ hstat, trivial⟩
    ⟨jw_blind hNW, fun U hU hW => ⟨rfl, jw_at_of hNW hP hK hN hU hW⟩⟩ rfl hn hls hst (lv_room hW) hdg ⟨Nat.zero_le _, Nat.zero_le _⟩
end JV
/-! the tables' words that a call keeps, and the nest's -/
def KW : List Cond := lw_tbl.filter goodWord
def NW : List Cond := lw_tbl.filter jw_nest
theorem kw_of {i : Nat} {w : Cond} (h : lw_tbl[i]? = some w) (hg : goodWord w = true) : w ∈ KW := List.mem_filter.mpr ⟨List.mem_of_getElem? h, hg⟩
theorem nw_of {i : Nat} {w : Cond} (h : lw_tbl[i]? = some w) (hg : jw_nest w = true) : w ∈ NW := List.mem_filter.mpr ⟨List.mem_of_getElem? h, hg⟩
theorem c_hG : ∀ w ∈ KW, goodWord w = true := fun _ h => (List.mem_filter.mp h).2
theorem c_hNW : ∀ w ∈ NW, jw_nest w = true := fun _ h => (List.mem_filter.mp h).2
theorem r_hG : ∀ w ∈ KW, goodWord w = true := c_hG
theorem r_hNW : ∀ w ∈ NW, jw_nest w = true := c_hNW
theorem kw_all {ws : List Cond} (ps : List Nat) (hp : ws = ps.filterMap (fun i => lw_tbl[i]?)) (h : ws.all goodWord = true) : ∀ w ∈ ws, w ∈ KW := by
  intro w hw
  have h1 := List.all_eq_true.mp h w hw
  rw [hp] at hw
  obtain ⟨i, -, hi⟩ := List.mem_filterMap.mp hw
  exact kw_of hi h1
abbrev jtys (kA : Nat → ClassId) : List (ClassId × FieldType) := [(kA 0, .int), (kA 1, .long), (kA 2, .boolean), (kA 3, .object RX4)]
abbrev jxc (cc : ByteArray) (ret : Option FieldType) (nL : Nat) (own : String) (p : Program) (s : State) (m : MethodId) (args : Array Value) (meth : Method) (c : Code) (dC : Nat → ClassId) (dI : Nat → Nat → Nat) (kA : Nat → ClassId) : Prop := jx KW NW (dC, dI) vwCl (jtys kA) cc ret nL own p s m args meth c
end
section
set_option maxRecDepth 20000 in
theorem kw_0 : Cond.selects RX11 yX11_changed yX11_changed ∈ KW := kw_of (i := 0) (by decide +kernel) rfl
set_option maxRecDepth 20000 in
theorem kw_1 : Cond.selects RX3 yX3_startLine yX3_startLine ∈ KW := kw_of (i := 1) (by decide +kernel) rfl
set_option maxRecDepth 20000 in
theorem kw_2 : Cond.selects RX3 yX3_sendOn yX3_sendOn ∈ KW := kw_of (i := 2) (by decide +kernel) rfl
set_option maxRecDepth 20000 in
theorem kw_3 : Cond.selects RX3 yX3_sendAlong yX3_sendAlong ∈ KW := kw_of (i := 3) (by decide +kernel) rfl
set_option maxRecDepth 20000 in
theorem kw_4 : Cond.selects RX1 yX1_valueOf yX1_valueOf ∈ KW := kw_of (i := 4) (by decide +kernel) rfl
set_option maxRecDepth 20000 in
theorem kw_5 : Cond.selects RX1 yX1_fails yX1_fails ∈ KW := kw_of (i := 5) (by decide +kernel) rfl
set_option maxRecDepth 20000 in
theorem kw_6 : Cond.selects RX1 yX1_plainValue yX1_plainValue ∈ KW := kw_of (i := 6) (by decide +kernel) rfl
set_option maxRecDepth 20000 in
theorem kw_7 : Cond.selects RX1 yX1_stateAt yX1_stateAt ∈ KW := kw_of (i := 7) (by decide +kernel) rfl
set_option maxRecDepth 20000 in
theorem kw_8 : Cond.selects RX1 yX1_joined yX1_joined ∈ KW := kw_of (i := 8) (by decide +kernel) rfl
set_option maxRecDepth 20000 in
theorem kw_9 : Cond.selects RX3 yX3_isDone yX3_isDone ∈ KW := kw_of (i := 9) (by decide +kernel) rfl
set_option maxRecDepth 20000 in
theorem kw_10 : Cond.selects RX3 yX3_takeStates yX3_takeStates ∈ KW := kw_of (i := 10) (by decide +kernel) rfl
set_option maxRecDepth 20000 in
theorem kw_11 : Cond.selects RX7 yX7_isDone yX7_isDone ∈ KW := kw_of (i := 11) (by decide +kernel) rfl
set_option maxRecDepth 20000 in
theorem kw_12 : Cond.selects RX7 yX7_begin yX7_begin ∈ KW := kw_of (i := 12) (by decide +kernel) rfl
set_option maxRecDepth 20000 in
theorem kw_13 : Cond.selects RX7 yX7_sendAll yX7_sendAll ∈ KW := kw_of (i := 13) (by decide +kernel) rfl
set_option maxRecDepth 20000 in
theorem kw_14 : Cond.selects RX7 yX7_sendAlong yX7_sendAlong ∈ KW := kw_of (i := 14) (by decide +kernel) rfl
set_option maxRecDepth 20000 in
theorem kw_15 : Cond.selects RX7 yX7_askNodes yX7_askNodes ∈ KW := kw_of (i := 15) (by decide +kernel) rfl
set_option maxRecDepth 20000 in
theorem kw_16 : Cond.selects RX7 yX7_messagesTo yX7_messagesTo ∈ KW := kw_of (i := 16) (by decide +kernel) rfl
set_option maxRecDepth 20000 in
theorem kw_17 : Cond.selects RX7 yX7_askNode yX7_askNode ∈ KW := kw_of (i := 17) (by decide +kernel) rfl
set_option maxRecDepth 20000 in
theorem kw_18 : Cond.selects RX7 yX7_foldFor yX7_foldFor ∈ KW := kw_of (i := 18) (by decide +kernel) rfl
set_option maxRecDepth 20000 in
theorem kw_19 : Cond.selects RX7 yX7_foldTwo yX7_foldTwo ∈ KW := kw_of (i := 19) (by decide +kernel) rfl
set_option maxRecDepth 20000 in
theorem kw_20 : Cond.selects RX7 yX7_changeNodes yX7_changeNodes ∈ KW := kw_of (i := 20) (by decide +kernel) rfl
set_option maxRecDepth 20000 in
theorem kw_21 : Cond.selects RX7 yX7_sumParts yX7_sumParts ∈ KW := kw_of (i := 21) (by decide +kernel) rfl
set_option maxRecDepth 20000 in
theorem kw_22 : Cond.selects RX7 yX7_tellMessages yX7_tellMessages ∈ KW := kw_of (i := 22) (by decide +kernel) rfl
set_option maxRecDepth 20000 in
theorem kw_23 : Cond.selects RX12 yX12_clearFailed yX12_clearFailed ∈ KW := kw_of (i := 23) (by decide +kernel) rfl
set_option maxRecDepth 20000 in
theorem kw_24 : Cond.selects RX12 yX12_isTerm yX12_isTerm ∈ KW := kw_of (i := 24) (by decide +kernel) rfl
set_option maxRecDepth 20000 in
theorem kw_25 : Cond.selects RX12 yX12_isNode yX12_isNode ∈ KW := kw_of (i := 25) (by decide +kernel) rfl
set_option maxRecDepth 20000 in
theorem kw_26 : Cond.selects RX12 yX12_walk yX12_walk ∈ KW := kw_of (i := 26) (by decide +kernel) rfl
set_option maxRecDepth 20000 in
theorem kw_27 : Cond.selects RX12 yX12_remember yX12_remember ∈ KW := kw_of (i := 27) (by decide +kernel) rfl
set_option maxRecDepth 20000 in
theorem kw_28 : Cond.selects RX12 yX12_isFailed yX12_isFailed ∈ KW := kw_of (i := 28) (by decide +kernel) rfl
set_option maxRecDepth 20000 in
theorem kw_29 : Cond.selects RX12 yX12_sendsOn yX12_sendsOn ∈ KW := kw_of (i := 29) (by decide +kernel) rfl
set_option maxRecDepth 20000 in
theorem kw_30 : Cond.selects RX12 yX12_askArc yX12_askArc ∈ KW := kw_of (i := 30) (by decide +kernel) rfl
set_option maxRecDepth 20000 in
theorem kw_31 : Cond.selects RX12 yX12_does yX12_does ∈ KW := kw_of (i := 31) (by decide +kernel) rfl
set_option maxRecDepth 20000 in
theorem kw_32 : Cond.selects RX12 yX12_asked yX12_asked ∈ KW := kw_of (i := 32) (by decide +kernel) rfl
set_option maxRecDepth 20000 in
theorem kw_33 : Cond.selects RX12 yX12_push yX12_push ∈ KW := kw_of (i := 33) (by decide +kernel) rfl
set_option maxRecDepth 20000 in
theorem kw_34 : Cond.selects RX12 yX12_begins yX12_begins ∈ KW := kw_of (i := 34) (by decide +kernel) rfl
set_option maxRecDepth 20000 in
theorem kw_35 : Cond.selects RX12 yX12_arcsFrom yX12_arcsFrom ∈ KW := kw_of (i := 35) (by decide +kernel) rfl
set_option maxRecDepth 20000 in
theorem kw_36 : Cond.selects RX12 yX12_goesOn yX12_goesOn ∈ KW := kw_of (i := 36) (by decide +kernel) rfl
set_option maxRecDepth 20000 in
theorem kw_37 : Cond.selects RX12 yX12_joined yX12_joined ∈ KW := kw_of (i := 37) (by decide +kernel) rfl
set_option maxRecDepth 20000 in
theorem kw_38 : Cond.selects RX12 yX12_note yX12_note ∈ KW := kw_of (i := 38) (by decide +kernel) rfl
set_option maxRecDepth 20000 in
theorem kw_39 : Cond.selects RX12 yX12_takes yX12_takes ∈ KW := kw_of (i := 39) (by decide +kernel) rfl
set_option maxRecDepth 20000 in
theorem kw_40 : Cond.selects RX12 yX12_keep yX12_keep ∈ KW := kw_of (i := 40) (by decide +kernel) rfl
set_option maxRecDepth 20000 in
theorem kw_41 : Cond.selects RX12 yX12_isAnyAwake yX12_isAnyAwake ∈ KW := kw_of (i := 41) (by decide +kernel) rfl
set_option maxRecDepth 20000 in
theorem kw_42 : Cond.selects RX12 yX12_round yX12_round ∈ KW := kw_of (i := 42) (by decide +kernel) rfl
set_option maxRecDepth 20000 in
theorem kw_43 : Cond.selects RX12 yX12_sendAll yX12_sendAll ∈ KW := kw_of (i := 43) (by decide +kernel) rfl
set_option maxRecDepth 20000 in
theorem kw_44 : Cond.selects RX12 yX12_sendAlong yX12_sendAlong ∈ KW := kw_of (i := 44) (by decide +kernel) rfl
set_option maxRecDepth 20000 in
theorem kw_45 : Cond.selects RX12 yX12_isReached yX12_isReached ∈ KW := kw_of (i := 45) (by decide +kernel) rfl
set_option maxRecDepth 20000 in
theorem kw_46 : Cond.selects RX12 yX12_renew yX12_renew ∈ KW := kw_of (i := 46) (by decide +kernel) rfl
set_option maxRecDepth 20000 in
theorem kw_47 : Cond.selects RX12 yX12_foldFor yX12_foldFor ∈ KW := kw_of (i := 47) (by decide +kernel) rfl
set_option maxRecDepth 20000 in
theorem kw_48 : Cond.selects RX12 yX12_isOver yX12_isOver ∈ KW := kw_of (i := 48) (by decide +kernel) rfl
set_option maxRecDepth 20000 in
theorem kw_49 : Cond.selects RX12 yX12_asBefore yX12_asBefore ∈ KW := kw_of (i := 49) (by decide +kernel) rfl
set_option maxRecDepth 20000 in
theorem kw_50 : Cond.selects RX12 yX12_isArc yX12_isArc ∈ KW := kw_of (i := 50) (by decide +kernel) rfl
set_option maxRecDepth 20000 in
theorem kw_52 : Cond.initialized RX11 ∈ KW := kw_of (i := 52) (by decide +kernel) rfl
set_option maxRecDepth 20000 in
theorem kw_53 : Cond.initialized RX8 ∈ KW := kw_of (i := 53) (by decide +kernel) rfl
set_option maxRecDepth 20000 in
theorem kw_54 : Cond.initialized RX10 ∈ KW := kw_of (i := 54) (by decide +kernel) rfl
set_option maxRecDepth 20000 in
theorem kw_56 : Cond.initialized RX2 ∈ KW := kw_of (i := 56) (by decide +kernel) rfl
set_option maxRecDepth 20000 in
theorem kw_57 : Cond.initialized RX5 ∈ KW := kw_of (i := 57) (by decide +kernel) rfl
set_option maxRecDepth 20000 in
theorem kw_58 : Cond.initialized RX4 ∈ KW := kw_of (i := 58) (by decide +kernel) rfl
set_option maxRecDepth 20000 in
theorem kw_59 : Cond.initialized RX9 ∈ KW := kw_of (i := 59) (by decide +kernel) rfl
set_option maxRecDepth 20000 in
theorem kw_60 : Cond.initialized RX1 ∈ KW := kw_of (i := 60) (by decide +kernel) rfl
set_option maxRecDepth 20000 in
theorem kw_61 : Cond.initialized RX0 ∈ KW := kw_of (i := 61) (by decide +kernel) rfl
set_option maxRecDepth 20000 in
theorem kw_62 : Cond.initialized RX7 ∈ KW := kw_of (i := 62) (by decide +kernel) rfl
set_option maxRecDepth 20000 in
theorem kw_63 : Cond.initialized RX3 ∈ KW := kw_of (i := 63) (by decide +kernel) rfl
set_option maxRecDepth 20000 in
theorem kw_64 : Cond.initialized RX12 ∈ KW := kw_of (i := 64) (by decide +kernel) rfl
set_option maxRecDepth 20000 in
theorem kw_65 : Cond.initialized "java/lang/System" ∈ KW := kw_of (i := 65) (by decide +kernel) rfl
set_option maxRecDepth 20000 in
theorem kw_66 : Cond.initialized "java/lang/Math" ∈ KW := kw_of (i := 66) (by decide +kernel) rfl
set_option maxRecDepth 20000 in
theorem kw_81 : Cond.fieldLink RX8 9 "WalkedRounds$Terms" "kinds" "[I" ∈ KW := kw_of (i := 81) (by decide +kernel) rfl
set_option maxRecDepth 20000 in
theorem kw_82 : Cond.fieldLink RX1 44 "WalkedRounds$Terms" "kinds" "[I" ∈ KW := kw_of (i := 82) (by decide +kernel) rfl
set_option maxRecDepth 20000 in
theorem kw_83 : Cond.fieldLink RX8 15 "WalkedRounds$Terms" "partA" "[I" ∈ KW := kw_of (i := 83) (by decide +kernel) rfl
set_option maxRecDepth 20000 in
theorem kw_84 : Cond.fieldLink RX1 54 "WalkedRounds$Terms" "partA" "[I" ∈ KW := kw_of (i := 84) (by decide +kernel) rfl
set_option maxRecDepth 20000 in
theorem kw_85 : Cond.fieldLink RX8 18 "WalkedRounds$Terms" "partB" "[I" ∈ KW := kw_of (i := 85) (by decide +kernel) rfl
set_option maxRecDepth 20000 in
theorem kw_86 : Cond.fieldLink RX1 65 "WalkedRounds$Terms" "partB" "[I" ∈ KW := kw_of (i := 86) (by decide +kernel) rfl
set_option maxRecDepth 20000 in
theorem kw_87 : Cond.fieldLink RX8 21 "WalkedRounds$Terms" "partC" "[I" ∈ KW := kw_of (i := 87) (by decide +kernel) rfl
set_option maxRecDepth 20000 in
theorem kw_88 : Cond.fieldLink RX1 68 "WalkedRounds$Terms" "partC" "[I" ∈ KW := kw_of (i := 88) (by decide +kernel) rfl
set_option maxRecDepth 20000 in
theorem kw_89 : Cond.fieldLink RX8 24 "WalkedRounds$Terms" "numbers" "[J" ∈ KW := kw_of (i := 89) (by decide +kernel) rfl
set_option maxRecDepth 20000 in
theorem kw_90 : Cond.fieldLink RX1 81 "WalkedRounds$Terms" "numbers" "[J" ∈ KW := kw_of (i := 90) (by decide +kernel) rfl
set_option maxRecDepth 20000 in
theorem kw_91 : Cond.fieldLink RX8 28 "WalkedRounds$Terms" "size" "I" ∈ KW := kw_of (i := 91) (by decide +kernel) rfl
set_option maxRecDepth 20000 in
theorem kw_92 : Cond.fieldLink RX11 175 "WalkedRounds$Terms" "size" "I" ∈ KW := kw_of (i := 92) (by decide +kernel) rfl
set_option maxRecDepth 20000 in
theorem kw_115 : Cond.fieldLink RX4 19 "WalkedRounds$Web" "states" "[J" ∈ KW := kw_of (i := 115) (by decide +kernel) rfl
set_option maxRecDepth 20000 in
theorem kw_116 : Cond.fieldLink RX11 109 "WalkedRounds$Web" "states" "[J" ∈ KW := kw_of (i := 116) (by decide +kernel) rfl
set_option maxRecDepth 20000 in
theorem kw_117 : Cond.fieldLink RX1 75 "WalkedRounds$Web" "states" "[J" ∈ KW := kw_of (i := 117) (by decide +kernel) rfl
set_option maxRecDepth 20000 in
theorem kw_118 : Cond.fieldLink RX3 132 "WalkedRounds$Web" "states" "[J" ∈ KW := kw_of (i := 118) (by decide +kernel) rfl
set_option maxRecDepth 20000 in
theorem kw_119 : Cond.fieldLink RX7 156 "WalkedRounds$Web" "states" "[J" ∈ KW := kw_of (i := 119) (by decide +kernel) rfl
set_option maxRecDepth 20000 in
theorem kw_120 : Cond.fieldLink RX10 15 "WalkedRounds$Web" "awake" "[Z" ∈ KW := kw_of (i := 120) (by decide +kernel) rfl
set_option maxRecDepth 20000 in
theorem kw_121 : Cond.fieldLink RX4 28 "WalkedRounds$Web" "awake" "[Z" ∈ KW := kw_of (i := 121) (by decide +kernel) rfl
set_option maxRecDepth 20000 in
theorem kw_122 : Cond.fieldLink RX3 101 "WalkedRounds$Web" "awake" "[Z" ∈ KW := kw_of (i := 122) (by decide +kernel) rfl
set_option maxRecDepth 20000 in
theorem kw_123 : Cond.fieldLink RX7 129 "WalkedRounds$Web" "awake" "[Z" ∈ KW := kw_of (i := 123) (by decide +kernel) rfl
set_option maxRecDepth 20000 in
theorem kw_124 : Cond.fieldLink RX11 113 "WalkedRounds$Web" "awake" "[Z" ∈ KW := kw_of (i := 124) (by decide +kernel) rfl
set_option maxRecDepth 20000 in
theorem kw_125 : Cond.fieldLink RX10 19 "WalkedRounds$Web" "degrees" "[I" ∈ KW := kw_of (i := 125) (by decide +kernel) rfl
set_option maxRecDepth 20000 in
theorem kw_126 : Cond.fieldLink RX1 90 "WalkedRounds$Web" "degrees" "[I" ∈ KW := kw_of (i := 126) (by decide +kernel) rfl
set_option maxRecDepth 20000 in
theorem kw_127 : Cond.fieldLink RX10 23 "WalkedRounds$Web" "from" "[I" ∈ KW := kw_of (i := 127) (by decide +kernel) rfl
set_option maxRecDepth 20000 in
theorem kw_128 : Cond.fieldLink RX3 111 "WalkedRounds$Web" "from" "[I" ∈ KW := kw_of (i := 128) (by decide +kernel) rfl
set_option maxRecDepth 20000 in
theorem kw_129 : Cond.fieldLink RX7 120 "WalkedRounds$Web" "from" "[I" ∈ KW := kw_of (i := 129) (by decide +kernel) rfl
set_option maxRecDepth 20000 in
theorem kw_130 : Cond.fieldLink RX10 26 "WalkedRounds$Web" "to" "[I" ∈ KW := kw_of (i := 130) (by decide +kernel) rfl
set_option maxRecDepth 20000 in
theorem kw_131 : Cond.fieldLink RX7 117 "WalkedRounds$Web" "to" "[I" ∈ KW := kw_of (i := 131) (by decide +kernel) rfl
set_option maxRecDepth 20000 in
theorem kw_132 : Cond.fieldLink RX3 129 "WalkedRounds$Web" "to" "[I" ∈ KW := kw_of (i := 132) (by decide +kernel) rfl
set_option maxRecDepth 20000 in
theorem kw_133 : Cond.fieldLink RX10 29 "WalkedRounds$Web" "weights" "[J" ∈ KW := kw_of (i := 133) (by decide +kernel) rfl
set_option maxRecDepth 20000 in
theorem kw_134 : Cond.fieldLink RX1 84 "WalkedRounds$Web" "weights" "[J" ∈ KW := kw_of (i := 134) (by decide +kernel) rfl
set_option maxRecDepth 20000 in
theorem kw_135 : Cond.fieldLink RX10 32 "WalkedRounds$Web" "nodes" "I" ∈ KW := kw_of (i := 135) (by decide +kernel) rfl
set_option maxRecDepth 20000 in
theorem kw_136 : Cond.fieldLink RX3 96 "WalkedRounds$Web" "nodes" "I" ∈ KW := kw_of (i := 136) (by decide +kernel) rfl
set_option maxRecDepth 20000 in
theorem kw_137 : Cond.fieldLink RX7 123 "WalkedRounds$Web" "nodes" "I" ∈ KW := kw_of (i := 137) (by decide +kernel) rfl
set_option maxRecDepth 20000 in
theorem kw_138 : Cond.fieldLink RX11 178 "WalkedRounds$Web" "nodes" "I" ∈ KW := kw_of (i := 138) (by decide +kernel) rfl
set_option maxRecDepth 20000 in
theorem kw_139 : Cond.fieldLink RX10 36 "WalkedRounds$Web" "arcs" "I" ∈ KW := kw_of (i := 139) (by decide +kernel) rfl
set_option maxRecDepth 20000 in
theorem kw_140 : Cond.fieldLink RX3 109 "WalkedRounds$Web" "arcs" "I" ∈ KW := kw_of (i := 140) (by decide +kernel) rfl
set_option maxRecDepth 20000 in
theorem kw_141 : Cond.fieldLink RX7 126 "WalkedRounds$Web" "arcs" "I" ∈ KW := kw_of (i := 141) (by decide +kernel) rfl
set_option maxRecDepth 20000 in
theorem kw_142 : Cond.fieldLink RX11 181 "WalkedRounds$Web" "arcs" "I" ∈ KW := kw_of (i := 142) (by decide +kernel) rfl
set_option maxRecDepth 20000 in
theorem kw_143 : Cond.fieldLink RX4 29 "WalkedRounds$Web" "rounds" "I" ∈ KW := kw_of (i := 143) (by decide +kernel) rfl
set_option maxRecDepth 20000 in
theorem kw_144 : Cond.fieldLink RX0 43 "WalkedRounds$Web" "rounds" "I" ∈ KW := kw_of (i := 144) (by decide +kernel) rfl
set_option maxRecDepth 20000 in
theorem kw_145 : Cond.fieldLink RX7 97 "WalkedRounds$Web" "rounds" "I" ∈ KW := kw_of (i := 145) (by decide +kernel) rfl
set_option maxRecDepth 20000 in
theorem kw_146 : Cond.fieldLink RX3 122 "WalkedRounds$Web" "rounds" "I" ∈ KW := kw_of (i := 146) (by decide +kernel) rfl
set_option maxRecDepth 20000 in
theorem kw_147 : Cond.fieldLink RX1 87 "WalkedRounds$Web" "rounds" "I" ∈ KW := kw_of (i := 147) (by decide +kernel) rfl
set_option maxRecDepth 20000 in
theorem kw_148 : Cond.fieldLink RX11 183 "WalkedRounds$Web" "rounds" "I" ∈ KW := kw_of (i := 148) (by decide +kernel) rfl
set_option maxRecDepth 20000 in
theorem kw_149 : Cond.fieldLink RX4 34 "WalkedRounds$Web" "sum" "J" ∈ KW := kw_of (i := 149) (by decide +kernel) rfl
set_option maxRecDepth 20000 in
theorem kw_150 : Cond.fieldLink RX1 93 "WalkedRounds$Web" "sum" "J" ∈ KW := kw_of (i := 150) (by decide +kernel) rfl
set_option maxRecDepth 20000 in
theorem kw_151 : Cond.fieldLink RX7 191 "WalkedRounds$Web" "sum" "J" ∈ KW := kw_of (i := 151) (by decide +kernel) rfl
set_option maxRecDepth 20000 in
theorem kw_152 : Cond.fieldLink RX11 164 "WalkedRounds$Web" "sum" "J" ∈ KW := kw_of (i := 152) (by decide +kernel) rfl
set_option maxRecDepth 20000 in
theorem kw_182 : Cond.fieldLink RX0 27 "WalkedRounds$Program" "acts" "[I" ∈ KW := kw_of (i := 182) (by decide +kernel) rfl
set_option maxRecDepth 20000 in
theorem kw_183 : Cond.fieldLink RX11 120 "WalkedRounds$Program" "acts" "[I" ∈ KW := kw_of (i := 183) (by decide +kernel) rfl
set_option maxRecDepth 20000 in
theorem kw_184 : Cond.fieldLink RX11 124 "WalkedRounds$Program" "foldSort" "I" ∈ KW := kw_of (i := 184) (by decide +kernel) rfl
set_option maxRecDepth 20000 in
theorem kw_185 : Cond.fieldLink RX7 167 "WalkedRounds$Program" "foldSort" "I" ∈ KW := kw_of (i := 185) (by decide +kernel) rfl
set_option maxRecDepth 20000 in
theorem kw_197 : Cond.fieldLink RX2 9 "WalkedRounds$Failure" "sort" "I" ∈ KW := kw_of (i := 197) (by decide +kernel) rfl
set_option maxRecDepth 20000 in
theorem kw_198 : Cond.fieldLink RX2 15 "WalkedRounds$Failure" "act" "I" ∈ KW := kw_of (i := 198) (by decide +kernel) rfl
set_option maxRecDepth 20000 in
theorem kw_199 : Cond.fieldLink RX2 18 "WalkedRounds$Failure" "node" "I" ∈ KW := kw_of (i := 199) (by decide +kernel) rfl
set_option maxRecDepth 20000 in
theorem kw_200 : Cond.fieldLink RX2 21 "WalkedRounds$Failure" "arc" "I" ∈ KW := kw_of (i := 200) (by decide +kernel) rfl
set_option maxRecDepth 20000 in
theorem kw_201 : Cond.fieldLink RX2 24 "WalkedRounds$Failure" "round" "I" ∈ KW := kw_of (i := 201) (by decide +kernel) rfl
set_option maxRecDepth 20000 in
theorem kw_226 : Cond.fieldLink RX4 9 "WalkedRounds$Memory" "states" "[J" ∈ KW := kw_of (i := 226) (by decide +kernel) rfl
set_option maxRecDepth 20000 in
theorem kw_227 : Cond.fieldLink RX4 15 "WalkedRounds$Memory" "awake" "[Z" ∈ KW := kw_of (i := 227) (by decide +kernel) rfl
set_option maxRecDepth 20000 in
theorem kw_228 : Cond.fieldLink RX4 33 "WalkedRounds$Memory" "rounds" "I" ∈ KW := kw_of (i := 228) (by decide +kernel) rfl
set_option maxRecDepth 20000 in
theorem kw_229 : Cond.fieldLink RX4 38 "WalkedRounds$Memory" "sum" "J" ∈ KW := kw_of (i := 229) (by decide +kernel) rfl
set_option maxRecDepth 20000 in
theorem kw_239 : Cond.fieldLink RX5 13 "WalkedRounds$Past" "ring" "[LWalkedRounds$Memory;" ∈ KW := kw_of (i := 239) (by decide +kernel) rfl
set_option maxRecDepth 20000 in
theorem kw_240 : Cond.fieldLink RX5 18 "WalkedRounds$Past" "next" "I" ∈ KW := kw_of (i := 240) (by decide +kernel) rfl
set_option maxRecDepth 20000 in
theorem kw_241 : Cond.fieldLink RX5 29 "WalkedRounds$Past" "kept" "I" ∈ KW := kw_of (i := 241) (by decide +kernel) rfl
set_option maxRecDepth 20000 in
theorem kw_242 : Cond.fieldLink RX11 193 "WalkedRounds$Past" "kept" "I" ∈ KW := kw_of (i := 242) (by decide +kernel) rfl
set_option maxRecDepth 20000 in
theorem kw_256 : Cond.fieldLink RX9 9 "WalkedRounds$Told" "arcs" "[I" ∈ KW := kw_of (i := 256) (by decide +kernel) rfl
set_option maxRecDepth 20000 in
theorem kw_257 : Cond.fieldLink RX11 169 "WalkedRounds$Told" "arcs" "[I" ∈ KW := kw_of (i := 257) (by decide +kernel) rfl
set_option maxRecDepth 20000 in
theorem kw_258 : Cond.fieldLink RX9 15 "WalkedRounds$Told" "values" "[J" ∈ KW := kw_of (i := 258) (by decide +kernel) rfl
set_option maxRecDepth 20000 in
theorem kw_259 : Cond.fieldLink RX11 172 "WalkedRounds$Told" "values" "[J" ∈ KW := kw_of (i := 259) (by decide +kernel) rfl
set_option maxRecDepth 20000 in
theorem kw_260 : Cond.fieldLink RX9 19 "WalkedRounds$Told" "size" "I" ∈ KW := kw_of (i := 260) (by decide +kernel) rfl
set_option maxRecDepth 20000 in
theorem kw_261 : Cond.fieldLink RX11 192 "WalkedRounds$Told" "size" "I" ∈ KW := kw_of (i := 261) (by decide +kernel) rfl
set_option maxRecDepth 20000 in
theorem kw_275 : Cond.fieldLink RX1 9 "WalkedRounds$Asker" "terms" "LWalkedRounds$Terms;" ∈ KW := kw_of (i := 275) (by decide +kernel) rfl
set_option maxRecDepth 20000 in
theorem kw_276 : Cond.fieldLink RX1 15 "WalkedRounds$Asker" "web" "LWalkedRounds$Web;" ∈ KW := kw_of (i := 276) (by decide +kernel) rfl
set_option maxRecDepth 20000 in
theorem kw_277 : Cond.fieldLink RX1 34 "WalkedRounds$Asker" "foldedMessages" "I" ∈ KW := kw_of (i := 277) (by decide +kernel) rfl
set_option maxRecDepth 20000 in
theorem kw_278 : Cond.fieldLink RX1 19 "WalkedRounds$Asker" "steps" "I" ∈ KW := kw_of (i := 278) (by decide +kernel) rfl
set_option maxRecDepth 20000 in
theorem kw_279 : Cond.fieldLink RX1 30 "WalkedRounds$Asker" "foldedValue" "J" ∈ KW := kw_of (i := 279) (by decide +kernel) rfl
set_option maxRecDepth 20000 in
theorem kw_280 : Cond.fieldLink RX1 23 "WalkedRounds$Asker" "fault" "I" ∈ KW := kw_of (i := 280) (by decide +kernel) rfl
set_option maxRecDepth 20000 in
theorem kw_281 : Cond.fieldLink RX0 39 "WalkedRounds$Asker" "fault" "I" ∈ KW := kw_of (i := 281) (by decide +kernel) rfl
set_option maxRecDepth 20000 in
theorem kw_282 : Cond.fieldLink RX11 159 "WalkedRounds$Asker" "fault" "I" ∈ KW := kw_of (i := 282) (by decide +kernel) rfl
set_option maxRecDepth 20000 in
theorem kw_283 : Cond.fieldLink RX1 41 "WalkedRounds$Asker" "allSteps" "I" ∈ KW := kw_of (i := 283) (by decide +kernel) rfl
set_option maxRecDepth 20000 in
theorem kw_284 : Cond.fieldLink RX11 189 "WalkedRounds$Asker" "allSteps" "I" ∈ KW := kw_of (i := 284) (by decide +kernel) rfl
set_option maxRecDepth 20000 in
theorem kw_306 : Cond.fieldLink RX0 9 "WalkedRounds$Actor" "web" "LWalkedRounds$Web;" ∈ KW := kw_of (i := 306) (by decide +kernel) rfl
set_option maxRecDepth 20000 in
theorem kw_309 : Cond.fieldLink RX0 15 "WalkedRounds$Actor" "program" "LWalkedRounds$Program;" ∈ KW := kw_of (i := 309) (by decide +kernel) rfl
set_option maxRecDepth 20000 in
theorem kw_310 : Cond.fieldLink RX7 163 "WalkedRounds$Actor" "program" "LWalkedRounds$Program;" ∈ KW := kw_of (i := 310) (by decide +kernel) rfl
set_option maxRecDepth 20000 in
theorem kw_311 : Cond.fieldLink RX0 19 "WalkedRounds$Actor" "asker" "LWalkedRounds$Asker;" ∈ KW := kw_of (i := 311) (by decide +kernel) rfl
set_option maxRecDepth 20000 in
theorem kw_312 : Cond.fieldLink RX3 55 "WalkedRounds$Actor" "asker" "LWalkedRounds$Asker;" ∈ KW := kw_of (i := 312) (by decide +kernel) rfl
set_option maxRecDepth 20000 in
theorem kw_313 : Cond.fieldLink RX7 107 "WalkedRounds$Actor" "asker" "LWalkedRounds$Asker;" ∈ KW := kw_of (i := 313) (by decide +kernel) rfl
set_option maxRecDepth 20000 in
theorem kw_314 : Cond.fieldLink RX0 23 "WalkedRounds$Actor" "failure" "LWalkedRounds$Failure;" ∈ KW := kw_of (i := 314) (by decide +kernel) rfl
set_option maxRecDepth 20000 in
theorem kw_332 : Cond.fieldLink RX7 38 "WalkedRounds$RoundWalk" "web" "LWalkedRounds$Web;" ∈ KW := kw_of (i := 332) (by decide +kernel) rfl
set_option maxRecDepth 20000 in
theorem kw_333 : Cond.fieldLink RX7 39 "WalkedRounds$RoundWalk" "actor" "LWalkedRounds$Actor;" ∈ KW := kw_of (i := 333) (by decide +kernel) rfl
set_option maxRecDepth 20000 in
theorem kw_334 : Cond.fieldLink RX7 47 "WalkedRounds$RoundWalk" "failure" "LWalkedRounds$Failure;" ∈ KW := kw_of (i := 334) (by decide +kernel) rfl
set_option maxRecDepth 20000 in
theorem kw_335 : Cond.fieldLink RX7 48 "WalkedRounds$RoundWalk" "past" "LWalkedRounds$Past;" ∈ KW := kw_of (i := 335) (by decide +kernel) rfl
set_option maxRecDepth 20000 in
theorem kw_336 : Cond.fieldLink RX7 52 "WalkedRounds$RoundWalk" "told" "LWalkedRounds$Told;" ∈ KW := kw_of (i := 336) (by decide +kernel) rfl
set_option maxRecDepth 20000 in
theorem kw_337 : Cond.fieldLink RX7 9 "WalkedRounds$RoundWalk" "sentArcs" "[I" ∈ KW := kw_of (i := 337) (by decide +kernel) rfl
set_option maxRecDepth 20000 in
theorem kw_338 : Cond.fieldLink RX7 15 "WalkedRounds$RoundWalk" "carries" "[Z" ∈ KW := kw_of (i := 338) (by decide +kernel) rfl
set_option maxRecDepth 20000 in
theorem kw_339 : Cond.fieldLink RX7 19 "WalkedRounds$RoundWalk" "carried" "[J" ∈ KW := kw_of (i := 339) (by decide +kernel) rfl
set_option maxRecDepth 20000 in
theorem kw_340 : Cond.fieldLink RX7 23 "WalkedRounds$RoundWalk" "reached" "[Z" ∈ KW := kw_of (i := 340) (by decide +kernel) rfl
set_option maxRecDepth 20000 in
theorem kw_341 : Cond.fieldLink RX7 26 "WalkedRounds$RoundWalk" "halting" "[Z" ∈ KW := kw_of (i := 341) (by decide +kernel) rfl
set_option maxRecDepth 20000 in
theorem kw_342 : Cond.fieldLink RX7 29 "WalkedRounds$RoundWalk" "newStates" "[J" ∈ KW := kw_of (i := 342) (by decide +kernel) rfl
set_option maxRecDepth 20000 in
theorem kw_343 : Cond.fieldLink RX7 114 "WalkedRounds$RoundWalk" "sent" "I" ∈ KW := kw_of (i := 343) (by decide +kernel) rfl
set_option maxRecDepth 20000 in
theorem kw_375 : Cond.fieldLink RX3 31 "WalkedRounds$LineWalk" "web" "LWalkedRounds$Web;" ∈ KW := kw_of (i := 375) (by decide +kernel) rfl
set_option maxRecDepth 20000 in
theorem kw_376 : Cond.fieldLink RX3 32 "WalkedRounds$LineWalk" "actor" "LWalkedRounds$Actor;" ∈ KW := kw_of (i := 376) (by decide +kernel) rfl
set_option maxRecDepth 20000 in
theorem kw_377 : Cond.fieldLink RX3 40 "WalkedRounds$LineWalk" "failure" "LWalkedRounds$Failure;" ∈ KW := kw_of (i := 377) (by decide +kernel) rfl
set_option maxRecDepth 20000 in
theorem kw_378 : Cond.fieldLink RX3 41 "WalkedRounds$LineWalk" "past" "LWalkedRounds$Past;" ∈ KW := kw_of (i := 378) (by decide +kernel) rfl
set_option maxRecDepth 20000 in
theorem kw_379 : Cond.fieldLink RX3 45 "WalkedRounds$LineWalk" "told" "LWalkedRounds$Told;" ∈ KW := kw_of (i := 379) (by decide +kernel) rfl
set_option maxRecDepth 20000 in
theorem kw_380 : Cond.fieldLink RX3 9 "WalkedRounds$LineWalk" "arcs" "[I" ∈ KW := kw_of (i := 380) (by decide +kernel) rfl
set_option maxRecDepth 20000 in
theorem kw_381 : Cond.fieldLink RX3 15 "WalkedRounds$LineWalk" "values" "[J" ∈ KW := kw_of (i := 381) (by decide +kernel) rfl
set_option maxRecDepth 20000 in
theorem kw_382 : Cond.fieldLink RX3 19 "WalkedRounds$LineWalk" "newStates" "[J" ∈ KW := kw_of (i := 382) (by decide +kernel) rfl
set_option maxRecDepth 20000 in
theorem kw_383 : Cond.fieldLink RX3 22 "WalkedRounds$LineWalk" "oldStates" "[J" ∈ KW := kw_of (i := 383) (by decide +kernel) rfl
set_option maxRecDepth 20000 in
theorem kw_384 : Cond.fieldLink RX3 64 "WalkedRounds$LineWalk" "first" "I" ∈ KW := kw_of (i := 384) (by decide +kernel) rfl
set_option maxRecDepth 20000 in
theorem kw_385 : Cond.fieldLink RX3 68 "WalkedRounds$LineWalk" "size" "I" ∈ KW := kw_of (i := 385) (by decide +kernel) rfl
set_option maxRecDepth 20000 in
theorem kw_409 : Cond.fieldLink RX11 10 "WalkedRounds" "terms" "LWalkedRounds$Terms;" ∈ KW := kw_of (i := 409) (by decide +kernel) rfl
set_option maxRecDepth 20000 in
theorem kw_410 : Cond.fieldLink RX11 19 "WalkedRounds" "web" "LWalkedRounds$Web;" ∈ KW := kw_of (i := 410) (by decide +kernel) rfl
set_option maxRecDepth 20000 in
theorem kw_411 : Cond.fieldLink RX11 26 "WalkedRounds" "program" "LWalkedRounds$Program;" ∈ KW := kw_of (i := 411) (by decide +kernel) rfl
set_option maxRecDepth 20000 in
theorem kw_412 : Cond.fieldLink RX11 33 "WalkedRounds" "failure" "LWalkedRounds$Failure;" ∈ KW := kw_of (i := 412) (by decide +kernel) rfl
set_option maxRecDepth 20000 in
theorem kw_413 : Cond.fieldLink RX11 40 "WalkedRounds" "past" "LWalkedRounds$Past;" ∈ KW := kw_of (i := 413) (by decide +kernel) rfl
set_option maxRecDepth 20000 in
theorem kw_414 : Cond.fieldLink RX11 47 "WalkedRounds" "told" "LWalkedRounds$Told;" ∈ KW := kw_of (i := 414) (by decide +kernel) rfl
set_option maxRecDepth 20000 in
theorem kw_415 : Cond.fieldLink RX11 56 "WalkedRounds" "asker" "LWalkedRounds$Asker;" ∈ KW := kw_of (i := 415) (by decide +kernel) rfl
set_option maxRecDepth 20000 in
theorem kw_417 : Cond.fieldLink RX11 74 "WalkedRounds" "roundWalk" "LWalkedRounds$RoundWalk;" ∈ KW := kw_of (i := 417) (by decide +kernel) rfl
set_option maxRecDepth 20000 in
theorem kw_418 : Cond.fieldLink RX11 81 "WalkedRounds" "lineWalk" "LWalkedRounds$LineWalk;" ∈ KW := kw_of (i := 418) (by decide +kernel) rfl
set_option maxRecDepth 20000 in
theorem kw_419 : Cond.fieldLink RX11 144 "WalkedRounds" "whyAsked" "I" ∈ KW := kw_of (i := 419) (by decide +kernel) rfl
set_option maxRecDepth 20000 in
theorem kw_447 : Cond.methodLink RX11 85 yX8_add ∈ KW := kw_of (i := 447) (by decide +kernel) rfl
set_option maxRecDepth 20000 in
theorem kw_448 : Cond.instanceMethod yX8_add ∈ KW := kw_of (i := 448) (by decide +kernel) rfl
set_option maxRecDepth 20000 in
theorem kw_449 : Cond.selects RX8 yX8_add yX8_add ∈ KW := kw_of (i := 449) (by decide +kernel) rfl
set_option maxRecDepth 20000 in
theorem kw_450 : Cond.code yX8_add cX8_add 8 (some .int) ∈ KW := kw_of (i := 450) rfl rfl
set_option maxRecDepth 20000 in
theorem kw_451 : Cond.methodLink RX8 32 yX8_partsOf ∈ KW := kw_of (i := 451) (by decide +kernel) rfl
set_option maxRecDepth 20000 in
theorem kw_452 : Cond.static yX8_partsOf ∈ KW := kw_of (i := 452) (by decide +kernel) rfl
set_option maxRecDepth 20000 in
theorem kw_453 : Cond.code yX8_partsOf cX8_partsOf 1 (some .int) ∈ KW := kw_of (i := 453) rfl rfl
set_option maxRecDepth 20000 in
theorem kw_454 : Cond.methodLink RX8 36 yX8_has ∈ KW := kw_of (i := 454) (by decide +kernel) rfl
set_option maxRecDepth 20000 in
theorem kw_455 : Cond.instanceMethod yX8_has ∈ KW := kw_of (i := 455) (by decide +kernel) rfl
set_option maxRecDepth 20000 in
theorem kw_456 : Cond.selects RX8 yX8_has yX8_has ∈ KW := kw_of (i := 456) (by decide +kernel) rfl
set_option maxRecDepth 20000 in
theorem kw_457 : Cond.code yX8_has cX8_has 2 (some .boolean) ∈ KW := kw_of (i := 457) rfl rfl
set_option maxRecDepth 20000 in
theorem nw_458 : Cond.methodLinkNest RX8 40 yX11_isState "WalkedRounds" ∈ NW := nw_of (i := 458) (by decide +kernel) rfl
set_option maxRecDepth 20000 in
theorem kw_459 : Cond.static yX11_isState ∈ KW := kw_of (i := 459) (by decide +kernel) rfl
set_option maxRecDepth 20000 in
theorem kw_460 : Cond.code yX11_isState cX11_isState 2 (some .boolean) ∈ KW := kw_of (i := 460) rfl rfl
set_option maxRecDepth 20000 in
theorem kw_461 : Cond.constantLong RX11 196 3 ∈ KW := kw_of (i := 461) (by decide +kernel) rfl
set_option maxRecDepth 20000 in
theorem kw_466 : Cond.methodLink RX11 89 yX10_addNode ∈ KW := kw_of (i := 466) (by decide +kernel) rfl
set_option maxRecDepth 20000 in
theorem kw_467 : Cond.instanceMethod yX10_addNode ∈ KW := kw_of (i := 467) (by decide +kernel) rfl
set_option maxRecDepth 20000 in
theorem kw_468 : Cond.selects RX10 yX10_addNode yX10_addNode ∈ KW := kw_of (i := 468) (by decide +kernel) rfl
set_option maxRecDepth 20000 in
theorem kw_469 : Cond.code yX10_addNode cX10_addNode 1 (some .int) ∈ KW := kw_of (i := 469) rfl rfl
set_option maxRecDepth 20000 in
theorem kw_470 : Cond.methodLink RX11 93 yX11_changed ∈ KW := kw_of (i := 470) (by decide +kernel) rfl
set_option maxRecDepth 20000 in
theorem kw_472 : Cond.instanceMethod yX11_changed ∈ KW := kw_of (i := 472) (by decide +kernel) rfl
set_option maxRecDepth 20000 in
theorem kw_473 : Cond.code yX11_changed cX11_changed 2 (some .int) ∈ KW := kw_of (i := 473) rfl rfl
set_option maxRecDepth 20000 in
theorem kw_474 : Cond.methodLink RX11 198 yX5_forget ∈ KW := kw_of (i := 474) (by decide +kernel) rfl
set_option maxRecDepth 20000 in
theorem kw_475 : Cond.instanceMethod yX5_forget ∈ KW := kw_of (i := 475) (by decide +kernel) rfl
set_option maxRecDepth 20000 in
theorem kw_476 : Cond.selects RX5 yX5_forget yX5_forget ∈ KW := kw_of (i := 476) (by decide +kernel) rfl
set_option maxRecDepth 20000 in
theorem kw_477 : Cond.code yX5_forget cX5_forget 1 none ∈ KW := kw_of (i := 477) rfl rfl
set_option maxRecDepth 20000 in
theorem kw_482 : Cond.methodLink RX11 97 yX10_addArc ∈ KW := kw_of (i := 482) (by decide +kernel) rfl
set_option maxRecDepth 20000 in
theorem kw_483 : Cond.instanceMethod yX10_addArc ∈ KW := kw_of (i := 483) (by decide +kernel) rfl
set_option maxRecDepth 20000 in
theorem kw_484 : Cond.selects RX10 yX10_addArc yX10_addArc ∈ KW := kw_of (i := 484) (by decide +kernel) rfl
set_option maxRecDepth 20000 in
theorem kw_485 : Cond.code yX10_addArc cX10_addArc 5 (some .int) ∈ KW := kw_of (i := 485) rfl rfl
set_option maxRecDepth 20000 in
theorem kw_486 : Cond.methodLink RX10 39 yX10_hasNode ∈ KW := kw_of (i := 486) (by decide +kernel) rfl
set_option maxRecDepth 20000 in
theorem kw_487 : Cond.instanceMethod yX10_hasNode ∈ KW := kw_of (i := 487) (by decide +kernel) rfl
set_option maxRecDepth 20000 in
theorem kw_488 : Cond.selects RX10 yX10_hasNode yX10_hasNode ∈ KW := kw_of (i := 488) (by decide +kernel) rfl
set_option maxRecDepth 20000 in
theorem kw_489 : Cond.code yX10_hasNode cX10_hasNode 2 (some .boolean) ∈ KW := kw_of (i := 489) rfl rfl
set_option maxRecDepth 20000 in
theorem kw_494 : Cond.methodLink RX11 101 yX10_hasNode ∈ KW := kw_of (i := 494) (by decide +kernel) rfl
set_option maxRecDepth 20000 in
theorem kw_495 : Cond.methodLink RX11 105 yX11_isState ∈ KW := kw_of (i := 495) (by decide +kernel) rfl
set_option maxRecDepth 20000 in
theorem kw_504 : Cond.methodLink RX11 117 yX8_has ∈ KW := kw_of (i := 504) (by decide +kernel) rfl
set_option maxRecDepth 20000 in
theorem kw_513 : Cond.methodLink RX11 128 yX2_clear ∈ KW := kw_of (i := 513) (by decide +kernel) rfl
set_option maxRecDepth 20000 in
theorem kw_514 : Cond.instanceMethod yX2_clear ∈ KW := kw_of (i := 514) (by decide +kernel) rfl
set_option maxRecDepth 20000 in
theorem kw_515 : Cond.selects RX2 yX2_clear yX2_clear ∈ KW := kw_of (i := 515) (by decide +kernel) rfl
set_option maxRecDepth 20000 in
theorem kw_516 : Cond.code yX2_clear cX2_clear 1 none ∈ KW := kw_of (i := 516) rfl rfl
set_option maxRecDepth 20000 in
theorem kw_517 : Cond.methodLink RX11 131 yX3_walk ∈ KW := kw_of (i := 517) (by decide +kernel) rfl
set_option maxRecDepth 20000 in
theorem kw_518 : Cond.instanceMethod yX3_walk ∈ KW := kw_of (i := 518) (by decide +kernel) rfl
set_option maxRecDepth 20000 in
theorem kw_519 : Cond.selects RX3 yX3_walk yX3_walk ∈ KW := kw_of (i := 519) (by decide +kernel) rfl
set_option maxRecDepth 20000 in
theorem kw_520 : Cond.code yX3_walk cX3_walk 6 (some .int) ∈ KW := kw_of (i := 520) rfl rfl
set_option maxRecDepth 20000 in
theorem kw_521 : Cond.methodLink RX3 49 yX5_mark ∈ KW := kw_of (i := 521) (by decide +kernel) rfl
set_option maxRecDepth 20000 in
theorem kw_522 : Cond.instanceMethod yX5_mark ∈ KW := kw_of (i := 522) (by decide +kernel) rfl
set_option maxRecDepth 20000 in
theorem kw_523 : Cond.selects RX5 yX5_mark yX5_mark ∈ KW := kw_of (i := 523) (by decide +kernel) rfl
set_option maxRecDepth 20000 in
theorem kw_524 : Cond.code yX5_mark cX5_mark 2 none ∈ KW := kw_of (i := 524) rfl rfl
set_option maxRecDepth 20000 in
theorem kw_525 : Cond.methodLink RX5 22 yX4_take ∈ KW := kw_of (i := 525) (by decide +kernel) rfl
set_option maxRecDepth 20000 in
theorem kw_526 : Cond.instanceMethod yX4_take ∈ KW := kw_of (i := 526) (by decide +kernel) rfl
set_option maxRecDepth 20000 in
theorem kw_527 : Cond.selects RX4 yX4_take yX4_take ∈ KW := kw_of (i := 527) (by decide +kernel) rfl
set_option maxRecDepth 20000 in
theorem kw_528 : Cond.code yX4_take cX4_take 2 none ∈ KW := kw_of (i := 528) rfl rfl
set_option maxRecDepth 20000 in
theorem kw_529 : Cond.methodLink RX4 22 arraycopyName ∈ KW := kw_of (i := 529) (by decide +kernel) rfl
set_option maxRecDepth 20000 in
theorem kw_530 : Cond.static arraycopyName ∈ KW := kw_of (i := 530) (by decide +kernel) rfl
set_option maxRecDepth 20000 in
theorem kw_531 : Cond.native arraycopyName ∈ KW := kw_of (i := 531) (by decide +kernel) rfl
set_option maxRecDepth 20000 in
theorem kw_532 : Cond.methodLink RX3 59 yX1_begin ∈ KW := kw_of (i := 532) (by decide +kernel) rfl
set_option maxRecDepth 20000 in
theorem kw_533 : Cond.instanceMethod yX1_begin ∈ KW := kw_of (i := 533) (by decide +kernel) rfl
set_option maxRecDepth 20000 in
theorem kw_534 : Cond.selects RX1 yX1_begin yX1_begin ∈ KW := kw_of (i := 534) (by decide +kernel) rfl
set_option maxRecDepth 20000 in
theorem kw_535 : Cond.code yX1_begin cX1_begin 1 none ∈ KW := kw_of (i := 535) rfl rfl
set_option maxRecDepth 20000 in
theorem kw_536 : Cond.methodLink RX1 26 yX1_setFolded ∈ KW := kw_of (i := 536) (by decide +kernel) rfl
set_option maxRecDepth 20000 in
theorem kw_537 : Cond.instanceMethod yX1_setFolded ∈ KW := kw_of (i := 537) (by decide +kernel) rfl
set_option maxRecDepth 20000 in
theorem kw_538 : Cond.selects RX1 yX1_setFolded yX1_setFolded ∈ KW := kw_of (i := 538) (by decide +kernel) rfl
set_option maxRecDepth 20000 in
theorem kw_539 : Cond.code yX1_setFolded cX1_setFolded 4 none ∈ KW := kw_of (i := 539) rfl rfl
set_option maxRecDepth 20000 in
theorem kw_540 : Cond.methodLink RX3 71 yX3_startLine ∈ KW := kw_of (i := 540) (by decide +kernel) rfl
set_option maxRecDepth 20000 in
theorem kw_542 : Cond.instanceMethod yX3_startLine ∈ KW := kw_of (i := 542) (by decide +kernel) rfl
set_option maxRecDepth 20000 in
theorem kw_543 : Cond.code yX3_startLine cX3_startLine 2 none ∈ KW := kw_of (i := 543) rfl rfl
set_option maxRecDepth 20000 in
theorem kw_544 : Cond.methodLink RX3 105 yX3_sendOn ∈ KW := kw_of (i := 544) (by decide +kernel) rfl
set_option maxRecDepth 20000 in
theorem kw_546 : Cond.instanceMethod yX3_sendOn ∈ KW := kw_of (i := 546) (by decide +kernel) rfl
set_option maxRecDepth 20000 in
theorem kw_547 : Cond.code yX3_sendOn cX3_sendOn 3 none ∈ KW := kw_of (i := 547) rfl rfl
set_option maxRecDepth 20000 in
theorem kw_548 : Cond.methodLink RX3 114 yX3_sendAlong ∈ KW := kw_of (i := 548) (by decide +kernel) rfl
set_option maxRecDepth 20000 in
theorem kw_550 : Cond.instanceMethod yX3_sendAlong ∈ KW := kw_of (i := 550) (by decide +kernel) rfl
set_option maxRecDepth 20000 in
theorem kw_551 : Cond.code yX3_sendAlong cX3_sendAlong 6 none ∈ KW := kw_of (i := 551) rfl rfl
set_option maxRecDepth 20000 in
theorem kw_552 : Cond.methodLink RX3 118 yX0_comesTo ∈ KW := kw_of (i := 552) (by decide +kernel) rfl
set_option maxRecDepth 20000 in
theorem kw_553 : Cond.instanceMethod yX0_comesTo ∈ KW := kw_of (i := 553) (by decide +kernel) rfl
set_option maxRecDepth 20000 in
theorem kw_554 : Cond.selects RX0 yX0_comesTo yX0_comesTo ∈ KW := kw_of (i := 554) (by decide +kernel) rfl
set_option maxRecDepth 20000 in
theorem kw_555 : Cond.code yX0_comesTo cX0_comesTo 9 (some .long) ∈ KW := kw_of (i := 555) rfl rfl
set_option maxRecDepth 20000 in
theorem nw_556 : Cond.methodLinkNest RX0 33 yX1_valueOf "WalkedRounds" ∈ NW := nw_of (i := 556) (by decide +kernel) rfl
set_option maxRecDepth 20000 in
theorem kw_558 : Cond.instanceMethod yX1_valueOf ∈ KW := kw_of (i := 558) (by decide +kernel) rfl
set_option maxRecDepth 20000 in
theorem kw_559 : Cond.code yX1_valueOf cX1_valueOf 10 (some .long) ∈ KW := kw_of (i := 559) rfl rfl
set_option maxRecDepth 20000 in
theorem kw_560 : Cond.methodLink RX1 37 yX1_fails ∈ KW := kw_of (i := 560) (by decide +kernel) rfl
set_option maxRecDepth 20000 in
theorem kw_562 : Cond.instanceMethod yX1_fails ∈ KW := kw_of (i := 562) (by decide +kernel) rfl
set_option maxRecDepth 20000 in
theorem kw_563 : Cond.code yX1_fails cX1_fails 2 (some .long) ∈ KW := kw_of (i := 563) rfl rfl
set_option maxRecDepth 20000 in
theorem kw_564 : Cond.methodLink RX1 50 yX1_plainValue ∈ KW := kw_of (i := 564) (by decide +kernel) rfl
set_option maxRecDepth 20000 in
theorem kw_566 : Cond.instanceMethod yX1_plainValue ∈ KW := kw_of (i := 566) (by decide +kernel) rfl
set_option maxRecDepth 20000 in
theorem kw_567 : Cond.code yX1_plainValue cX1_plainValue 4 (some .long) ∈ KW := kw_of (i := 567) rfl rfl
set_option maxRecDepth 20000 in
theorem kw_568 : Cond.methodLink RX1 57 yX1_valueOf ∈ KW := kw_of (i := 568) (by decide +kernel) rfl
set_option maxRecDepth 20000 in
theorem kw_569 : Cond.methodLink RX1 61 yX1_stateAt ∈ KW := kw_of (i := 569) (by decide +kernel) rfl
set_option maxRecDepth 20000 in
theorem kw_571 : Cond.instanceMethod yX1_stateAt ∈ KW := kw_of (i := 571) (by decide +kernel) rfl
set_option maxRecDepth 20000 in
theorem kw_572 : Cond.code yX1_stateAt cX1_stateAt 3 (some .long) ∈ KW := kw_of (i := 572) rfl rfl
set_option maxRecDepth 20000 in
theorem kw_573 : Cond.methodLink RX1 71 yX1_joined ∈ KW := kw_of (i := 573) (by decide +kernel) rfl
set_option maxRecDepth 20000 in
theorem kw_575 : Cond.instanceMethod yX1_joined ∈ KW := kw_of (i := 575) (by decide +kernel) rfl
set_option maxRecDepth 20000 in
theorem kw_576 : Cond.code yX1_joined cX1_joined 6 (some .long) ∈ KW := kw_of (i := 576) rfl rfl
set_option maxRecDepth 20000 in
theorem kw_577 : Cond.methodLink RX0 48 yX2_keep ∈ KW := kw_of (i := 577) (by decide +kernel) rfl
set_option maxRecDepth 20000 in
theorem kw_578 : Cond.instanceMethod yX2_keep ∈ KW := kw_of (i := 578) (by decide +kernel) rfl
set_option maxRecDepth 20000 in
theorem kw_579 : Cond.selects RX2 yX2_keep yX2_keep ∈ KW := kw_of (i := 579) (by decide +kernel) rfl
set_option maxRecDepth 20000 in
theorem kw_580 : Cond.code yX2_keep cX2_keep 6 none ∈ KW := kw_of (i := 580) rfl rfl
set_option maxRecDepth 20000 in
theorem kw_581 : Cond.methodLink RX3 74 yX2_is ∈ KW := kw_of (i := 581) (by decide +kernel) rfl
set_option maxRecDepth 20000 in
theorem kw_582 : Cond.instanceMethod yX2_is ∈ KW := kw_of (i := 582) (by decide +kernel) rfl
set_option maxRecDepth 20000 in
theorem kw_583 : Cond.selects RX2 yX2_is yX2_is ∈ KW := kw_of (i := 583) (by decide +kernel) rfl
set_option maxRecDepth 20000 in
theorem kw_584 : Cond.code yX2_is cX2_is 1 (some .boolean) ∈ KW := kw_of (i := 584) rfl rfl
set_option maxRecDepth 20000 in
theorem kw_585 : Cond.methodLink RX3 125 yX2_keep ∈ KW := kw_of (i := 585) (by decide +kernel) rfl
set_option maxRecDepth 20000 in
theorem kw_586 : Cond.methodLink RX3 80 yX3_isDone ∈ KW := kw_of (i := 586) (by decide +kernel) rfl
set_option maxRecDepth 20000 in
theorem kw_588 : Cond.instanceMethod yX3_isDone ∈ KW := kw_of (i := 588) (by decide +kernel) rfl
set_option maxRecDepth 20000 in
theorem kw_589 : Cond.code yX3_isDone cX3_isDone 6 (some .boolean) ∈ KW := kw_of (i := 589) rfl rfl
set_option maxRecDepth 20000 in
theorem kw_590 : Cond.methodLink RX3 135 arraycopyName ∈ KW := kw_of (i := 590) (by decide +kernel) rfl
set_option maxRecDepth 20000 in
theorem kw_591 : Cond.methodLink RX3 141 yX1_setFolded ∈ KW := kw_of (i := 591) (by decide +kernel) rfl
set_option maxRecDepth 20000 in
theorem kw_592 : Cond.methodLink RX3 145 yX3_takeStates ∈ KW := kw_of (i := 592) (by decide +kernel) rfl
set_option maxRecDepth 20000 in
theorem kw_594 : Cond.instanceMethod yX3_takeStates ∈ KW := kw_of (i := 594) (by decide +kernel) rfl
set_option maxRecDepth 20000 in
theorem kw_595 : Cond.code yX3_takeStates cX3_takeStates 3 none ∈ KW := kw_of (i := 595) rfl rfl
set_option maxRecDepth 20000 in
theorem kw_596 : Cond.methodLink RX3 84 yX9_clear ∈ KW := kw_of (i := 596) (by decide +kernel) rfl
set_option maxRecDepth 20000 in
theorem kw_597 : Cond.instanceMethod yX9_clear ∈ KW := kw_of (i := 597) (by decide +kernel) rfl
set_option maxRecDepth 20000 in
theorem kw_598 : Cond.selects RX9 yX9_clear yX9_clear ∈ KW := kw_of (i := 598) (by decide +kernel) rfl
set_option maxRecDepth 20000 in
theorem kw_599 : Cond.code yX9_clear cX9_clear 1 none ∈ KW := kw_of (i := 599) rfl rfl
set_option maxRecDepth 20000 in
theorem kw_600 : Cond.methodLink RX3 89 yX9_add ∈ KW := kw_of (i := 600) (by decide +kernel) rfl
set_option maxRecDepth 20000 in
theorem kw_601 : Cond.instanceMethod yX9_add ∈ KW := kw_of (i := 601) (by decide +kernel) rfl
set_option maxRecDepth 20000 in
theorem kw_602 : Cond.selects RX9 yX9_add yX9_add ∈ KW := kw_of (i := 602) (by decide +kernel) rfl
set_option maxRecDepth 20000 in
theorem kw_603 : Cond.code yX9_add cX9_add 4 none ∈ KW := kw_of (i := 603) rfl rfl
set_option maxRecDepth 20000 in
theorem kw_604 : Cond.methodLink RX3 93 yX5_keepMark ∈ KW := kw_of (i := 604) (by decide +kernel) rfl
set_option maxRecDepth 20000 in
theorem kw_605 : Cond.instanceMethod yX5_keepMark ∈ KW := kw_of (i := 605) (by decide +kernel) rfl
set_option maxRecDepth 20000 in
theorem kw_606 : Cond.selects RX5 yX5_keepMark yX5_keepMark ∈ KW := kw_of (i := 606) (by decide +kernel) rfl
set_option maxRecDepth 20000 in
theorem kw_607 : Cond.code yX5_keepMark cX5_keepMark 1 none ∈ KW := kw_of (i := 607) rfl rfl
set_option maxRecDepth 20000 in
theorem kw_608 : Cond.methodLink RX11 134 yX7_walk ∈ KW := kw_of (i := 608) (by decide +kernel) rfl
set_option maxRecDepth 20000 in
theorem kw_609 : Cond.instanceMethod yX7_walk ∈ KW := kw_of (i := 609) (by decide +kernel) rfl
set_option maxRecDepth 20000 in
theorem kw_610 : Cond.selects RX7 yX7_walk yX7_walk ∈ KW := kw_of (i := 610) (by decide +kernel) rfl
set_option maxRecDepth 20000 in
theorem kw_611 : Cond.code yX7_walk cX7_walk 4 (some .int) ∈ KW := kw_of (i := 611) rfl rfl
set_option maxRecDepth 20000 in
theorem kw_612 : Cond.methodLink RX7 56 yX10_awakeNodes ∈ KW := kw_of (i := 612) (by decide +kernel) rfl
set_option maxRecDepth 20000 in
theorem kw_613 : Cond.instanceMethod yX10_awakeNodes ∈ KW := kw_of (i := 613) (by decide +kernel) rfl
set_option maxRecDepth 20000 in
theorem kw_614 : Cond.selects RX10 yX10_awakeNodes yX10_awakeNodes ∈ KW := kw_of (i := 614) (by decide +kernel) rfl
set_option maxRecDepth 20000 in
theorem kw_615 : Cond.code yX10_awakeNodes cX10_awakeNodes 3 (some .int) ∈ KW := kw_of (i := 615) rfl rfl
set_option maxRecDepth 20000 in
theorem kw_616 : Cond.methodLink RX7 62 yX7_isDone ∈ KW := kw_of (i := 616) (by decide +kernel) rfl
set_option maxRecDepth 20000 in
theorem kw_618 : Cond.instanceMethod yX7_isDone ∈ KW := kw_of (i := 618) (by decide +kernel) rfl
set_option maxRecDepth 20000 in
theorem kw_619 : Cond.code yX7_isDone cX7_isDone 2 (some .boolean) ∈ KW := kw_of (i := 619) rfl rfl
set_option maxRecDepth 20000 in
theorem kw_620 : Cond.methodLink RX7 66 yX5_mark ∈ KW := kw_of (i := 620) (by decide +kernel) rfl
set_option maxRecDepth 20000 in
theorem kw_621 : Cond.methodLink RX7 72 yX7_begin ∈ KW := kw_of (i := 621) (by decide +kernel) rfl
set_option maxRecDepth 20000 in
theorem kw_623 : Cond.instanceMethod yX7_begin ∈ KW := kw_of (i := 623) (by decide +kernel) rfl
set_option maxRecDepth 20000 in
theorem kw_624 : Cond.code yX7_begin cX7_begin 2 none ∈ KW := kw_of (i := 624) rfl rfl
set_option maxRecDepth 20000 in
theorem kw_625 : Cond.methodLink RX7 111 yX1_begin ∈ KW := kw_of (i := 625) (by decide +kernel) rfl
set_option maxRecDepth 20000 in
theorem kw_626 : Cond.methodLink RX7 75 yX7_sendAll ∈ KW := kw_of (i := 626) (by decide +kernel) rfl
set_option maxRecDepth 20000 in
theorem kw_628 : Cond.instanceMethod yX7_sendAll ∈ KW := kw_of (i := 628) (by decide +kernel) rfl
set_option maxRecDepth 20000 in
theorem kw_629 : Cond.code yX7_sendAll cX7_sendAll 5 none ∈ KW := kw_of (i := 629) rfl rfl
set_option maxRecDepth 20000 in
theorem kw_630 : Cond.methodLink RX7 132 yX7_sendAlong ∈ KW := kw_of (i := 630) (by decide +kernel) rfl
set_option maxRecDepth 20000 in
theorem kw_632 : Cond.instanceMethod yX7_sendAlong ∈ KW := kw_of (i := 632) (by decide +kernel) rfl
set_option maxRecDepth 20000 in
theorem kw_633 : Cond.code yX7_sendAlong cX7_sendAlong 3 none ∈ KW := kw_of (i := 633) rfl rfl
set_option maxRecDepth 20000 in
theorem kw_634 : Cond.methodLink RX7 136 yX0_comesTo ∈ KW := kw_of (i := 634) (by decide +kernel) rfl
set_option maxRecDepth 20000 in
theorem kw_635 : Cond.methodLink RX7 79 yX2_is ∈ KW := kw_of (i := 635) (by decide +kernel) rfl
set_option maxRecDepth 20000 in
theorem kw_636 : Cond.methodLink RX7 85 yX7_askNodes ∈ KW := kw_of (i := 636) (by decide +kernel) rfl
set_option maxRecDepth 20000 in
theorem kw_638 : Cond.instanceMethod yX7_askNodes ∈ KW := kw_of (i := 638) (by decide +kernel) rfl
set_option maxRecDepth 20000 in
theorem kw_639 : Cond.code yX7_askNodes cX7_askNodes 3 none ∈ KW := kw_of (i := 639) rfl rfl
set_option maxRecDepth 20000 in
theorem kw_640 : Cond.methodLink RX7 140 yX7_messagesTo ∈ KW := kw_of (i := 640) (by decide +kernel) rfl
set_option maxRecDepth 20000 in
theorem kw_642 : Cond.instanceMethod yX7_messagesTo ∈ KW := kw_of (i := 642) (by decide +kernel) rfl
set_option maxRecDepth 20000 in
theorem kw_643 : Cond.code yX7_messagesTo cX7_messagesTo 4 (some .int) ∈ KW := kw_of (i := 643) rfl rfl
set_option maxRecDepth 20000 in
theorem kw_644 : Cond.methodLink RX7 144 yX7_askNode ∈ KW := kw_of (i := 644) (by decide +kernel) rfl
set_option maxRecDepth 20000 in
theorem kw_646 : Cond.instanceMethod yX7_askNode ∈ KW := kw_of (i := 646) (by decide +kernel) rfl
set_option maxRecDepth 20000 in
theorem kw_647 : Cond.code yX7_askNode cX7_askNode 4 none ∈ KW := kw_of (i := 647) rfl rfl
set_option maxRecDepth 20000 in
theorem kw_648 : Cond.methodLink RX7 148 yX7_foldFor ∈ KW := kw_of (i := 648) (by decide +kernel) rfl
set_option maxRecDepth 20000 in
theorem kw_650 : Cond.instanceMethod yX7_foldFor ∈ KW := kw_of (i := 650) (by decide +kernel) rfl
set_option maxRecDepth 20000 in
theorem kw_651 : Cond.code yX7_foldFor cX7_foldFor 6 (some .long) ∈ KW := kw_of (i := 651) rfl rfl
set_option maxRecDepth 20000 in
theorem kw_652 : Cond.methodLink RX7 159 yX7_foldTwo ∈ KW := kw_of (i := 652) (by decide +kernel) rfl
set_option maxRecDepth 20000 in
theorem kw_654 : Cond.instanceMethod yX7_foldTwo ∈ KW := kw_of (i := 654) (by decide +kernel) rfl
set_option maxRecDepth 20000 in
theorem kw_655 : Cond.code yX7_foldTwo cX7_foldTwo 8 (some .long) ∈ KW := kw_of (i := 655) rfl rfl
set_option maxRecDepth 20000 in
theorem kw_656 : Cond.methodLink RX7 172 Lib.MathLoose.min_long.x ∈ KW := kw_of (i := 656) (by decide +kernel) rfl
set_option maxRecDepth 20000 in
theorem kw_657 : Cond.static Lib.MathLoose.min_long.x ∈ KW := kw_of (i := 657) (by decide +kernel) rfl
set_option maxRecDepth 20000 in
theorem kw_658 : Cond.code Lib.MathLoose.min_long.x Lib.MathLoose.min_long.code 4 (some .long) ∈ KW := kw_of (i := 658) rfl rfl
set_option maxRecDepth 20000 in
theorem kw_659 : Cond.methodLink RX7 178 Lib.MathLoose.max_long.x ∈ KW := kw_of (i := 659) (by decide +kernel) rfl
set_option maxRecDepth 20000 in
theorem kw_660 : Cond.static Lib.MathLoose.max_long.x ∈ KW := kw_of (i := 660) (by decide +kernel) rfl
set_option maxRecDepth 20000 in
theorem kw_661 : Cond.code Lib.MathLoose.max_long.x Lib.MathLoose.max_long.code 4 (some .long) ∈ KW := kw_of (i := 661) rfl rfl
set_option maxRecDepth 20000 in
theorem kw_662 : Cond.methodLink RX7 181 yX2_keep ∈ KW := kw_of (i := 662) (by decide +kernel) rfl
set_option maxRecDepth 20000 in
theorem kw_663 : Cond.methodLink RX7 152 yX1_setFolded ∈ KW := kw_of (i := 663) (by decide +kernel) rfl
set_option maxRecDepth 20000 in
theorem kw_664 : Cond.methodLink RX7 88 yX7_changeNodes ∈ KW := kw_of (i := 664) (by decide +kernel) rfl
set_option maxRecDepth 20000 in
theorem kw_666 : Cond.instanceMethod yX7_changeNodes ∈ KW := kw_of (i := 666) (by decide +kernel) rfl
set_option maxRecDepth 20000 in
theorem kw_667 : Cond.code yX7_changeNodes cX7_changeNodes 2 none ∈ KW := kw_of (i := 667) rfl rfl
set_option maxRecDepth 20000 in
theorem kw_668 : Cond.methodLink RX7 185 arraycopyName ∈ KW := kw_of (i := 668) (by decide +kernel) rfl
set_option maxRecDepth 20000 in
theorem kw_669 : Cond.methodLink RX7 91 yX7_sumParts ∈ KW := kw_of (i := 669) (by decide +kernel) rfl
set_option maxRecDepth 20000 in
theorem kw_671 : Cond.instanceMethod yX7_sumParts ∈ KW := kw_of (i := 671) (by decide +kernel) rfl
set_option maxRecDepth 20000 in
theorem kw_672 : Cond.code yX7_sumParts cX7_sumParts 4 none ∈ KW := kw_of (i := 672) rfl rfl
set_option maxRecDepth 20000 in
theorem kw_673 : Cond.methodLink RX7 94 yX5_backToMark ∈ KW := kw_of (i := 673) (by decide +kernel) rfl
set_option maxRecDepth 20000 in
theorem kw_674 : Cond.instanceMethod yX5_backToMark ∈ KW := kw_of (i := 674) (by decide +kernel) rfl
set_option maxRecDepth 20000 in
theorem kw_675 : Cond.selects RX5 yX5_backToMark yX5_backToMark ∈ KW := kw_of (i := 675) (by decide +kernel) rfl
set_option maxRecDepth 20000 in
theorem kw_676 : Cond.code yX5_backToMark cX5_backToMark 2 none ∈ KW := kw_of (i := 676) rfl rfl
set_option maxRecDepth 20000 in
theorem kw_677 : Cond.methodLink RX5 26 yX4_giveBack ∈ KW := kw_of (i := 677) (by decide +kernel) rfl
set_option maxRecDepth 20000 in
theorem kw_678 : Cond.instanceMethod yX4_giveBack ∈ KW := kw_of (i := 678) (by decide +kernel) rfl
set_option maxRecDepth 20000 in
theorem kw_679 : Cond.selects RX4 yX4_giveBack yX4_giveBack ∈ KW := kw_of (i := 679) (by decide +kernel) rfl
set_option maxRecDepth 20000 in
theorem kw_680 : Cond.code yX4_giveBack cX4_giveBack 2 none ∈ KW := kw_of (i := 680) rfl rfl
set_option maxRecDepth 20000 in
theorem kw_681 : Cond.methodLink RX7 101 yX5_keepMark ∈ KW := kw_of (i := 681) (by decide +kernel) rfl
set_option maxRecDepth 20000 in
theorem kw_682 : Cond.methodLink RX7 104 yX7_tellMessages ∈ KW := kw_of (i := 682) (by decide +kernel) rfl
set_option maxRecDepth 20000 in
theorem kw_684 : Cond.instanceMethod yX7_tellMessages ∈ KW := kw_of (i := 684) (by decide +kernel) rfl
set_option maxRecDepth 20000 in
theorem kw_685 : Cond.code yX7_tellMessages cX7_tellMessages 2 none ∈ KW := kw_of (i := 685) rfl rfl
set_option maxRecDepth 20000 in
theorem kw_686 : Cond.methodLink RX7 195 yX9_clear ∈ KW := kw_of (i := 686) (by decide +kernel) rfl
set_option maxRecDepth 20000 in
theorem kw_687 : Cond.methodLink RX7 200 yX9_add ∈ KW := kw_of (i := 687) (by decide +kernel) rfl
set_option maxRecDepth 20000 in
theorem kw_692 : Cond.methodLink RX11 137 yX5_undoLatest ∈ KW := kw_of (i := 692) (by decide +kernel) rfl
set_option maxRecDepth 20000 in
theorem kw_693 : Cond.instanceMethod yX5_undoLatest ∈ KW := kw_of (i := 693) (by decide +kernel) rfl
set_option maxRecDepth 20000 in
theorem kw_694 : Cond.selects RX5 yX5_undoLatest yX5_undoLatest ∈ KW := kw_of (i := 694) (by decide +kernel) rfl
set_option maxRecDepth 20000 in
theorem kw_695 : Cond.code yX5_undoLatest cX5_undoLatest 2 (some .int) ∈ KW := kw_of (i := 695) rfl rfl
set_option maxRecDepth 20000 in
theorem kw_700 : Cond.methodLink RX11 141 yX2_tell ∈ KW := kw_of (i := 700) (by decide +kernel) rfl
set_option maxRecDepth 20000 in
theorem kw_701 : Cond.instanceMethod yX2_tell ∈ KW := kw_of (i := 701) (by decide +kernel) rfl
set_option maxRecDepth 20000 in
theorem kw_702 : Cond.selects RX2 yX2_tell yX2_tell ∈ KW := kw_of (i := 702) (by decide +kernel) rfl
set_option maxRecDepth 20000 in
theorem kw_703 : Cond.code yX2_tell cX2_tell 2 (some .int) ∈ KW := kw_of (i := 703) rfl rfl
set_option maxRecDepth 20000 in
theorem kw_708 : Cond.constantLong RX11 147 (-101) ∈ KW := kw_of (i := 708) (by decide +kernel) rfl
set_option maxRecDepth 20000 in
theorem kw_709 : Cond.methodLink RX11 149 yX10_hasArc ∈ KW := kw_of (i := 709) (by decide +kernel) rfl
set_option maxRecDepth 20000 in
theorem kw_710 : Cond.instanceMethod yX10_hasArc ∈ KW := kw_of (i := 710) (by decide +kernel) rfl
set_option maxRecDepth 20000 in
theorem kw_711 : Cond.selects RX10 yX10_hasArc yX10_hasArc ∈ KW := kw_of (i := 711) (by decide +kernel) rfl
set_option maxRecDepth 20000 in
theorem kw_712 : Cond.code yX10_hasArc cX10_hasArc 2 (some .boolean) ∈ KW := kw_of (i := 712) rfl rfl
set_option maxRecDepth 20000 in
theorem kw_713 : Cond.methodLink RX11 152 yX1_begin ∈ KW := kw_of (i := 713) (by decide +kernel) rfl
set_option maxRecDepth 20000 in
theorem nw_714 : Cond.methodLinkNest RX11 155 yX1_valueOf "WalkedRounds" ∈ NW := nw_of (i := 714) (by decide +kernel) rfl
set_option maxRecDepth 20000 in
theorem kw_723 : Cond.constantLong RX11 162 (-102) ∈ KW := kw_of (i := 723) (by decide +kernel) rfl
set_option maxRecDepth 20000 in
theorem kw_736 : Cond.methodLink RX11 168 yX9_has ∈ KW := kw_of (i := 736) (by decide +kernel) rfl
set_option maxRecDepth 20000 in
theorem kw_737 : Cond.instanceMethod yX9_has ∈ KW := kw_of (i := 737) (by decide +kernel) rfl
set_option maxRecDepth 20000 in
theorem kw_738 : Cond.selects RX9 yX9_has yX9_has ∈ KW := kw_of (i := 738) (by decide +kernel) rfl
set_option maxRecDepth 20000 in
theorem kw_739 : Cond.code yX9_has cX9_has 2 (some .boolean) ∈ KW := kw_of (i := 739) rfl rfl
set_option maxRecDepth 20000 in
theorem kw_748 : Cond.methodLink RX11 186 yX10_awakeNodes ∈ KW := kw_of (i := 748) (by decide +kernel) rfl
set_option maxRecDepth 20000 in
theorem kw_755 : Cond.methodLink RX12 105 yX12_clearFailed ∈ KW := kw_of (i := 755) (by decide +kernel) rfl
set_option maxRecDepth 20000 in
theorem kw_757 : Cond.instanceMethod yX12_clearFailed ∈ KW := kw_of (i := 757) (by decide +kernel) rfl
set_option maxRecDepth 20000 in
theorem kw_758 : Cond.code yX12_clearFailed cX12_clearFailed 2 none ∈ KW := kw_of (i := 758) rfl rfl
set_option maxRecDepth 20000 in
theorem kw_759 : Cond.fieldLink RX12 108 "WalkedRoundsModel" "terms" "I" ∈ KW := kw_of (i := 759) (by decide +kernel) rfl
set_option maxRecDepth 20000 in
theorem kw_760 : Cond.fieldLink RX12 7 "WalkedRoundsModel" "kinds" "[I" ∈ KW := kw_of (i := 760) (by decide +kernel) rfl
set_option maxRecDepth 20000 in
theorem kw_761 : Cond.fieldLink RX12 13 "WalkedRoundsModel" "partA" "[I" ∈ KW := kw_of (i := 761) (by decide +kernel) rfl
set_option maxRecDepth 20000 in
theorem kw_762 : Cond.fieldLink RX12 16 "WalkedRoundsModel" "partB" "[I" ∈ KW := kw_of (i := 762) (by decide +kernel) rfl
set_option maxRecDepth 20000 in
theorem kw_763 : Cond.fieldLink RX12 19 "WalkedRoundsModel" "partC" "[I" ∈ KW := kw_of (i := 763) (by decide +kernel) rfl
set_option maxRecDepth 20000 in
theorem kw_764 : Cond.fieldLink RX12 22 "WalkedRoundsModel" "numbers" "[J" ∈ KW := kw_of (i := 764) (by decide +kernel) rfl
set_option maxRecDepth 20000 in
theorem kw_765 : Cond.fieldLink RX12 116 "WalkedRoundsModel" "nodes" "I" ∈ KW := kw_of (i := 765) (by decide +kernel) rfl
set_option maxRecDepth 20000 in
theorem kw_766 : Cond.fieldLink RX12 26 "WalkedRoundsModel" "states" "[J" ∈ KW := kw_of (i := 766) (by decide +kernel) rfl
set_option maxRecDepth 20000 in
theorem kw_767 : Cond.fieldLink RX12 29 "WalkedRoundsModel" "awake" "[Z" ∈ KW := kw_of (i := 767) (by decide +kernel) rfl
set_option maxRecDepth 20000 in
theorem kw_768 : Cond.fieldLink RX12 119 "WalkedRoundsModel" "arcs" "I" ∈ KW := kw_of (i := 768) (by decide +kernel) rfl
set_option maxRecDepth 20000 in
theorem kw_769 : Cond.fieldLink RX12 33 "WalkedRoundsModel" "from" "[I" ∈ KW := kw_of (i := 769) (by decide +kernel) rfl
set_option maxRecDepth 20000 in
theorem kw_770 : Cond.fieldLink RX12 36 "WalkedRoundsModel" "to" "[I" ∈ KW := kw_of (i := 770) (by decide +kernel) rfl
set_option maxRecDepth 20000 in
theorem kw_771 : Cond.fieldLink RX12 39 "WalkedRoundsModel" "weights" "[J" ∈ KW := kw_of (i := 771) (by decide +kernel) rfl
set_option maxRecDepth 20000 in
theorem kw_772 : Cond.fieldLink RX12 42 "WalkedRoundsModel" "acts" "[I" ∈ KW := kw_of (i := 772) (by decide +kernel) rfl
set_option maxRecDepth 20000 in
theorem kw_773 : Cond.fieldLink RX12 134 "WalkedRoundsModel" "fold" "I" ∈ KW := kw_of (i := 773) (by decide +kernel) rfl
set_option maxRecDepth 20000 in
theorem kw_774 : Cond.fieldLink RX12 182 "WalkedRoundsModel" "whole" "J" ∈ KW := kw_of (i := 774) (by decide +kernel) rfl
set_option maxRecDepth 20000 in
theorem kw_775 : Cond.fieldLink RX12 175 "WalkedRoundsModel" "rounds" "I" ∈ KW := kw_of (i := 775) (by decide +kernel) rfl
set_option maxRecDepth 20000 in
theorem kw_776 : Cond.fieldLink RX12 162 "WalkedRoundsModel" "steps" "I" ∈ KW := kw_of (i := 776) (by decide +kernel) rfl
set_option maxRecDepth 20000 in
theorem kw_777 : Cond.fieldLink RX12 45 "WalkedRoundsModel" "failed" "[I" ∈ KW := kw_of (i := 777) (by decide +kernel) rfl
set_option maxRecDepth 20000 in
theorem kw_778 : Cond.fieldLink RX12 267 "WalkedRoundsModel" "why" "I" ∈ KW := kw_of (i := 778) (by decide +kernel) rfl
set_option maxRecDepth 20000 in
theorem kw_779 : Cond.fieldLink RX12 128 "WalkedRoundsModel" "kept" "I" ∈ KW := kw_of (i := 779) (by decide +kernel) rfl
set_option maxRecDepth 20000 in
theorem kw_780 : Cond.fieldLink RX12 48 "WalkedRoundsModel" "oldStates" "[J" ∈ KW := kw_of (i := 780) (by decide +kernel) rfl
set_option maxRecDepth 20000 in
theorem kw_781 : Cond.fieldLink RX12 51 "WalkedRoundsModel" "oldAwake" "[Z" ∈ KW := kw_of (i := 781) (by decide +kernel) rfl
set_option maxRecDepth 20000 in
theorem kw_782 : Cond.fieldLink RX12 54 "WalkedRoundsModel" "oldWhole" "[J" ∈ KW := kw_of (i := 782) (by decide +kernel) rfl
set_option maxRecDepth 20000 in
theorem kw_783 : Cond.fieldLink RX12 57 "WalkedRoundsModel" "oldRounds" "[I" ∈ KW := kw_of (i := 783) (by decide +kernel) rfl
set_option maxRecDepth 20000 in
theorem kw_784 : Cond.fieldLink RX12 246 "WalkedRoundsModel" "told" "I" ∈ KW := kw_of (i := 784) (by decide +kernel) rfl
set_option maxRecDepth 20000 in
theorem kw_785 : Cond.fieldLink RX12 60 "WalkedRoundsModel" "toldArcs" "[I" ∈ KW := kw_of (i := 785) (by decide +kernel) rfl
set_option maxRecDepth 20000 in
theorem kw_786 : Cond.fieldLink RX12 63 "WalkedRoundsModel" "toldMessages" "[J" ∈ KW := kw_of (i := 786) (by decide +kernel) rfl
set_option maxRecDepth 20000 in
theorem kw_787 : Cond.fieldLink RX12 137 "WalkedRoundsModel" "top" "I" ∈ KW := kw_of (i := 787) (by decide +kernel) rfl
set_option maxRecDepth 20000 in
theorem kw_788 : Cond.fieldLink RX12 66 "WalkedRoundsModel" "pile" "[I" ∈ KW := kw_of (i := 788) (by decide +kernel) rfl
set_option maxRecDepth 20000 in
theorem kw_789 : Cond.fieldLink RX12 69 "WalkedRoundsModel" "stage" "[I" ∈ KW := kw_of (i := 789) (by decide +kernel) rfl
set_option maxRecDepth 20000 in
theorem kw_790 : Cond.fieldLink RX12 72 "WalkedRoundsModel" "first" "[J" ∈ KW := kw_of (i := 790) (by decide +kernel) rfl
set_option maxRecDepth 20000 in
theorem kw_791 : Cond.fieldLink RX12 165 "WalkedRoundsModel" "came" "J" ∈ KW := kw_of (i := 791) (by decide +kernel) rfl
set_option maxRecDepth 20000 in
theorem kw_792 : Cond.fieldLink RX12 146 "WalkedRoundsModel" "fails" "I" ∈ KW := kw_of (i := 792) (by decide +kernel) rfl
set_option maxRecDepth 20000 in
theorem kw_793 : Cond.fieldLink RX12 159 "WalkedRoundsModel" "spent" "I" ∈ KW := kw_of (i := 793) (by decide +kernel) rfl
set_option maxRecDepth 20000 in
theorem kw_794 : Cond.fieldLink RX12 140 "WalkedRoundsModel" "atNode" "I" ∈ KW := kw_of (i := 794) (by decide +kernel) rfl
set_option maxRecDepth 20000 in
theorem kw_795 : Cond.fieldLink RX12 143 "WalkedRoundsModel" "atArc" "I" ∈ KW := kw_of (i := 795) (by decide +kernel) rfl
set_option maxRecDepth 20000 in
theorem kw_796 : Cond.fieldLink RX12 169 "WalkedRoundsModel" "folded" "J" ∈ KW := kw_of (i := 796) (by decide +kernel) rfl
set_option maxRecDepth 20000 in
theorem kw_797 : Cond.fieldLink RX12 172 "WalkedRoundsModel" "many" "I" ∈ KW := kw_of (i := 797) (by decide +kernel) rfl
set_option maxRecDepth 20000 in
theorem kw_798 : Cond.fieldLink RX12 75 "WalkedRoundsModel" "goes" "[Z" ∈ KW := kw_of (i := 798) (by decide +kernel) rfl
set_option maxRecDepth 20000 in
theorem kw_799 : Cond.fieldLink RX12 78 "WalkedRoundsModel" "messages" "[J" ∈ KW := kw_of (i := 799) (by decide +kernel) rfl
set_option maxRecDepth 20000 in
theorem kw_800 : Cond.fieldLink RX12 214 "WalkedRoundsModel" "sent" "I" ∈ KW := kw_of (i := 800) (by decide +kernel) rfl
set_option maxRecDepth 20000 in
theorem kw_801 : Cond.fieldLink RX12 81 "WalkedRoundsModel" "sentArcs" "[I" ∈ KW := kw_of (i := 801) (by decide +kernel) rfl
set_option maxRecDepth 20000 in
theorem kw_802 : Cond.fieldLink RX12 197 "WalkedRoundsModel" "sends" "Z" ∈ KW := kw_of (i := 802) (by decide +kernel) rfl
set_option maxRecDepth 20000 in
theorem kw_803 : Cond.fieldLink RX12 204 "WalkedRoundsModel" "message" "J" ∈ KW := kw_of (i := 803) (by decide +kernel) rfl
set_option maxRecDepth 20000 in
theorem kw_804 : Cond.fieldLink RX12 84 "WalkedRoundsModel" "newStates" "[J" ∈ KW := kw_of (i := 804) (by decide +kernel) rfl
set_option maxRecDepth 20000 in
theorem kw_805 : Cond.fieldLink RX12 87 "WalkedRoundsModel" "newAwake" "[Z" ∈ KW := kw_of (i := 805) (by decide +kernel) rfl
set_option maxRecDepth 20000 in
theorem kw_806 : Cond.fieldLink RX12 90 "WalkedRoundsModel" "beforeStates" "[J" ∈ KW := kw_of (i := 806) (by decide +kernel) rfl
set_option maxRecDepth 20000 in
theorem kw_807 : Cond.fieldLink RX12 93 "WalkedRoundsModel" "beforeAwake" "[Z" ∈ KW := kw_of (i := 807) (by decide +kernel) rfl
set_option maxRecDepth 20000 in
theorem kw_808 : Cond.fieldLink RX12 249 "WalkedRoundsModel" "waiting" "I" ∈ KW := kw_of (i := 808) (by decide +kernel) rfl
set_option maxRecDepth 20000 in
theorem kw_809 : Cond.fieldLink RX12 96 "WalkedRoundsModel" "lineArcs" "[I" ∈ KW := kw_of (i := 809) (by decide +kernel) rfl
set_option maxRecDepth 20000 in
theorem kw_810 : Cond.fieldLink RX12 99 "WalkedRoundsModel" "line" "[J" ∈ KW := kw_of (i := 810) (by decide +kernel) rfl
set_option maxRecDepth 20000 in
theorem kw_811 : Cond.fieldLink RX12 102 "WalkedRoundsModel" "takenStates" "[J" ∈ KW := kw_of (i := 811) (by decide +kernel) rfl
set_option maxRecDepth 20000 in
theorem kw_923 : Cond.methodLink RX12 112 yX12_in ∈ KW := kw_of (i := 923) (by decide +kernel) rfl
set_option maxRecDepth 20000 in
theorem kw_924 : Cond.static yX12_in ∈ KW := kw_of (i := 924) (by decide +kernel) rfl
set_option maxRecDepth 20000 in
theorem kw_925 : Cond.code yX12_in cX12_in 3 (some .boolean) ∈ KW := kw_of (i := 925) rfl rfl
set_option maxRecDepth 20000 in
theorem kw_926 : Cond.methodLink RX12 122 yX12_isTerm ∈ KW := kw_of (i := 926) (by decide +kernel) rfl
set_option maxRecDepth 20000 in
theorem kw_928 : Cond.instanceMethod yX12_isTerm ∈ KW := kw_of (i := 928) (by decide +kernel) rfl
set_option maxRecDepth 20000 in
theorem kw_929 : Cond.code yX12_isTerm cX12_isTerm 2 (some .boolean) ∈ KW := kw_of (i := 929) rfl rfl
set_option maxRecDepth 20000 in
theorem kw_930 : Cond.constantLong RX12 126 2 ∈ KW := kw_of (i := 930) (by decide +kernel) rfl
set_option maxRecDepth 20000 in
theorem kw_939 : Cond.methodLink RX12 131 yX12_isNode ∈ KW := kw_of (i := 939) (by decide +kernel) rfl
set_option maxRecDepth 20000 in
theorem kw_941 : Cond.instanceMethod yX12_isNode ∈ KW := kw_of (i := 941) (by decide +kernel) rfl
set_option maxRecDepth 20000 in
theorem kw_942 : Cond.code yX12_isNode cX12_isNode 2 (some .boolean) ∈ KW := kw_of (i := 942) rfl rfl
set_option maxRecDepth 20000 in
theorem kw_963 : Cond.methodLink RX12 258 yX12_walk ∈ KW := kw_of (i := 963) (by decide +kernel) rfl
set_option maxRecDepth 20000 in
theorem kw_965 : Cond.instanceMethod yX12_walk ∈ KW := kw_of (i := 965) (by decide +kernel) rfl
set_option maxRecDepth 20000 in
theorem kw_966 : Cond.code yX12_walk cX12_walk 3 (some .int) ∈ KW := kw_of (i := 966) rfl rfl
set_option maxRecDepth 20000 in
theorem kw_967 : Cond.methodLink RX12 227 yX12_remember ∈ KW := kw_of (i := 967) (by decide +kernel) rfl
set_option maxRecDepth 20000 in
theorem kw_969 : Cond.instanceMethod yX12_remember ∈ KW := kw_of (i := 969) (by decide +kernel) rfl
set_option maxRecDepth 20000 in
theorem kw_970 : Cond.code yX12_remember cX12_remember 2 none ∈ KW := kw_of (i := 970) rfl rfl
set_option maxRecDepth 20000 in
theorem kw_971 : Cond.methodLink RX12 210 yX12_isFailed ∈ KW := kw_of (i := 971) (by decide +kernel) rfl
set_option maxRecDepth 20000 in
theorem kw_973 : Cond.instanceMethod yX12_isFailed ∈ KW := kw_of (i := 973) (by decide +kernel) rfl
set_option maxRecDepth 20000 in
theorem kw_974 : Cond.code yX12_isFailed cX12_isFailed 1 (some .boolean) ∈ KW := kw_of (i := 974) rfl rfl
set_option maxRecDepth 20000 in
theorem kw_975 : Cond.methodLink RX12 252 yX12_sendsOn ∈ KW := kw_of (i := 975) (by decide +kernel) rfl
set_option maxRecDepth 20000 in
theorem kw_977 : Cond.instanceMethod yX12_sendsOn ∈ KW := kw_of (i := 977) (by decide +kernel) rfl
set_option maxRecDepth 20000 in
theorem kw_978 : Cond.code yX12_sendsOn cX12_sendsOn 3 none ∈ KW := kw_of (i := 978) rfl rfl
set_option maxRecDepth 20000 in
theorem kw_979 : Cond.methodLink RX12 207 yX12_askArc ∈ KW := kw_of (i := 979) (by decide +kernel) rfl
set_option maxRecDepth 20000 in
theorem kw_981 : Cond.instanceMethod yX12_askArc ∈ KW := kw_of (i := 981) (by decide +kernel) rfl
set_option maxRecDepth 20000 in
theorem kw_982 : Cond.code yX12_askArc cX12_askArc 2 none ∈ KW := kw_of (i := 982) rfl rfl
set_option maxRecDepth 20000 in
theorem kw_983 : Cond.methodLink RX12 201 yX12_does ∈ KW := kw_of (i := 983) (by decide +kernel) rfl
set_option maxRecDepth 20000 in
theorem kw_985 : Cond.instanceMethod yX12_does ∈ KW := kw_of (i := 985) (by decide +kernel) rfl
set_option maxRecDepth 20000 in
theorem kw_986 : Cond.code yX12_does cX12_does 5 (some .boolean) ∈ KW := kw_of (i := 986) rfl rfl
set_option maxRecDepth 20000 in
theorem kw_987 : Cond.methodLink RX12 189 yX12_asked ∈ KW := kw_of (i := 987) (by decide +kernel) rfl
set_option maxRecDepth 20000 in
theorem kw_989 : Cond.instanceMethod yX12_asked ∈ KW := kw_of (i := 989) (by decide +kernel) rfl
set_option maxRecDepth 20000 in
theorem kw_990 : Cond.code yX12_asked cX12_asked 6 (some .int) ∈ KW := kw_of (i := 990) rfl rfl
set_option maxRecDepth 20000 in
theorem kw_991 : Cond.methodLink RX12 149 yX12_push ∈ KW := kw_of (i := 991) (by decide +kernel) rfl
set_option maxRecDepth 20000 in
theorem kw_993 : Cond.instanceMethod yX12_push ∈ KW := kw_of (i := 993) (by decide +kernel) rfl
set_option maxRecDepth 20000 in
theorem kw_994 : Cond.code yX12_push cX12_push 2 none ∈ KW := kw_of (i := 994) rfl rfl
set_option maxRecDepth 20000 in
theorem kw_995 : Cond.methodLink RX12 153 yX12_begins ∈ KW := kw_of (i := 995) (by decide +kernel) rfl
set_option maxRecDepth 20000 in
theorem kw_997 : Cond.instanceMethod yX12_begins ∈ KW := kw_of (i := 997) (by decide +kernel) rfl
set_option maxRecDepth 20000 in
theorem kw_998 : Cond.code yX12_begins cX12_begins 3 (some .boolean) ∈ KW := kw_of (i := 998) rfl rfl
set_option maxRecDepth 20000 in
theorem kw_999 : Cond.methodLink RX12 178 yX12_arcsFrom ∈ KW := kw_of (i := 999) (by decide +kernel) rfl
set_option maxRecDepth 20000 in
theorem kw_1001 : Cond.instanceMethod yX12_arcsFrom ∈ KW := kw_of (i := 1001) (by decide +kernel) rfl
set_option maxRecDepth 20000 in
theorem kw_1002 : Cond.code yX12_arcsFrom cX12_arcsFrom 4 (some .int) ∈ KW := kw_of (i := 1002) rfl rfl
set_option maxRecDepth 20000 in
theorem kw_1003 : Cond.methodLink RX12 156 yX12_goesOn ∈ KW := kw_of (i := 1003) (by decide +kernel) rfl
set_option maxRecDepth 20000 in
theorem kw_1005 : Cond.instanceMethod yX12_goesOn ∈ KW := kw_of (i := 1005) (by decide +kernel) rfl
set_option maxRecDepth 20000 in
theorem kw_1006 : Cond.code yX12_goesOn cX12_goesOn 5 (some .boolean) ∈ KW := kw_of (i := 1006) rfl rfl
set_option maxRecDepth 20000 in
theorem kw_1007 : Cond.methodLink RX12 185 yX12_joined ∈ KW := kw_of (i := 1007) (by decide +kernel) rfl
set_option maxRecDepth 20000 in
theorem kw_1009 : Cond.instanceMethod yX12_joined ∈ KW := kw_of (i := 1009) (by decide +kernel) rfl
set_option maxRecDepth 20000 in
theorem kw_1010 : Cond.code yX12_joined cX12_joined 6 (some .long) ∈ KW := kw_of (i := 1010) rfl rfl
set_option maxRecDepth 20000 in
theorem kw_1011 : Cond.methodLink RX12 193 yX12_note ∈ KW := kw_of (i := 1011) (by decide +kernel) rfl
set_option maxRecDepth 20000 in
theorem kw_1013 : Cond.instanceMethod yX12_note ∈ KW := kw_of (i := 1013) (by decide +kernel) rfl
set_option maxRecDepth 20000 in
theorem kw_1014 : Cond.code yX12_note cX12_note 5 none ∈ KW := kw_of (i := 1014) rfl rfl
set_option maxRecDepth 20000 in
theorem kw_1015 : Cond.methodLink RX12 255 yX12_takes ∈ KW := kw_of (i := 1015) (by decide +kernel) rfl
set_option maxRecDepth 20000 in
theorem kw_1017 : Cond.instanceMethod yX12_takes ∈ KW := kw_of (i := 1017) (by decide +kernel) rfl
set_option maxRecDepth 20000 in
theorem kw_1018 : Cond.code yX12_takes cX12_takes 8 (some .boolean) ∈ KW := kw_of (i := 1018) rfl rfl
set_option maxRecDepth 20000 in
theorem kw_1019 : Cond.methodLink RX12 242 yX12_keep ∈ KW := kw_of (i := 1019) (by decide +kernel) rfl
set_option maxRecDepth 20000 in
theorem kw_1021 : Cond.instanceMethod yX12_keep ∈ KW := kw_of (i := 1021) (by decide +kernel) rfl
set_option maxRecDepth 20000 in
theorem kw_1022 : Cond.code yX12_keep cX12_keep 6 none ∈ KW := kw_of (i := 1022) rfl rfl
set_option maxRecDepth 20000 in
theorem kw_1023 : Cond.methodLink RX12 261 yX12_isAnyAwake ∈ KW := kw_of (i := 1023) (by decide +kernel) rfl
set_option maxRecDepth 20000 in
theorem kw_1025 : Cond.instanceMethod yX12_isAnyAwake ∈ KW := kw_of (i := 1025) (by decide +kernel) rfl
set_option maxRecDepth 20000 in
theorem kw_1026 : Cond.code yX12_isAnyAwake cX12_isAnyAwake 3 (some .boolean) ∈ KW := kw_of (i := 1026) rfl rfl
set_option maxRecDepth 20000 in
theorem kw_1027 : Cond.methodLink RX12 264 yX12_round ∈ KW := kw_of (i := 1027) (by decide +kernel) rfl
set_option maxRecDepth 20000 in
theorem kw_1029 : Cond.instanceMethod yX12_round ∈ KW := kw_of (i := 1029) (by decide +kernel) rfl
set_option maxRecDepth 20000 in
theorem kw_1030 : Cond.code yX12_round cX12_round 5 (some .boolean) ∈ KW := kw_of (i := 1030) rfl rfl
set_option maxRecDepth 20000 in
theorem kw_1031 : Cond.methodLink RX12 230 yX12_sendAll ∈ KW := kw_of (i := 1031) (by decide +kernel) rfl
set_option maxRecDepth 20000 in
theorem kw_1033 : Cond.instanceMethod yX12_sendAll ∈ KW := kw_of (i := 1033) (by decide +kernel) rfl
set_option maxRecDepth 20000 in
theorem kw_1034 : Cond.code yX12_sendAll cX12_sendAll 5 none ∈ KW := kw_of (i := 1034) rfl rfl
set_option maxRecDepth 20000 in
theorem kw_1035 : Cond.methodLink RX12 217 yX12_sendAlong ∈ KW := kw_of (i := 1035) (by decide +kernel) rfl
set_option maxRecDepth 20000 in
theorem kw_1037 : Cond.instanceMethod yX12_sendAlong ∈ KW := kw_of (i := 1037) (by decide +kernel) rfl
set_option maxRecDepth 20000 in
theorem kw_1038 : Cond.code yX12_sendAlong cX12_sendAlong 2 none ∈ KW := kw_of (i := 1038) rfl rfl
set_option maxRecDepth 20000 in
theorem kw_1039 : Cond.methodLink RX12 233 yX12_isReached ∈ KW := kw_of (i := 1039) (by decide +kernel) rfl
set_option maxRecDepth 20000 in
theorem kw_1041 : Cond.instanceMethod yX12_isReached ∈ KW := kw_of (i := 1041) (by decide +kernel) rfl
set_option maxRecDepth 20000 in
theorem kw_1042 : Cond.code yX12_isReached cX12_isReached 4 (some .boolean) ∈ KW := kw_of (i := 1042) rfl rfl
set_option maxRecDepth 20000 in
theorem kw_1043 : Cond.methodLink RX12 236 yX12_renew ∈ KW := kw_of (i := 1043) (by decide +kernel) rfl
set_option maxRecDepth 20000 in
theorem kw_1045 : Cond.instanceMethod yX12_renew ∈ KW := kw_of (i := 1045) (by decide +kernel) rfl
set_option maxRecDepth 20000 in
theorem kw_1046 : Cond.code yX12_renew cX12_renew 3 none ∈ KW := kw_of (i := 1046) rfl rfl
set_option maxRecDepth 20000 in
theorem kw_1047 : Cond.methodLink RX12 224 yX12_foldFor ∈ KW := kw_of (i := 1047) (by decide +kernel) rfl
set_option maxRecDepth 20000 in
theorem kw_1049 : Cond.instanceMethod yX12_foldFor ∈ KW := kw_of (i := 1049) (by decide +kernel) rfl
set_option maxRecDepth 20000 in
theorem kw_1050 : Cond.code yX12_foldFor cX12_foldFor 5 none ∈ KW := kw_of (i := 1050) rfl rfl
set_option maxRecDepth 20000 in
theorem kw_1051 : Cond.methodLink RX12 220 yX12_isOver ∈ KW := kw_of (i := 1051) (by decide +kernel) rfl
set_option maxRecDepth 20000 in
theorem kw_1053 : Cond.instanceMethod yX12_isOver ∈ KW := kw_of (i := 1053) (by decide +kernel) rfl
set_option maxRecDepth 20000 in
theorem kw_1054 : Cond.code yX12_isOver cX12_isOver 7 (some .boolean) ∈ KW := kw_of (i := 1054) rfl rfl
set_option maxRecDepth 20000 in
theorem kw_1055 : Cond.methodLink RX12 239 yX12_asBefore ∈ KW := kw_of (i := 1055) (by decide +kernel) rfl
set_option maxRecDepth 20000 in
theorem kw_1057 : Cond.instanceMethod yX12_asBefore ∈ KW := kw_of (i := 1057) (by decide +kernel) rfl
set_option maxRecDepth 20000 in
theorem kw_1058 : Cond.code yX12_asBefore cX12_asBefore 2 none ∈ KW := kw_of (i := 1058) rfl rfl
set_option maxRecDepth 20000 in
theorem kw_1071 : Cond.methodLink RX12 270 yX12_isArc ∈ KW := kw_of (i := 1071) (by decide +kernel) rfl
set_option maxRecDepth 20000 in
theorem kw_1073 : Cond.instanceMethod yX12_isArc ∈ KW := kw_of (i := 1073) (by decide +kernel) rfl
set_option maxRecDepth 20000 in
theorem kw_1074 : Cond.code yX12_isArc cX12_isArc 2 (some .boolean) ∈ KW := kw_of (i := 1074) rfl rfl
set_option maxRecDepth 20000 in
theorem kw_1075 : Cond.constantLong RX12 273 (-101) ∈ KW := kw_of (i := 1075) (by decide +kernel) rfl
set_option maxRecDepth 20000 in
theorem kw_1084 : Cond.constantLong RX12 275 (-102) ∈ KW := kw_of (i := 1084) (by decide +kernel) rfl
set_option maxRecDepth 20000 in
theorem inK_X0 : ∀ w ∈ u_ws RX0 TX0 4, w ∈ KW := kw_all [317, 319, 321, 323] (by decide +kernel) (by decide +kernel)
set_option maxRecDepth 20000 in
theorem inK_X1 : ∀ w ∈ u_ws RX1 TX1 7, w ∈ KW := kw_all [285, 287, 289, 291, 293, 295, 297] (by decide +kernel) (by decide +kernel)
set_option maxRecDepth 20000 in
theorem inK_X2 : ∀ w ∈ u_ws RX2 TX2 5, w ∈ KW := kw_all [202, 204, 206, 208, 210] (by decide +kernel) (by decide +kernel)
set_option maxRecDepth 20000 in
theorem inK_X3 : ∀ w ∈ u_ws RX3 TX3 11, w ∈ KW := kw_all [386, 388, 390, 392, 394, 396, 398, 400, 402, 404, 406] (by decide +kernel) (by decide +kernel)
set_option maxRecDepth 20000 in
theorem inK_X4 : ∀ w ∈ u_ws RX4 TX4 4, w ∈ KW := kw_all [230, 232, 234, 236] (by decide +kernel) (by decide +kernel)
set_option maxRecDepth 20000 in
theorem inK_X5 : ∀ w ∈ u_ws RX5 TX5 3, w ∈ KW := kw_all [243, 245, 247] (by decide +kernel) (by decide +kernel)
set_option maxRecDepth 20000 in
theorem inK_X6 : ∀ w ∈ u_ws RX6 TX6 2, w ∈ KW := kw_all [186, 188] (by decide +kernel) (by decide +kernel)
set_option maxRecDepth 20000 in
theorem inK_X7 : ∀ w ∈ u_ws RX7 TX7 12, w ∈ KW := kw_all [344, 346, 348, 350, 352, 354, 356, 358, 360, 362, 364, 366] (by decide +kernel) (by decide +kernel)
set_option maxRecDepth 20000 in
theorem inK_X8 : ∀ w ∈ u_ws RX8 TX8 6, w ∈ KW := kw_all [93, 95, 97, 99, 101, 103] (by decide +kernel) (by decide +kernel)
set_option maxRecDepth 20000 in
theorem inK_X9 : ∀ w ∈ u_ws RX9 TX9 3, w ∈ KW := kw_all [262, 264, 266] (by decide +kernel) (by decide +kernel)
set_option maxRecDepth 20000 in
theorem inK_X10 : ∀ w ∈ u_ws RX10 TX10 10, w ∈ KW := kw_all [153, 155, 157, 159, 161, 163, 165, 167, 169, 171] (by decide +kernel) (by decide +kernel)
set_option maxRecDepth 20000 in
theorem inK_X11 : ∀ w ∈ u_ws RX11 TX11 11, w ∈ KW := kw_all [420, 422, 424, 426, 428, 430, 432, 434, 436, 438, 440] (by decide +kernel) (by decide +kernel)
set_option maxRecDepth 20000 in
theorem inK_X12 : ∀ w ∈ u_ws RX12 TX12 53, w ∈ KW := kw_all [812, 814, 816, 818, 820, 822, 824, 826, 828, 830, 832, 834, 836, 838, 840, 842, 844, 846, 848, 850, 852, 854, 856, 858, 860, 862, 864, 866, 868, 870, 872, 874, 876, 878, 880, 882, 884, 886, 888, 890, 892, 894, 896, 898, 900, 902, 904, 906, 908, 910, 912, 914, 916] (by decide +kernel) (by decide +kernel)
end
section
def c_w (kA : Nat → ClassId) (ad : Nat → Nat) (σ : RS) : va_W := [(ad 0, .inr (11, [.ref (ad 1), .ref (ad 7), .ref (ad 14), .ref (ad 16), .ref (ad 17), .ref (ad 19), .ref (ad 22), .ref (ad 23), .ref (ad 24), .ref (ad 31), .int (rg_I σ 0)])),
  (ad 1, .inr (8, [.ref (ad 2), .ref (ad 3), .ref (ad 4), .ref (ad 5), .ref (ad 6), .int (rg_I σ 1)])),
  (ad 2, .inl (kA 0, 40, .inl (rg_A σ 0))),
  (ad 3, .inl (kA 0, 40, .inl (rg_A σ 1))),
  (ad 4, .inl (kA 0, 40, .inl (rg_A σ 2))),
  (ad 5, .inl (kA 0, 40, .inl (rg_A σ 3))),
  (ad 6, .inl (kA 1, 40, .inr (.inl (rg_B σ 0)))),
  (ad 7, .inr (10, [.ref (ad 8), .ref (ad 9), .ref (ad 10), .ref (ad 11), .ref (ad 12), .ref (ad 13), .int (rg_I σ 2), .int (rg_I σ 3), .int (rg_I σ 4), .long (rg_L σ 0)])),
  (ad 8, .inl (kA 1, 36, .inr (.inl (rg_B σ 1)))),
  (ad 9, .inl (kA 2, 12, .inl (rg_A σ 4))),
  (ad 10, .inl (kA 0, 12, .inl (rg_A σ 5))),
  (ad 11, .inl (kA 0, 40, .inl (rg_A σ 6))),
  (ad 12, .inl (kA 0, 40, .inl (rg_A σ 7))),
  (ad 13, .inl (kA 1, 40, .inr (.inl (rg_B σ 2)))),
  (ad 14, .inr (6, [.ref (ad 15), .int (rg_I σ 5)])),
  (ad 15, .inl (kA 0, 7, .inl (rg_A σ 8))),
  (ad 16, .inr (2, [.int (rg_I σ 6), .int (rg_I σ 7), .int (rg_I σ 8), .int (rg_I σ 9), .int (rg_I σ 10)])),
  (ad 17, .inr (5, [.ref (ad 18), .int (rg_I σ 11), .int (rg_I σ 12)])),
  (ad 18, .inl (kA 3, 7, .inr (.inr (.inr (.inr (fun j => some (ad (36 + 3 * j)))))))),
  (ad 19, .inr (9, [.ref (ad 20), .ref (ad 21), .int (rg_I σ 13)])),
  (ad 20, .inl (kA 0, 200, .inl (rg_A σ 9))),
  (ad 21, .inl (kA 1, 200, .inr (.inl (rg_B σ 3)))),
  (ad 22, .inr (1, [.ref (ad 1), .ref (ad 7), .int (rg_I σ 14), .int (rg_I σ 15), .long (rg_L σ 1), .int (rg_I σ 16), .int (rg_I σ 17)])),
  (ad 23, .inr (0, [.ref (ad 7), .ref (ad 14), .ref (ad 22), .ref (ad 16)])),
  (ad 24, .inr (7, [.ref (ad 7), .ref (ad 23), .ref (ad 16), .ref (ad 17), .ref (ad 19), .ref (ad 25), .ref (ad 26), .ref (ad 27), .ref (ad 28), .ref (ad 29), .ref (ad 30), .int (rg_I σ 18)])),
  (ad 25, .inl (kA 0, 40, .inl (rg_A σ 10))),
  (ad 26, .inl (kA 2, 40, .inl (rg_A σ 11))),
  (ad 27, .inl (kA 1, 40, .inr (.inl (rg_B σ 4)))),
  (ad 28, .inl (kA 2, 12, .inl (rg_A σ 12))),
  (ad 29, .inl (kA 2, 12, .inl (rg_A σ 13))),
  (ad 30, .inl (kA 1, 36, .inr (.inl (rg_B σ 5)))),
  (ad 31, .inr (3, [.ref (ad 7), .ref (ad 23), .ref (ad 16), .ref (ad 17), .ref (ad 19), .ref (ad 32), .ref (ad 33), .ref (ad 34), .ref (ad 35), .int (rg_I σ 19), .int (rg_I σ 20)])),
  (ad 32, .inl (kA 0, 60, .inl (rg_A σ 14))),
  (ad 33, .inl (kA 1, 60, .inr (.inl (rg_B σ 6)))),
  (ad 34, .inl (kA 1, 3, .inr (.inl (rg_B σ 7)))),
  (ad 35, .inl (kA 1, 3, .inr (.inl (rg_B σ 8)))),
  (ad 36, .inr (4, [.ref (ad 37), .ref (ad 38), .int (rg_I σ 21), .long (rg_L σ 2)])),
  (ad 37, .inl (kA 1, 36, .inr (.inl (rg_B σ 9)))),
  (ad 38, .inl (kA 2, 12, .inl (rg_A σ 15))),
  (ad 39, .inr (4, [.ref (ad 40), .ref (ad 41), .int (rg_I σ 22), .long (rg_L σ 3)])),
  (ad 40, .inl (kA 1, 36, .inr (.inl (rg_B σ 10)))),
  (ad 41, .inl (kA 2, 12, .inl (rg_A σ 16))),
  (ad 42, .inr (4, [.ref (ad 43), .ref (ad 44), .int (rg_I σ 23), .long (rg_L σ 4)])),
  (ad 43, .inl (kA 1, 36, .inr (.inl (rg_B σ 11)))),
  (ad 44, .inl (kA 2, 12, .inl (rg_A σ 17))),
  (ad 45, .inr (4, [.ref (ad 46), .ref (ad 47), .int (rg_I σ 24), .long (rg_L σ 5)])),
  (ad 46, .inl (kA 1, 36, .inr (.inl (rg_B σ 12)))),
  (ad 47, .inl (kA 2, 12, .inl (rg_A σ 18))),
  (ad 48, .inr (4, [.ref (ad 49), .ref (ad 50), .int (rg_I σ 25), .long (rg_L σ 6)])),
  (ad 49, .inl (kA 1, 36, .inr (.inl (rg_B σ 13)))),
  (ad 50, .inl (kA 2, 12, .inl (rg_A σ 19))),
  (ad 51, .inr (4, [.ref (ad 52), .ref (ad 53), .int (rg_I σ 26), .long (rg_L σ 7)])),
  (ad 52, .inl (kA 1, 36, .inr (.inl (rg_B σ 14)))),
  (ad 53, .inl (kA 2, 12, .inl (rg_A σ 20))),
  (ad 54, .inr (4, [.ref (ad 55), .ref (ad 56), .int (rg_I σ 27), .long (rg_L σ 8)])),
  (ad 55, .inl (kA 1, 36, .inr (.inl (rg_B σ 15)))),
  (ad 56, .inl (kA 2, 12, .inl (rg_A σ 21)))]
theorem c_D {kA : Nat → ClassId} {ad : Nat → Nat} (hap : jw_ap 57 ad) (σ : RS) : va_D (jw_A 57 ad) (c_w kA ad σ) := jw_D hap rfl
abbrev c_Qi (below : List Frame) (dC : Nat → ClassId) (dI : Nat → Nat → Nat) (kA : Nat → ClassId) (ad : Nat → Nat) (args : Array Value) (s : State) (res : Int32 × RS) : State → Prop := MQ below (va_Qi (fun r u => (r, u) = res) (fun u t => va_P (dC, dI) vwCl (c_w kA ad u) t.heap) (jw_A 57 ad)) args s 0 0 (jw_A 57 ad)
abbrev c_Ql (below : List Frame) (dC : Nat → ClassId) (dI : Nat → Nat → Nat) (kA : Nat → ClassId) (ad : Nat → Nat) (args : Array Value) (s : State) (res : Int64 × RS) : State → Prop := MQ below (va_Ql (fun r u => (r, u) = res) (fun u t => va_P (dC, dI) vwCl (c_w kA ad u) t.heap) (jw_A 57 ad)) args s 0 0 (jw_A 57 ad)
abbrev c_Qu (below : List Frame) (dC : Nat → ClassId) (dI : Nat → Nat → Nat) (kA : Nat → ClassId) (ad : Nat → Nat) (args : Array Value) (s : State) (res : RS) : State → Prop := MQ below (va_Qv (fun u => u = res) (fun u t => va_P (dC, dI) vwCl (c_w kA ad u) t.heap) (jw_A 57 ad)) args s 0 0 (jw_A 57 ad)
theorem c_lmem {kA : Nat → ClassId} {ad : Nat → Nat} {σ : RS} : ∀ {j : Nat}, j < 7 → (c_w kA ad σ)[36 + 3 * j]? = some (ad (36 + 3 * j), .inr (4, [.ref (ad (36 + 3 * j + 1)), .ref (ad (36 + 3 * j + 2)), .int (rg_I σ (21 + j)), .long (rg_L σ (2 + j))]))
  | 0, _ => rfl
  | 1, _ => rfl
  | 2, _ => rfl
  | 3, _ => rfl
  | 4, _ => rfl
  | 5, _ => rfl
  | 6, _ => rfl
  | j + 7, h => absurd h (by omega)
theorem c_lm1 {kA : Nat → ClassId} {ad : Nat → Nat} {σ : RS} : ∀ {j : Nat}, j < 7 → (c_w kA ad σ)[36 + 3 * j + 1]? = some (ad (36 + 3 * j + 1), .inl (kA 1, 36, .inr (.inl (rg_B σ (9 + j)))))
  | 0, _ => rfl
  | 1, _ => rfl
  | 2, _ => rfl
  | 3, _ => rfl
  | 4, _ => rfl
  | 5, _ => rfl
  | 6, _ => rfl
  | j + 7, h => absurd h (by omega)
theorem c_lm2 {kA : Nat → ClassId} {ad : Nat → Nat} {σ : RS} : ∀ {j : Nat}, j < 7 → (c_w kA ad σ)[36 + 3 * j + 2]? = some (ad (36 + 3 * j + 2), .inl (kA 2, 12, .inl (rg_A σ (15 + j))))
  | 0, _ => rfl
  | 1, _ => rfl
  | 2, _ => rfl
  | 3, _ => rfl
  | 4, _ => rfl
  | 5, _ => rfl
  | 6, _ => rfl
  | j + 7, h => absurd h (by omega)
theorem c_sm1 {kA : Nat → ClassId} {ad : Nat → Nat} {σ : RS} {f : Nat → Int64} : ∀ {j : Nat}, j < 7 → (c_w kA ad σ).set (36 + 3 * j + 1) (ad (36 + 3 * j + 1), .inl (kA 1, 36, .inr (.inl f))) = c_w kA ad (rs_B σ (9 + j) f)
  | 0, _ => rfl
  | 1, _ => rfl
  | 2, _ => rfl
  | 3, _ => rfl
  | 4, _ => rfl
  | 5, _ => rfl
  | 6, _ => rfl
  | j + 7, h => absurd h (by omega)
theorem c_sm2 {kA : Nat → ClassId} {ad : Nat → Nat} {σ : RS} {f : Nat → Int32} : ∀ {j : Nat}, j < 7 → (c_w kA ad σ).set (36 + 3 * j + 2) (ad (36 + 3 * j + 2), .inl (kA 2, 12, .inl f)) = c_w kA ad (rs_A σ (15 + j) f)
  | 0, _ => rfl
  | 1, _ => rfl
  | 2, _ => rfl
  | 3, _ => rfl
  | 4, _ => rfl
  | 5, _ => rfl
  | 6, _ => rfl
  | j + 7, h => absurd h (by omega)
theorem c_smI {kA : Nat → ClassId} {ad : Nat → Nat} {σ : RS} {v : Int32} : ∀ {j : Nat}, j < 7 → (c_w kA ad σ).set (36 + 3 * j) (ad (36 + 3 * j), .inr (4, [.ref (ad (36 + 3 * j + 1)), .ref (ad (36 + 3 * j + 2)), .int v, .long (rg_L σ (2 + j))])) = c_w kA ad (rs_I σ (21 + j) v)
  | 0, _ => rfl
  | 1, _ => rfl
  | 2, _ => rfl
  | 3, _ => rfl
  | 4, _ => rfl
  | 5, _ => rfl
  | 6, _ => rfl
  | j + 7, h => absurd h (by omega)
theorem c_smL {kA : Nat → ClassId} {ad : Nat → Nat} {σ : RS} {v : Int64} : ∀ {j : Nat}, j < 7 → (c_w kA ad σ).set (36 + 3 * j) (ad (36 + 3 * j), .inr (4, [.ref (ad (36 + 3 * j + 1)), .ref (ad (36 + 3 * j + 2)), .int (rg_I σ (21 + j)), .long v])) = c_w kA ad (rs_L σ (2 + j) v)
  | 0, _ => rfl
  | 1, _ => rfl
  | 2, _ => rfl
  | 3, _ => rfl
  | 4, _ => rfl
  | 5, _ => rfl
  | 6, _ => rfl
  | j + 7, h => absurd h (by omega)
theorem c_sA0 {kA : Nat → ClassId} {ad : Nat → Nat} {σ : RS} {f : Nat → Int32} : (c_w kA ad σ).set 2 (ad 2, .inl (kA 0, 40, .inl f)) = c_w kA ad (rs_A σ 0 f) := rfl
theorem c_sA1 {kA : Nat → ClassId} {ad : Nat → Nat} {σ : RS} {f : Nat → Int32} : (c_w kA ad σ).set 3 (ad 3, .inl (kA 0, 40, .inl f)) = c_w kA ad (rs_A σ 1 f) := rfl
theorem c_sA2 {kA : Nat → ClassId} {ad : Nat → Nat} {σ : RS} {f : Nat → Int32} : (c_w kA ad σ).set 4 (ad 4, .inl (kA 0, 40, .inl f)) = c_w kA ad (rs_A σ 2 f) := rfl
theorem c_sA3 {kA : Nat → ClassId} {ad : Nat → Nat} {σ : RS} {f : Nat → Int32} : (c_w kA ad σ).set 5 (ad 5, .inl (kA 0, 40, .inl f)) = c_w kA ad (rs_A σ 3 f) := rfl
theorem c_sB0 {kA : Nat → ClassId} {ad : Nat → Nat} {σ : RS} {f : Nat → Int64} : (c_w kA ad σ).set 6 (ad 6, .inl (kA 1, 40, .inr (.inl f))) = c_w kA ad (rs_B σ 0 f) := rfl
theorem c_sB1 {kA : Nat → ClassId} {ad : Nat → Nat} {σ : RS} {f : Nat → Int64} : (c_w kA ad σ).set 8 (ad 8, .inl (kA 1, 36, .inr (.inl f))) = c_w kA ad (rs_B σ 1 f) := rfl
theorem c_sA4 {kA : Nat → ClassId} {ad : Nat → Nat} {σ : RS} {f : Nat → Int32} : (c_w kA ad σ).set 9 (ad 9, .inl (kA 2, 12, .inl f)) = c_w kA ad (rs_A σ 4 f) := rfl
theorem c_sA5 {kA : Nat → ClassId} {ad : Nat → Nat} {σ : RS} {f : Nat → Int32} : (c_w kA ad σ).set 10 (ad 10, .inl (kA 0, 12, .inl f)) = c_w kA ad (rs_A σ 5 f) := rfl
theorem c_sA6 {kA : Nat → ClassId} {ad : Nat → Nat} {σ : RS} {f : Nat → Int32} : (c_w kA ad σ).set 11 (ad 11, .inl (kA 0, 40, .inl f)) = c_w kA ad (rs_A σ 6 f) := rfl
theorem c_sA7 {kA : Nat → ClassId} {ad : Nat → Nat} {σ : RS} {f : Nat → Int32} : (c_w kA ad σ).set 12 (ad 12, .inl (kA 0, 40, .inl f)) = c_w kA ad (rs_A σ 7 f) := rfl
theorem c_sB2 {kA : Nat → ClassId} {ad : Nat → Nat} {σ : RS} {f : Nat → Int64} : (c_w kA ad σ).set 13 (ad 13, .inl (kA 1, 40, .inr (.inl f))) = c_w kA ad (rs_B σ 2 f) := rfl
theorem c_sA8 {kA : Nat → ClassId} {ad : Nat → Nat} {σ : RS} {f : Nat → Int32} : (c_w kA ad σ).set 15 (ad 15, .inl (kA 0, 7, .inl f)) = c_w kA ad (rs_A σ 8 f) := rfl
theorem c_sA9 {kA : Nat → ClassId} {ad : Nat → Nat} {σ : RS} {f : Nat → Int32} : (c_w kA ad σ).set 20 (ad 20, .inl (kA 0, 200, .inl f)) = c_w kA ad (rs_A σ 9 f) := rfl
theorem c_sB3 {kA : Nat → ClassId} {ad : Nat → Nat} {σ : RS} {f : Nat → Int64} : (c_w kA ad σ).set 21 (ad 21, .inl (kA 1, 200, .inr (.inl f))) = c_w kA ad (rs_B σ 3 f) := rfl
theorem c_sA10 {kA : Nat → ClassId} {ad : Nat → Nat} {σ : RS} {f : Nat → Int32} : (c_w kA ad σ).set 25 (ad 25, .inl (kA 0, 40, .inl f)) = c_w kA ad (rs_A σ 10 f) := rfl
theorem c_sA11 {kA : Nat → ClassId} {ad : Nat → Nat} {σ : RS} {f : Nat → Int32} : (c_w kA ad σ).set 26 (ad 26, .inl (kA 2, 40, .inl f)) = c_w kA ad (rs_A σ 11 f) := rfl
theorem c_sB4 {kA : Nat → ClassId} {ad : Nat → Nat} {σ : RS} {f : Nat → Int64} : (c_w kA ad σ).set 27 (ad 27, .inl (kA 1, 40, .inr (.inl f))) = c_w kA ad (rs_B σ 4 f) := rfl
theorem c_sA12 {kA : Nat → ClassId} {ad : Nat → Nat} {σ : RS} {f : Nat → Int32} : (c_w kA ad σ).set 28 (ad 28, .inl (kA 2, 12, .inl f)) = c_w kA ad (rs_A σ 12 f) := rfl
theorem c_sA13 {kA : Nat → ClassId} {ad : Nat → Nat} {σ : RS} {f : Nat → Int32} : (c_w kA ad σ).set 29 (ad 29, .inl (kA 2, 12, .inl f)) = c_w kA ad (rs_A σ 13 f) := rfl
theorem c_sB5 {kA : Nat → ClassId} {ad : Nat → Nat} {σ : RS} {f : Nat → Int64} : (c_w kA ad σ).set 30 (ad 30, .inl (kA 1, 36, .inr (.inl f))) = c_w kA ad (rs_B σ 5 f) := rfl
theorem c_sA14 {kA : Nat → ClassId} {ad : Nat → Nat} {σ : RS} {f : Nat → Int32} : (c_w kA ad σ).set 32 (ad 32, .inl (kA 0, 60, .inl f)) = c_w kA ad (rs_A σ 14 f) := rfl
theorem c_sB6 {kA : Nat → ClassId} {ad : Nat → Nat} {σ : RS} {f : Nat → Int64} : (c_w kA ad σ).set 33 (ad 33, .inl (kA 1, 60, .inr (.inl f))) = c_w kA ad (rs_B σ 6 f) := rfl
theorem c_sB7 {kA : Nat → ClassId} {ad : Nat → Nat} {σ : RS} {f : Nat → Int64} : (c_w kA ad σ).set 34 (ad 34, .inl (kA 1, 3, .inr (.inl f))) = c_w kA ad (rs_B σ 7 f) := rfl
theorem c_sB8 {kA : Nat → ClassId} {ad : Nat → Nat} {σ : RS} {f : Nat → Int64} : (c_w kA ad σ).set 35 (ad 35, .inl (kA 1, 3, .inr (.inl f))) = c_w kA ad (rs_B σ 8 f) := rfl
section LYc
variable {p : Program} {l : Launch} {e : Env} {R : Room} {s : State} {m : MethodId} {args : Array Value} {below : List Frame} {meth : Method} {c : Code} {H H0 : Heap} {locs : List Loc} {cells slots : Nat} {Q : State → Prop}
variable {cc : ByteArray} {pc : Nat} {ls : Array Slot} {rest : List Value} {β : Type} {r : β} {dC : Nat → ClassId} {dI : Nat → Nat → Nat} {kA : Nat → ClassId} {ad : Nat → Nat} {σ : RS} {own : String} {idx : Nat}

theorem c_rld (hx : p.tables.exec = Jvm.exec) (hb : c.code = cc) (hK : va_K (dC, dI) vwCl (jtys kA) s) (hP : va_P (dC, dI) vwCl (c_w kA ad σ) H) {i : Int32} {F : Nat → Option β} (hf : kn_ld (fun j => j) 7 i F = some r) (hdg : decode cc pc = .ok (.aaload, 1)) (kk : ∀ j : Nat, j < 7 → F j = some r → W p l e R s m args below meth c H locs cells slots Q (F0 m (pc + 1) ls (.ref (ad (36 + 3 * j)) :: rest))) : W p l e R s m args below meth c H locs cells slots Q (F0 m pc ls (.int i :: .ref (ad 18) :: rest)) := va_aldq hx hb hK hP 18 3 rfl rfl (kn_ld_e hf).1 hdg (kk i.toNatClampNeg (Nat.not_le.mp fun q => (kn_ld_e hf).1 (Or.inr q)) (kn_ld_e hf).2)
theorem c_gX11_terms (hx : p.tables.exec = Jvm.exec) (hb : c.code = cc) (hts : ∀ w ∈ KW, w.before args s = true) (hown : s.vm.findClass own = some m.cls) (hK : va_K (dC, dI) vwCl (jtys kA) s) (hP : va_P (dC, dI) vwCl (c_w kA ad σ) H) (hlink : (Cond.fieldLink own idx "WalkedRounds" "terms" "LWalkedRounds$Terms;").before args s = true) (hdg : decode cc pc = .ok (.getfield idx, 3)) (kk : W p l e R s m args below meth c H locs cells slots Q (F0 m (pc + 3) ls (.ref (ad 1) :: rest))) : W p l e R s m args below meth c H locs cells slots Q (F0 m pc ls (.ref (ad 0) :: rest)) := va_get (D := (dC, dI)) (ci := 11) (C := RX11) (T := TX11) (N := 11) hx hb hts inK_X11 hown hK hP 0 rfl rfl 0 (by decide) hlink (fun _ h => h) rfl hdg kk
theorem c_gX11_web (hx : p.tables.exec = Jvm.exec) (hb : c.code = cc) (hts : ∀ w ∈ KW, w.before args s = true) (hown : s.vm.findClass own = some m.cls) (hK : va_K (dC, dI) vwCl (jtys kA) s) (hP : va_P (dC, dI) vwCl (c_w kA ad σ) H) (hlink : (Cond.fieldLink own idx "WalkedRounds" "web" "LWalkedRounds$Web;").before args s = true) (hdg : decode cc pc = .ok (.getfield idx, 3)) (kk : W p l e R s m args below meth c H locs cells slots Q (F0 m (pc + 3) ls (.ref (ad 7) :: rest))) : W p l e R s m args below meth c H locs cells slots Q (F0 m pc ls (.ref (ad 0) :: rest)) := va_get (D := (dC, dI)) (ci := 11) (C := RX11) (T := TX11) (N := 11) hx hb hts inK_X11 hown hK hP 0 rfl rfl 1 (by decide) hlink (fun _ h => h) rfl hdg kk
theorem c_gX11_program (hx : p.tables.exec = Jvm.exec) (hb : c.code = cc) (hts : ∀ w ∈ KW, w.before args s = true) (hown : s.vm.findClass own = some m.cls) (hK : va_K (dC, dI) vwCl (jtys kA) s) (hP : va_P (dC, dI) vwCl (c_w kA ad σ) H) (hlink : (Cond.fieldLink own idx "WalkedRounds" "program" "LWalkedRounds$Program;").before args s = true) (hdg : decode cc pc = .ok (.getfield idx, 3)) (kk : W p l e R s m args below meth c H locs cells slots Q (F0 m (pc + 3) ls (.ref (ad 14) :: rest))) : W p l e R s m args below meth c H locs cells slots Q (F0 m pc ls (.ref (ad 0) :: rest)) := va_get (D := (dC, dI)) (ci := 11) (C := RX11) (T := TX11) (N := 11) hx hb hts inK_X11 hown hK hP 0 rfl rfl 2 (by decide) hlink (fun _ h => h) rfl hdg kk
theorem c_gX11_failure (hx : p.tables.exec = Jvm.exec) (hb : c.code = cc) (hts : ∀ w ∈ KW, w.before args s = true) (hown : s.vm.findClass own = some m.cls) (hK : va_K (dC, dI) vwCl (jtys kA) s) (hP : va_P (dC, dI) vwCl (c_w kA ad σ) H) (hlink : (Cond.fieldLink own idx "WalkedRounds" "failure" "LWalkedRounds$Failure;").before args s = true) (hdg : decode cc pc = .ok (.getfield idx, 3)) (kk : W p l e R s m args below meth c H locs cells slots Q (F0 m (pc + 3) ls (.ref (ad 16) :: rest))) : W p l e R s m args below meth c H locs cells slots Q (F0 m pc ls (.ref (ad 0) :: rest)) := va_get (D := (dC, dI)) (ci := 11) (C := RX11) (T := TX11) (N := 11) hx hb hts inK_X11 hown hK hP 0 rfl rfl 3 (by decide) hlink (fun _ h => h) rfl hdg kk
theorem c_gX11_past (hx : p.tables.exec = Jvm.exec) (hb : c.code = cc) (hts : ∀ w ∈ KW, w.before args s = true) (hown : s.vm.findClass own = some m.cls) (hK : va_K (dC, dI) vwCl (jtys kA) s) (hP : va_P (dC, dI) vwCl (c_w kA ad σ) H) (hlink : (Cond.fieldLink own idx "WalkedRounds" "past" "LWalkedRounds$Past;").before args s = true) (hdg : decode cc pc = .ok (.getfield idx, 3)) (kk : W p l e R s m args below meth c H locs cells slots Q (F0 m (pc + 3) ls (.ref (ad 17) :: rest))) : W p l e R s m args below meth c H locs cells slots Q (F0 m pc ls (.ref (ad 0) :: rest)) := va_get (D := (dC, dI)) (ci := 11) (C := RX11) (T := TX11) (N := 11) hx hb hts inK_X11 hown hK hP 0 rfl rfl 4 (by decide) hlink (fun _ h => h) rfl hdg kk
theorem c_gX11_told (hx : p.tables.exec = Jvm.exec) (hb : c.code = cc) (hts : ∀ w ∈ KW, w.before args s = true) (hown : s.vm.findClass own = some m.cls) (hK : va_K (dC, dI) vwCl (jtys kA) s) (hP : va_P (dC, dI) vwCl (c_w kA ad σ) H) (hlink : (Cond.fieldLink own idx "WalkedRounds" "told" "LWalkedRounds$Told;").before args s = true) (hdg : decode cc pc = .ok (.getfield idx, 3)) (kk : W p l e R s m args below meth c H locs cells slots Q (F0 m (pc + 3) ls (.ref (ad 19) :: rest))) : W p l e R s m args below meth c H locs cells slots Q (F0 m pc ls (.ref (ad 0) :: rest)) := va_get (D := (dC, dI)) (ci := 11) (C := RX11) (T := TX11) (N := 11) hx hb hts inK_X11 hown hK hP 0 rfl rfl 5 (by decide) hlink (fun _ h => h) rfl hdg kk
theorem c_gX11_asker (hx : p.tables.exec = Jvm.exec) (hb : c.code = cc) (hts : ∀ w ∈ KW, w.before args s = true) (hown : s.vm.findClass own = some m.cls) (hK : va_K (dC, dI) vwCl (jtys kA) s) (hP : va_P (dC, dI) vwCl (c_w kA ad σ) H) (hlink : (Cond.fieldLink own idx "WalkedRounds" "asker" "LWalkedRounds$Asker;").before args s = true) (hdg : decode cc pc = .ok (.getfield idx, 3)) (kk : W p l e R s m args below meth c H locs cells slots Q (F0 m (pc + 3) ls (.ref (ad 22) :: rest))) : W p l e R s m args below meth c H locs cells slots Q (F0 m pc ls (.ref (ad 0) :: rest)) := va_get (D := (dC, dI)) (ci := 11) (C := RX11) (T := TX11) (N := 11) hx hb hts inK_X11 hown hK hP 0 rfl rfl 6 (by decide) hlink (fun _ h => h) rfl hdg kk
theorem c_gX11_actor (hx : p.tables.exec = Jvm.exec) (hb : c.code = cc) (hts : ∀ w ∈ KW, w.before args s = true) (hown : s.vm.findClass own = some m.cls) (hK : va_K (dC, dI) vwCl (jtys kA) s) (hP : va_P (dC, dI) vwCl (c_w kA ad σ) H) (hlink : (Cond.fieldLink own idx "WalkedRounds" "actor" "LWalkedRounds$Actor;").before args s = true) (hdg : decode cc pc = .ok (.getfield idx, 3)) (kk : W p l e R s m args below meth c H locs cells slots Q (F0 m (pc + 3) ls (.ref (ad 23) :: rest))) : W p l e R s m args below meth c H locs cells slots Q (F0 m pc ls (.ref (ad 0) :: rest)) := va_get (D := (dC, dI)) (ci := 11) (C := RX11) (T := TX11) (N := 11) hx hb hts inK_X11 hown hK hP 0 rfl rfl 7 (by decide) hlink (fun _ h => h) rfl hdg kk
theorem c_gX11_roundWalk (hx : p.tables.exec = Jvm.exec) (hb : c.code = cc) (hts : ∀ w ∈ KW, w.before args s = true) (hown : s.vm.findClass own = some m.cls) (hK : va_K (dC, dI) vwCl (jtys kA) s) (hP : va_P (dC, dI) vwCl (c_w kA ad σ) H) (hlink : (Cond.fieldLink own idx "WalkedRounds" "roundWalk" "LWalkedRounds$RoundWalk;").before args s = true) (hdg : decode cc pc = .ok (.getfield idx, 3)) (kk : W p l e R s m args below meth c H locs cells slots Q (F0 m (pc + 3) ls (.ref (ad 24) :: rest))) : W p l e R s m args below meth c H locs cells slots Q (F0 m pc ls (.ref (ad 0) :: rest)) := va_get (D := (dC, dI)) (ci := 11) (C := RX11) (T := TX11) (N := 11) hx hb hts inK_X11 hown hK hP 0 rfl rfl 8 (by decide) hlink (fun _ h => h) rfl hdg kk
theorem c_gX11_lineWalk (hx : p.tables.exec = Jvm.exec) (hb : c.code = cc) (hts : ∀ w ∈ KW, w.before args s = true) (hown : s.vm.findClass own = some m.cls) (hK : va_K (dC, dI) vwCl (jtys kA) s) (hP : va_P (dC, dI) vwCl (c_w kA ad σ) H) (hlink : (Cond.fieldLink own idx "WalkedRounds" "lineWalk" "LWalkedRounds$LineWalk;").before args s = true) (hdg : decode cc pc = .ok (.getfield idx, 3)) (kk : W p l e R s m args below meth c H locs cells slots Q (F0 m (pc + 3) ls (.ref (ad 31) :: rest))) : W p l e R s m args below meth c H locs cells slots Q (F0 m pc ls (.ref (ad 0) :: rest)) := va_get (D := (dC, dI)) (ci := 11) (C := RX11) (T := TX11) (N := 11) hx hb hts inK_X11 hown hK hP 0 rfl rfl 9 (by decide) hlink (fun _ h => h) rfl hdg kk
theorem c_gX11_whyAsked (hx : p.tables.exec = Jvm.exec) (hb : c.code = cc) (hts : ∀ w ∈ KW, w.before args s = true) (hown : s.vm.findClass own = some m.cls) (hK : va_K (dC, dI) vwCl (jtys kA) s) (hP : va_P (dC, dI) vwCl (c_w kA ad σ) H) (hlink : (Cond.fieldLink own idx "WalkedRounds" "whyAsked" "I").before args s = true) (hdg : decode cc pc = .ok (.getfield idx, 3)) (kk : W p l e R s m args below meth c H locs cells slots Q (F0 m (pc + 3) ls (.int (rg_I σ 0) :: rest))) : W p l e R s m args below meth c H locs cells slots Q (F0 m pc ls (.ref (ad 0) :: rest)) := va_get (D := (dC, dI)) (ci := 11) (C := RX11) (T := TX11) (N := 11) hx hb hts inK_X11 hown hK hP 0 rfl rfl 10 (by decide) hlink (fun _ h => h) rfl hdg kk
theorem c_pX11_whyAsked (hx : p.tables.exec = Jvm.exec) (hb : c.code = cc) (hts : ∀ w ∈ KW, w.before args s = true) (hown : s.vm.findClass own = some m.cls) (hK : va_K (dC, dI) vwCl (jtys kA) s) (hap : jw_ap 57 ad) (hP : va_P (dC, dI) vwCl (c_w kA ad σ) H) (hS : va_S (jw_A 57 ad) H0 H locs) {v : Int32} {F : RS → Option β} (hf : kn_v (rs_I σ 0 v) F = some r) (hlink : (Cond.fieldLink own idx "WalkedRounds" "whyAsked" "I").before args s = true) (hdg : decode cc pc = .ok (.putfield idx, 3)) (kk : ∀ (σ2 : RS) (H1 : Heap) (locs1 : List Loc), va_P (dC, dI) vwCl (c_w kA ad σ2) H1 → va_S (jw_A 57 ad) H0 H1 locs1 → F σ2 = some r → W p l e R s m args below meth c H1 locs1 cells slots Q (F0 m (pc + 3) ls rest)) : W p l e R s m args below meth c H locs cells slots Q (F0 m pc ls (.int v :: .ref (ad 0) :: rest)) := va_put (D := (dC, dI)) (ci := 11) (v := .int v) (ty := .int) (C := RX11) (T := TX11) (N := 11) hx hb hts inK_X11 tyX11 tyX11_ok nmX11 hown hK hP (c_D hap σ) hS 0 rfl rfl 10 (by decide) hlink (fun _ h => h) rfl (by decide +kernel) rfl rfl (Nat.le_of_ble_eq_true rfl) hdg (fun H1 locs1 h1 _ h3 => kk (rs_I σ 0 v) H1 locs1 h1 h3 hf)
theorem c_gX8_kinds (hx : p.tables.exec = Jvm.exec) (hb : c.code = cc) (hts : ∀ w ∈ KW, w.before args s = true) (hown : s.vm.findClass own = some m.cls) (hK : va_K (dC, dI) vwCl (jtys kA) s) (hP : va_P (dC, dI) vwCl (c_w kA ad σ) H) (hlink : (Cond.fieldLink own idx "WalkedRounds$Terms" "kinds" "[I").before args s = true) (hdg : decode cc pc = .ok (.getfield idx, 3)) (kk : W p l e R s m args below meth c H locs cells slots Q (F0 m (pc + 3) ls (.ref (ad 2) :: rest))) : W p l e R s m args below meth c H locs cells slots Q (F0 m pc ls (.ref (ad 1) :: rest)) := va_get (D := (dC, dI)) (ci := 8) (C := RX8) (T := TX8) (N := 6) hx hb hts inK_X8 hown hK hP 1 rfl rfl 0 (by decide) hlink (fun _ h => h) rfl hdg kk
theorem c_gX8_partA (hx : p.tables.exec = Jvm.exec) (hb : c.code = cc) (hts : ∀ w ∈ KW, w.before args s = true) (hown : s.vm.findClass own = some m.cls) (hK : va_K (dC, dI) vwCl (jtys kA) s) (hP : va_P (dC, dI) vwCl (c_w kA ad σ) H) (hlink : (Cond.fieldLink own idx "WalkedRounds$Terms" "partA" "[I").before args s = true) (hdg : decode cc pc = .ok (.getfield idx, 3)) (kk : W p l e R s m args below meth c H locs cells slots Q (F0 m (pc + 3) ls (.ref (ad 3) :: rest))) : W p l e R s m args below meth c H locs cells slots Q (F0 m pc ls (.ref (ad 1) :: rest)) := va_get (D := (dC, dI)) (ci := 8) (C := RX8) (T := TX8) (N := 6) hx hb hts inK_X8 hown hK hP 1 rfl rfl 1 (by decide) hlink (fun _ h => h) rfl hdg kk
theorem c_gX8_partB (hx : p.tables.exec = Jvm.exec) (hb : c.code = cc) (hts : ∀ w ∈ KW, w.before args s = true) (hown : s.vm.findClass own = some m.cls) (hK : va_K (dC, dI) vwCl (jtys kA) s) (hP : va_P (dC, dI) vwCl (c_w kA ad σ) H) (hlink : (Cond.fieldLink own idx "WalkedRounds$Terms" "partB" "[I").before args s = true) (hdg : decode cc pc = .ok (.getfield idx, 3)) (kk : W p l e R s m args below meth c H locs cells slots Q (F0 m (pc + 3) ls (.ref (ad 4) :: rest))) : W p l e R s m args below meth c H locs cells slots Q (F0 m pc ls (.ref (ad 1) :: rest)) := va_get (D := (dC, dI)) (ci := 8) (C := RX8) (T := TX8) (N := 6) hx hb hts inK_X8 hown hK hP 1 rfl rfl 2 (by decide) hlink (fun _ h => h) rfl hdg kk
theorem c_gX8_partC (hx : p.tables.exec = Jvm.exec) (hb : c.code = cc) (hts : ∀ w ∈ KW, w.before args s = true) (hown : s.vm.findClass own = some m.cls) (hK : va_K (dC, dI) vwCl (jtys kA) s) (hP : va_P (dC, dI) vwCl (c_w kA ad σ) H) (hlink : (Cond.fieldLink own idx "WalkedRounds$Terms" "partC" "[I").before args s = true) (hdg : decode cc pc = .ok (.getfield idx, 3)) (kk : W p l e R s m args below meth c H locs cells slots Q (F0 m (pc + 3) ls (.ref (ad 5) :: rest))) : W p l e R s m args below meth c H locs cells slots Q (F0 m pc ls (.ref (ad 1) :: rest)) := va_get (D := (dC, dI)) (ci := 8) (C := RX8) (T := TX8) (N := 6) hx hb hts inK_X8 hown hK hP 1 rfl rfl 3 (by decide) hlink (fun _ h => h) rfl hdg kk
theorem c_gX8_numbers (hx : p.tables.exec = Jvm.exec) (hb : c.code = cc) (hts : ∀ w ∈ KW, w.before args s = true) (hown : s.vm.findClass own = some m.cls) (hK : va_K (dC, dI) vwCl (jtys kA) s) (hP : va_P (dC, dI) vwCl (c_w kA ad σ) H) (hlink : (Cond.fieldLink own idx "WalkedRounds$Terms" "numbers" "[J").before args s = true) (hdg : decode cc pc = .ok (.getfield idx, 3)) (kk : W p l e R s m args below meth c H locs cells slots Q (F0 m (pc + 3) ls (.ref (ad 6) :: rest))) : W p l e R s m args below meth c H locs cells slots Q (F0 m pc ls (.ref (ad 1) :: rest)) := va_get (D := (dC, dI)) (ci := 8) (C := RX8) (T := TX8) (N := 6) hx hb hts inK_X8 hown hK hP 1 rfl rfl 4 (by decide) hlink (fun _ h => h) rfl hdg kk
theorem c_gX8_size (hx : p.tables.exec = Jvm.exec) (hb : c.code = cc) (hts : ∀ w ∈ KW, w.before args s = true) (hown : s.vm.findClass own = some m.cls) (hK : va_K (dC, dI) vwCl (jtys kA) s) (hP : va_P (dC, dI) vwCl (c_w kA ad σ) H) (hlink : (Cond.fieldLink own idx "WalkedRounds$Terms" "size" "I").before args s = true) (hdg : decode cc pc = .ok (.getfield idx, 3)) (kk : W p l e R s m args below meth c H locs cells slots Q (F0 m (pc + 3) ls (.int (rg_I σ 1) :: rest))) : W p l e R s m args below meth c H locs cells slots Q (F0 m pc ls (.ref (ad 1) :: rest)) := va_get (D := (dC, dI)) (ci := 8) (C := RX8) (T := TX8) (N := 6) hx hb hts inK_X8 hown hK hP 1 rfl rfl 5 (by decide) hlink (fun _ h => h) rfl hdg kk
theorem c_pX8_size (hx : p.tables.exec = Jvm.exec) (hb : c.code = cc) (hts : ∀ w ∈ KW, w.before args s = true) (hown : s.vm.findClass own = some m.cls) (hK : va_K (dC, dI) vwCl (jtys kA) s) (hap : jw_ap 57 ad) (hP : va_P (dC, dI) vwCl (c_w kA ad σ) H) (hS : va_S (jw_A 57 ad) H0 H locs) {v : Int32} {F : RS → Option β} (hf : kn_v (rs_I σ 1 v) F = some r) (hlink : (Cond.fieldLink own idx "WalkedRounds$Terms" "size" "I").before args s = true) (hdg : decode cc pc = .ok (.putfield idx, 3)) (kk : ∀ (σ2 : RS) (H1 : Heap) (locs1 : List Loc), va_P (dC, dI) vwCl (c_w kA ad σ2) H1 → va_S (jw_A 57 ad) H0 H1 locs1 → F σ2 = some r → W p l e R s m args below meth c H1 locs1 cells slots Q (F0 m (pc + 3) ls rest)) : W p l e R s m args below meth c H locs cells slots Q (F0 m pc ls (.int v :: .ref (ad 1) :: rest)) := va_put (D := (dC, dI)) (ci := 8) (v := .int v) (ty := .int) (C := RX8) (T := TX8) (N := 6) hx hb hts inK_X8 tyX8 tyX8_ok nmX8 hown hK hP (c_D hap σ) hS 1 rfl rfl 5 (by decide) hlink (fun _ h => h) rfl (by decide +kernel) rfl rfl (Nat.le_of_ble_eq_true rfl) hdg (fun H1 locs1 h1 _ h3 => kk (rs_I σ 1 v) H1 locs1 h1 h3 hf)
theorem c_gX10_states (hx : p.tables.exec = Jvm.exec) (hb : c.code = cc) (hts : ∀ w ∈ KW, w.before args s = true) (hown : s.vm.findClass own = some m.cls) (hK : va_K (dC, dI) vwCl (jtys kA) s) (hP : va_P (dC, dI) vwCl (c_w kA ad σ) H) (hlink : (Cond.fieldLink own idx "WalkedRounds$Web" "states" "[J").before args s = true) (hdg : decode cc pc = .ok (.getfield idx, 3)) (kk : W p l e R s m args below meth c H locs cells slots Q (F0 m (pc + 3) ls (.ref (ad 8) :: rest))) : W p l e R s m args below meth c H locs cells slots Q (F0 m pc ls (.ref (ad 7) :: rest)) := va_get (D := (dC, dI)) (ci := 10) (C := RX10) (T := TX10) (N := 10) hx hb hts inK_X10 hown hK hP 7 rfl rfl 0 (by decide) hlink (fun _ h => h) rfl hdg kk
theorem c_gX10_awake (hx : p.tables.exec = Jvm.exec) (hb : c.code = cc) (hts : ∀ w ∈ KW, w.before args s = true) (hown : s.vm.findClass own = some m.cls) (hK : va_K (dC, dI) vwCl (jtys kA) s) (hP : va_P (dC, dI) vwCl (c_w kA ad σ) H) (hlink : (Cond.fieldLink own idx "WalkedRounds$Web" "awake" "[Z").before args s = true) (hdg : decode cc pc = .ok (.getfield idx, 3)) (kk : W p l e R s m args below meth c H locs cells slots Q (F0 m (pc + 3) ls (.ref (ad 9) :: rest))) : W p l e R s m args below meth c H locs cells slots Q (F0 m pc ls (.ref (ad 7) :: rest)) := va_get (D := (dC, dI)) (ci := 10) (C := RX10) (T := TX10) (N := 10) hx hb hts inK_X10 hown hK hP 7 rfl rfl 1 (by decide) hlink (fun _ h => h) rfl hdg kk
theorem c_gX10_degrees (hx : p.tables.exec = Jvm.exec) (hb : c.code = cc) (hts : ∀ w ∈ KW, w.before args s = true) (hown : s.vm.findClass own = some m.cls) (hK : va_K (dC, dI) vwCl (jtys kA) s) (hP : va_P (dC, dI) vwCl (c_w kA ad σ) H) (hlink : (Cond.fieldLink own idx "WalkedRounds$Web" "degrees" "[I").before args s = true) (hdg : decode cc pc = .ok (.getfield idx, 3)) (kk : W p l e R s m args below meth c H locs cells slots Q (F0 m (pc + 3) ls (.ref (ad 10) :: rest))) : W p l e R s m args below meth c H locs cells slots Q (F0 m pc ls (.ref (ad 7) :: rest)) := va_get (D := (dC, dI)) (ci := 10) (C := RX10) (T := TX10) (N := 10) hx hb hts inK_X10 hown hK hP 7 rfl rfl 2 (by decide) hlink (fun _ h => h) rfl hdg kk
theorem c_gX10_from (hx : p.tables.exec = Jvm.exec) (hb : c.code = cc) (hts : ∀ w ∈ KW, w.before args s = true) (hown : s.vm.findClass own = some m.cls) (hK : va_K (dC, dI) vwCl (jtys kA) s) (hP : va_P (dC, dI) vwCl (c_w kA ad σ) H) (hlink : (Cond.fieldLink own idx "WalkedRounds$Web" "from" "[I").before args s = true) (hdg : decode cc pc = .ok (.getfield idx, 3)) (kk : W p l e R s m args below meth c H locs cells slots Q (F0 m (pc + 3) ls (.ref (ad 11) :: rest))) : W p l e R s m args below meth c H locs cells slots Q (F0 m pc ls (.ref (ad 7) :: rest)) := va_get (D := (dC, dI)) (ci := 10) (C := RX10) (T := TX10) (N := 10) hx hb hts inK_X10 hown hK hP 7 rfl rfl 3 (by decide) hlink (fun _ h => h) rfl hdg kk
theorem c_gX10_to (hx : p.tables.exec = Jvm.exec) (hb : c.code = cc) (hts : ∀ w ∈ KW, w.before args s = true) (hown : s.vm.findClass own = some m.cls) (hK : va_K (dC, dI) vwCl (jtys kA) s) (hP : va_P (dC, dI) vwCl (c_w kA ad σ) H) (hlink : (Cond.fieldLink own idx "WalkedRounds$Web" "to" "[I").before args s = true) (hdg : decode cc pc = .ok (.getfield idx, 3)) (kk : W p l e R s m args below meth c H locs cells slots Q (F0 m (pc + 3) ls (.ref (ad 12) :: rest))) : W p l e R s m args below meth c H locs cells slots Q (F0 m pc ls (.ref (ad 7) :: rest)) := va_get (D := (dC, dI)) (ci := 10) (C := RX10) (T := TX10) (N := 10) hx hb hts inK_X10 hown hK hP 7 rfl rfl 4 (by decide) hlink (fun _ h => h) rfl hdg kk
theorem c_gX10_weights (hx : p.tables.exec = Jvm.exec) (hb : c.code = cc) (hts : ∀ w ∈ KW, w.before args s = true) (hown : s.vm.findClass own = some m.cls) (hK : va_K (dC, dI) vwCl (jtys kA) s) (hP : va_P (dC, dI) vwCl (c_w kA ad σ) H) (hlink : (Cond.fieldLink own idx "WalkedRounds$Web" "weights" "[J").before args s = true) (hdg : decode cc pc = .ok (.getfield idx, 3)) (kk : W p l e R s m args below meth c H locs cells slots Q (F0 m (pc + 3) ls (.ref (ad 13) :: rest))) : W p l e R s m args below meth c H locs cells slots Q (F0 m pc ls (.ref (ad 7) :: rest)) := va_get (D := (dC, dI)) (ci := 10) (C := RX10) (T := TX10) (N := 10) hx hb hts inK_X10 hown hK hP 7 rfl rfl 5 (by decide) hlink (fun _ h => h) rfl hdg kk
theorem c_gX10_nodes (hx : p.tables.exec = Jvm.exec) (hb : c.code = cc) (hts : ∀ w ∈ KW, w.before args s = true) (hown : s.vm.findClass own = some m.cls) (hK : va_K (dC, dI) vwCl (jtys kA) s) (hP : va_P (dC, dI) vwCl (c_w kA ad σ) H) (hlink : (Cond.fieldLink own idx "WalkedRounds$Web" "nodes" "I").before args s = true) (hdg : decode cc pc = .ok (.getfield idx, 3)) (kk : W p l e R s m args below meth c H locs cells slots Q (F0 m (pc + 3) ls (.int (rg_I σ 2) :: rest))) : W p l e R s m args below meth c H locs cells slots Q (F0 m pc ls (.ref (ad 7) :: rest)) := va_get (D := (dC, dI)) (ci := 10) (C := RX10) (T := TX10) (N := 10) hx hb hts inK_X10 hown hK hP 7 rfl rfl 6 (by decide) hlink (fun _ h => h) rfl hdg kk
theorem c_pX10_nodes (hx : p.tables.exec = Jvm.exec) (hb : c.code = cc) (hts : ∀ w ∈ KW, w.before args s = true) (hown : s.vm.findClass own = some m.cls) (hK : va_K (dC, dI) vwCl (jtys kA) s) (hap : jw_ap 57 ad) (hP : va_P (dC, dI) vwCl (c_w kA ad σ) H) (hS : va_S (jw_A 57 ad) H0 H locs) {v : Int32} {F : RS → Option β} (hf : kn_v (rs_I σ 2 v) F = some r) (hlink : (Cond.fieldLink own idx "WalkedRounds$Web" "nodes" "I").before args s = true) (hdg : decode cc pc = .ok (.putfield idx, 3)) (kk : ∀ (σ2 : RS) (H1 : Heap) (locs1 : List Loc), va_P (dC, dI) vwCl (c_w kA ad σ2) H1 → va_S (jw_A 57 ad) H0 H1 locs1 → F σ2 = some r → W p l e R s m args below meth c H1 locs1 cells slots Q (F0 m (pc + 3) ls rest)) : W p l e R s m args below meth c H locs cells slots Q (F0 m pc ls (.int v :: .ref (ad 7) :: rest)) := va_put (D := (dC, dI)) (ci := 10) (v := .int v) (ty := .int) (C := RX10) (T := TX10) (N := 10) hx hb hts inK_X10 tyX10 tyX10_ok nmX10 hown hK hP (c_D hap σ) hS 7 rfl rfl 6 (by decide) hlink (fun _ h => h) rfl (by decide +kernel) rfl rfl (Nat.le_of_ble_eq_true rfl) hdg (fun H1 locs1 h1 _ h3 => kk (rs_I σ 2 v) H1 locs1 h1 h3 hf)
theorem c_gX10_arcs (hx : p.tables.exec = Jvm.exec) (hb : c.code = cc) (hts : ∀ w ∈ KW, w.before args s = true) (hown : s.vm.findClass own = some m.cls) (hK : va_K (dC, dI) vwCl (jtys kA) s) (hP : va_P (dC, dI) vwCl (c_w kA ad σ) H) (hlink : (Cond.fieldLink own idx "WalkedRounds$Web" "arcs" "I").before args s = true) (hdg : decode cc pc = .ok (.getfield idx, 3)) (kk : W p l e R s m args below meth c H locs cells slots Q (F0 m (pc + 3) ls (.int (rg_I σ 3) :: rest))) : W p l e R s m args below meth c H locs cells slots Q (F0 m pc ls (.ref (ad 7) :: rest)) := va_get (D := (dC, dI)) (ci := 10) (C := RX10) (T := TX10) (N := 10) hx hb hts inK_X10 hown hK hP 7 rfl rfl 7 (by decide) hlink (fun _ h => h) rfl hdg kk
theorem c_pX10_arcs (hx : p.tables.exec = Jvm.exec) (hb : c.code = cc) (hts : ∀ w ∈ KW, w.before args s = true) (hown : s.vm.findClass own = some m.cls) (hK : va_K (dC, dI) vwCl (jtys kA) s) (hap : jw_ap 57 ad) (hP : va_P (dC, dI) vwCl (c_w kA ad σ) H) (hS : va_S (jw_A 57 ad) H0 H locs) {v : Int32} {F : RS → Option β} (hf : kn_v (rs_I σ 3 v) F = some r) (hlink : (Cond.fieldLink own idx "WalkedRounds$Web" "arcs" "I").before args s = true) (hdg : decode cc pc = .ok (.putfield idx, 3)) (kk : ∀ (σ2 : RS) (H1 : Heap) (locs1 : List Loc), va_P (dC, dI) vwCl (c_w kA ad σ2) H1 → va_S (jw_A 57 ad) H0 H1 locs1 → F σ2 = some r → W p l e R s m args below meth c H1 locs1 cells slots Q (F0 m (pc + 3) ls rest)) : W p l e R s m args below meth c H locs cells slots Q (F0 m pc ls (.int v :: .ref (ad 7) :: rest)) := va_put (D := (dC, dI)) (ci := 10) (v := .int v) (ty := .int) (C := RX10) (T := TX10) (N := 10) hx hb hts inK_X10 tyX10 tyX10_ok nmX10 hown hK hP (c_D hap σ) hS 7 rfl rfl 7 (by decide) hlink (fun _ h => h) rfl (by decide +kernel) rfl rfl (Nat.le_of_ble_eq_true rfl) hdg (fun H1 locs1 h1 _ h3 => kk (rs_I σ 3 v) H1 locs1 h1 h3 hf)
theorem c_gX10_rounds (hx : p.tables.exec = Jvm.exec) (hb : c.code = cc) (hts : ∀ w ∈ KW, w.before args s = true) (hown : s.vm.findClass own = some m.cls) (hK : va_K (dC, dI) vwCl (jtys kA) s) (hP : va_P (dC, dI) vwCl (c_w kA ad σ) H) (hlink : (Cond.fieldLink own idx "WalkedRounds$Web" "rounds" "I").before args s = true) (hdg : decode cc pc = .ok (.getfield idx, 3)) (kk : W p l e R s m args below meth c H locs cells slots Q (F0 m (pc + 3) ls (.int (rg_I σ 4) :: rest))) : W p l e R s m args below meth c H locs cells slots Q (F0 m pc ls (.ref (ad 7) :: rest)) := va_get (D := (dC, dI)) (ci := 10) (C := RX10) (T := TX10) (N := 10) hx hb hts inK_X10 hown hK hP 7 rfl rfl 8 (by decide) hlink (fun _ h => h) rfl hdg kk
theorem c_pX10_rounds (hx : p.tables.exec = Jvm.exec) (hb : c.code = cc) (hts : ∀ w ∈ KW, w.before args s = true) (hown : s.vm.findClass own = some m.cls) (hK : va_K (dC, dI) vwCl (jtys kA) s) (hap : jw_ap 57 ad) (hP : va_P (dC, dI) vwCl (c_w kA ad σ) H) (hS : va_S (jw_A 57 ad) H0 H locs) {v : Int32} {F : RS → Option β} (hf : kn_v (rs_I σ 4 v) F = some r) (hlink : (Cond.fieldLink own idx "WalkedRounds$Web" "rounds" "I").before args s = true) (hdg : decode cc pc = .ok (.putfield idx, 3)) (kk : ∀ (σ2 : RS) (H1 : Heap) (locs1 : List Loc), va_P (dC, dI) vwCl (c_w kA ad σ2) H1 → va_S (jw_A 57 ad) H0 H1 locs1 → F σ2 = some r → W p l e R s m args below meth c H1 locs1 cells slots Q (F0 m (pc + 3) ls rest)) : W p l e R s m args below meth c H locs cells slots Q (F0 m pc ls (.int v :: .ref (ad 7) :: rest)) := va_put (D := (dC, dI)) (ci := 10) (v := .int v) (ty := .int) (C := RX10) (T := TX10) (N := 10) hx hb hts inK_X10 tyX10 tyX10_ok nmX10 hown hK hP (c_D hap σ) hS 7 rfl rfl 8 (by decide) hlink (fun _ h => h) rfl (by decide +kernel) rfl rfl (Nat.le_of_ble_eq_true rfl) hdg (fun H1 locs1 h1 _ h3 => kk (rs_I σ 4 v) H1 locs1 h1 h3 hf)
theorem c_gX10_sum (hx : p.tables.exec = Jvm.exec) (hb : c.code = cc) (hts : ∀ w ∈ KW, w.before args s = true) (hown : s.vm.findClass own = some m.cls) (hK : va_K (dC, dI) vwCl (jtys kA) s) (hP : va_P (dC, dI) vwCl (c_w kA ad σ) H) (hlink : (Cond.fieldLink own idx "WalkedRounds$Web" "sum" "J").before args s = true) (hdg : decode cc pc = .ok (.getfield idx, 3)) (kk : W p l e R s m args below meth c H locs cells slots Q (F0 m (pc + 3) ls (.long (rg_L σ 0) :: rest))) : W p l e R s m args below meth c H locs cells slots Q (F0 m pc ls (.ref (ad 7) :: rest)) := va_get (D := (dC, dI)) (ci := 10) (C := RX10) (T := TX10) (N := 10) hx hb hts inK_X10 hown hK hP 7 rfl rfl 9 (by decide) hlink (fun _ h => h) rfl hdg kk
theorem c_pX10_sum (hx : p.tables.exec = Jvm.exec) (hb : c.code = cc) (hts : ∀ w ∈ KW, w.before args s = true) (hown : s.vm.findClass own = some m.cls) (hK : va_K (dC, dI) vwCl (jtys kA) s) (hap : jw_ap 57 ad) (hP : va_P (dC, dI) vwCl (c_w kA ad σ) H) (hS : va_S (jw_A 57 ad) H0 H locs) {v : Int64} {F : RS → Option β} (hf : kn_v (rs_L σ 0 v) F = some r) (hlink : (Cond.fieldLink own idx "WalkedRounds$Web" "sum" "J").before args s = true) (hdg : decode cc pc = .ok (.putfield idx, 3)) (kk : ∀ (σ2 : RS) (H1 : Heap) (locs1 : List Loc), va_P (dC, dI) vwCl (c_w kA ad σ2) H1 → va_S (jw_A 57 ad) H0 H1 locs1 → F σ2 = some r → W p l e R s m args below meth c H1 locs1 cells slots Q (F0 m (pc + 3) ls rest)) : W p l e R s m args below meth c H locs cells slots Q (F0 m pc ls (.long v :: .ref (ad 7) :: rest)) := va_put (D := (dC, dI)) (ci := 10) (v := .long v) (ty := .long) (C := RX10) (T := TX10) (N := 10) hx hb hts inK_X10 tyX10 tyX10_ok nmX10 hown hK hP (c_D hap σ) hS 7 rfl rfl 9 (by decide) hlink (fun _ h => h) rfl (by decide +kernel) rfl rfl (Nat.le_of_ble_eq_true rfl) hdg (fun H1 locs1 h1 _ h3 => kk (rs_L σ 0 v) H1 locs1 h1 h3 hf)
theorem c_gX6_acts (hx : p.tables.exec = Jvm.exec) (hb : c.code = cc) (hts : ∀ w ∈ KW, w.before args s = true) (hown : s.vm.findClass own = some m.cls) (hK : va_K (dC, dI) vwCl (jtys kA) s) (hP : va_P (dC, dI) vwCl (c_w kA ad σ) H) (hlink : (Cond.fieldLink own idx "WalkedRounds$Program" "acts" "[I").before args s = true) (hdg : decode cc pc = .ok (.getfield idx, 3)) (kk : W p l e R s m args below meth c H locs cells slots Q (F0 m (pc + 3) ls (.ref (ad 15) :: rest))) : W p l e R s m args below meth c H locs cells slots Q (F0 m pc ls (.ref (ad 14) :: rest)) := va_get (D := (dC, dI)) (ci := 6) (C := RX6) (T := TX6) (N := 2) hx hb hts inK_X6 hown hK hP 14 rfl rfl 0 (by decide) hlink (fun _ h => h) rfl hdg kk
theorem c_gX6_foldSort (hx : p.tables.exec = Jvm.exec) (hb : c.code = cc) (hts : ∀ w ∈ KW, w.before args s = true) (hown : s.vm.findClass own = some m.cls) (hK : va_K (dC, dI) vwCl (jtys kA) s) (hP : va_P (dC, dI) vwCl (c_w kA ad σ) H) (hlink : (Cond.fieldLink own idx "WalkedRounds$Program" "foldSort" "I").before args s = true) (hdg : decode cc pc = .ok (.getfield idx, 3)) (kk : W p l e R s m args below meth c H locs cells slots Q (F0 m (pc + 3) ls (.int (rg_I σ 5) :: rest))) : W p l e R s m args below meth c H locs cells slots Q (F0 m pc ls (.ref (ad 14) :: rest)) := va_get (D := (dC, dI)) (ci := 6) (C := RX6) (T := TX6) (N := 2) hx hb hts inK_X6 hown hK hP 14 rfl rfl 1 (by decide) hlink (fun _ h => h) rfl hdg kk
theorem c_pX6_foldSort (hx : p.tables.exec = Jvm.exec) (hb : c.code = cc) (hts : ∀ w ∈ KW, w.before args s = true) (hown : s.vm.findClass own = some m.cls) (hK : va_K (dC, dI) vwCl (jtys kA) s) (hap : jw_ap 57 ad) (hP : va_P (dC, dI) vwCl (c_w kA ad σ) H) (hS : va_S (jw_A 57 ad) H0 H locs) {v : Int32} {F : RS → Option β} (hf : kn_v (rs_I σ 5 v) F = some r) (hlink : (Cond.fieldLink own idx "WalkedRounds$Program" "foldSort" "I").before args s = true) (hdg : decode cc pc = .ok (.putfield idx, 3)) (kk : ∀ (σ2 : RS) (H1 : Heap) (locs1 : List Loc), va_P (dC, dI) vwCl (c_w kA ad σ2) H1 → va_S (jw_A 57 ad) H0 H1 locs1 → F σ2 = some r → W p l e R s m args below meth c H1 locs1 cells slots Q (F0 m (pc + 3) ls rest)) : W p l e R s m args below meth c H locs cells slots Q (F0 m pc ls (.int v :: .ref (ad 14) :: rest)) := va_put (D := (dC, dI)) (ci := 6) (v := .int v) (ty := .int) (C := RX6) (T := TX6) (N := 2) hx hb hts inK_X6 tyX6 tyX6_ok nmX6 hown hK hP (c_D hap σ) hS 14 rfl rfl 1 (by decide) hlink (fun _ h => h) rfl (by decide +kernel) rfl rfl (Nat.le_of_ble_eq_true rfl) hdg (fun H1 locs1 h1 _ h3 => kk (rs_I σ 5 v) H1 locs1 h1 h3 hf)
theorem c_gX2_sort (hx : p.tables.exec = Jvm.exec) (hb : c.code = cc) (hts : ∀ w ∈ KW, w.before args s = true) (hown : s.vm.findClass own = some m.cls) (hK : va_K (dC, dI) vwCl (jtys kA) s) (hP : va_P (dC, dI) vwCl (c_w kA ad σ) H) (hlink : (Cond.fieldLink own idx "WalkedRounds$Failure" "sort" "I").before args s = true) (hdg : decode cc pc = .ok (.getfield idx, 3)) (kk : W p l e R s m args below meth c H locs cells slots Q (F0 m (pc + 3) ls (.int (rg_I σ 6) :: rest))) : W p l e R s m args below meth c H locs cells slots Q (F0 m pc ls (.ref (ad 16) :: rest)) := va_get (D := (dC, dI)) (ci := 2) (C := RX2) (T := TX2) (N := 5) hx hb hts inK_X2 hown hK hP 16 rfl rfl 0 (by decide) hlink (fun _ h => h) rfl hdg kk
theorem c_pX2_sort (hx : p.tables.exec = Jvm.exec) (hb : c.code = cc) (hts : ∀ w ∈ KW, w.before args s = true) (hown : s.vm.findClass own = some m.cls) (hK : va_K (dC, dI) vwCl (jtys kA) s) (hap : jw_ap 57 ad) (hP : va_P (dC, dI) vwCl (c_w kA ad σ) H) (hS : va_S (jw_A 57 ad) H0 H locs) {v : Int32} {F : RS → Option β} (hf : kn_v (rs_I σ 6 v) F = some r) (hlink : (Cond.fieldLink own idx "WalkedRounds$Failure" "sort" "I").before args s = true) (hdg : decode cc pc = .ok (.putfield idx, 3)) (kk : ∀ (σ2 : RS) (H1 : Heap) (locs1 : List Loc), va_P (dC, dI) vwCl (c_w kA ad σ2) H1 → va_S (jw_A 57 ad) H0 H1 locs1 → F σ2 = some r → W p l e R s m args below meth c H1 locs1 cells slots Q (F0 m (pc + 3) ls rest)) : W p l e R s m args below meth c H locs cells slots Q (F0 m pc ls (.int v :: .ref (ad 16) :: rest)) := va_put (D := (dC, dI)) (ci := 2) (v := .int v) (ty := .int) (C := RX2) (T := TX2) (N := 5) hx hb hts inK_X2 tyX2 tyX2_ok nmX2 hown hK hP (c_D hap σ) hS 16 rfl rfl 0 (by decide) hlink (fun _ h => h) rfl (by decide +kernel) rfl rfl (Nat.le_of_ble_eq_true rfl) hdg (fun H1 locs1 h1 _ h3 => kk (rs_I σ 6 v) H1 locs1 h1 h3 hf)
theorem c_gX2_act (hx : p.tables.exec = Jvm.exec) (hb : c.code = cc) (hts : ∀ w ∈ KW, w.before args s = true) (hown : s.vm.findClass own = some m.cls) (hK : va_K (dC, dI) vwCl (jtys kA) s) (hP : va_P (dC, dI) vwCl (c_w kA ad σ) H) (hlink : (Cond.fieldLink own idx "WalkedRounds$Failure" "act" "I").before args s = true) (hdg : decode cc pc = .ok (.getfield idx, 3)) (kk : W p l e R s m args below meth c H locs cells slots Q (F0 m (pc + 3) ls (.int (rg_I σ 7) :: rest))) : W p l e R s m args below meth c H locs cells slots Q (F0 m pc ls (.ref (ad 16) :: rest)) := va_get (D := (dC, dI)) (ci := 2) (C := RX2) (T := TX2) (N := 5) hx hb hts inK_X2 hown hK hP 16 rfl rfl 1 (by decide) hlink (fun _ h => h) rfl hdg kk
theorem c_pX2_act (hx : p.tables.exec = Jvm.exec) (hb : c.code = cc) (hts : ∀ w ∈ KW, w.before args s = true) (hown : s.vm.findClass own = some m.cls) (hK : va_K (dC, dI) vwCl (jtys kA) s) (hap : jw_ap 57 ad) (hP : va_P (dC, dI) vwCl (c_w kA ad σ) H) (hS : va_S (jw_A 57 ad) H0 H locs) {v : Int32} {F : RS → Option β} (hf : kn_v (rs_I σ 7 v) F = some r) (hlink : (Cond.fieldLink own idx "WalkedRounds$Failure" "act" "I").before args s = true) (hdg : decode cc pc = .ok (.putfield idx, 3)) (kk : ∀ (σ2 : RS) (H1 : Heap) (locs1 : List Loc), va_P (dC, dI) vwCl (c_w kA ad σ2) H1 → va_S (jw_A 57 ad) H0 H1 locs1 → F σ2 = some r → W p l e R s m args below meth c H1 locs1 cells slots Q (F0 m (pc + 3) ls rest)) : W p l e R s m args below meth c H locs cells slots Q (F0 m pc ls (.int v :: .ref (ad 16) :: rest)) := va_put (D := (dC, dI)) (ci := 2) (v := .int v) (ty := .int) (C := RX2) (T := TX2) (N := 5) hx hb hts inK_X2 tyX2 tyX2_ok nmX2 hown hK hP (c_D hap σ) hS 16 rfl rfl 1 (by decide) hlink (fun _ h => h) rfl (by decide +kernel) rfl rfl (Nat.le_of_ble_eq_true rfl) hdg (fun H1 locs1 h1 _ h3 => kk (rs_I σ 7 v) H1 locs1 h1 h3 hf)
theorem c_gX2_node (hx : p.tables.exec = Jvm.exec) (hb : c.code = cc) (hts : ∀ w ∈ KW, w.before args s = true) (hown : s.vm.findClass own = some m.cls) (hK : va_K (dC, dI) vwCl (jtys kA) s) (hP : va_P (dC, dI) vwCl (c_w kA ad σ) H) (hlink : (Cond.fieldLink own idx "WalkedRounds$Failure" "node" "I").before args s = true) (hdg : decode cc pc = .ok (.getfield idx, 3)) (kk : W p l e R s m args below meth c H locs cells slots Q (F0 m (pc + 3) ls (.int (rg_I σ 8) :: rest))) : W p l e R s m args below meth c H locs cells slots Q (F0 m pc ls (.ref (ad 16) :: rest)) := va_get (D := (dC, dI)) (ci := 2) (C := RX2) (T := TX2) (N := 5) hx hb hts inK_X2 hown hK hP 16 rfl rfl 2 (by decide) hlink (fun _ h => h) rfl hdg kk
theorem c_pX2_node (hx : p.tables.exec = Jvm.exec) (hb : c.code = cc) (hts : ∀ w ∈ KW, w.before args s = true) (hown : s.vm.findClass own = some m.cls) (hK : va_K (dC, dI) vwCl (jtys kA) s) (hap : jw_ap 57 ad) (hP : va_P (dC, dI) vwCl (c_w kA ad σ) H) (hS : va_S (jw_A 57 ad) H0 H locs) {v : Int32} {F : RS → Option β} (hf : kn_v (rs_I σ 8 v) F = some r) (hlink : (Cond.fieldLink own idx "WalkedRounds$Failure" "node" "I").before args s = true) (hdg : decode cc pc = .ok (.putfield idx, 3)) (kk : ∀ (σ2 : RS) (H1 : Heap) (locs1 : List Loc), va_P (dC, dI) vwCl (c_w kA ad σ2) H1 → va_S (jw_A 57 ad) H0 H1 locs1 → F σ2 = some r → W p l e R s m args below meth c H1 locs1 cells slots Q (F0 m (pc + 3) ls rest)) : W p l e R s m args below meth c H locs cells slots Q (F0 m pc ls (.int v :: .ref (ad 16) :: rest)) := va_put (D := (dC, dI)) (ci := 2) (v := .int v) (ty := .int) (C := RX2) (T := TX2) (N := 5) hx hb hts inK_X2 tyX2 tyX2_ok nmX2 hown hK hP (c_D hap σ) hS 16 rfl rfl 2 (by decide) hlink (fun _ h => h) rfl (by decide +kernel) rfl rfl (Nat.le_of_ble_eq_true rfl) hdg (fun H1 locs1 h1 _ h3 => kk (rs_I σ 8 v) H1 locs1 h1 h3 hf)
theorem c_gX2_arc (hx : p.tables.exec = Jvm.exec) (hb : c.code = cc) (hts : ∀ w ∈ KW, w.before args s = true) (hown : s.vm.findClass own = some m.cls) (hK : va_K (dC, dI) vwCl (jtys kA) s) (hP : va_P (dC, dI) vwCl (c_w kA ad σ) H) (hlink : (Cond.fieldLink own idx "WalkedRounds$Failure" "arc" "I").before args s = true) (hdg : decode cc pc = .ok (.getfield idx, 3)) (kk : W p l e R s m args below meth c H locs cells slots Q (F0 m (pc + 3) ls (.int (rg_I σ 9) :: rest))) : W p l e R s m args below meth c H locs cells slots Q (F0 m pc ls (.ref (ad 16) :: rest)) := va_get (D := (dC, dI)) (ci := 2) (C := RX2) (T := TX2) (N := 5) hx hb hts inK_X2 hown hK hP 16 rfl rfl 3 (by decide) hlink (fun _ h => h) rfl hdg kk
theorem c_pX2_arc (hx : p.tables.exec = Jvm.exec) (hb : c.code = cc) (hts : ∀ w ∈ KW, w.before args s = true) (hown : s.vm.findClass own = some m.cls) (hK : va_K (dC, dI) vwCl (jtys kA) s) (hap : jw_ap 57 ad) (hP : va_P (dC, dI) vwCl (c_w kA ad σ) H) (hS : va_S (jw_A 57 ad) H0 H locs) {v : Int32} {F : RS → Option β} (hf : kn_v (rs_I σ 9 v) F = some r) (hlink : (Cond.fieldLink own idx "WalkedRounds$Failure" "arc" "I").before args s = true) (hdg : decode cc pc = .ok (.putfield idx, 3)) (kk : ∀ (σ2 : RS) (H1 : Heap) (locs1 : List Loc), va_P (dC, dI) vwCl (c_w kA ad σ2) H1 → va_S (jw_A 57 ad) H0 H1 locs1 → F σ2 = some r → W p l e R s m args below meth c H1 locs1 cells slots Q (F0 m (pc + 3) ls rest)) : W p l e R s m args below meth c H locs cells slots Q (F0 m pc ls (.int v :: .ref (ad 16) :: rest)) := va_put (D := (dC, dI)) (ci := 2) (v := .int v) (ty := .int) (C := RX2) (T := TX2) (N := 5) hx hb hts inK_X2 tyX2 tyX2_ok nmX2 hown hK hP (c_D hap σ) hS 16 rfl rfl 3 (by decide) hlink (fun _ h => h) rfl (by decide +kernel) rfl rfl (Nat.le_of_ble_eq_true rfl) hdg (fun H1 locs1 h1 _ h3 => kk (rs_I σ 9 v) H1 locs1 h1 h3 hf)
theorem c_gX2_round (hx : p.tables.exec = Jvm.exec) (hb : c.code = cc) (hts : ∀ w ∈ KW, w.before args s = true) (hown : s.vm.findClass own = some m.cls) (hK : va_K (dC, dI) vwCl (jtys kA) s) (hP : va_P (dC, dI) vwCl (c_w kA ad σ) H) (hlink : (Cond.fieldLink own idx "WalkedRounds$Failure" "round" "I").before args s = true) (hdg : decode cc pc = .ok (.getfield idx, 3)) (kk : W p l e R s m args below meth c H locs cells slots Q (F0 m (pc + 3) ls (.int (rg_I σ 10) :: rest))) : W p l e R s m args below meth c H locs cells slots Q (F0 m pc ls (.ref (ad 16) :: rest)) := va_get (D := (dC, dI)) (ci := 2) (C := RX2) (T := TX2) (N := 5) hx hb hts inK_X2 hown hK hP 16 rfl rfl 4 (by decide) hlink (fun _ h => h) rfl hdg kk
theorem c_pX2_round (hx : p.tables.exec = Jvm.exec) (hb : c.code = cc) (hts : ∀ w ∈ KW, w.before args s = true) (hown : s.vm.findClass own = some m.cls) (hK : va_K (dC, dI) vwCl (jtys kA) s) (hap : jw_ap 57 ad) (hP : va_P (dC, dI) vwCl (c_w kA ad σ) H) (hS : va_S (jw_A 57 ad) H0 H locs) {v : Int32} {F : RS → Option β} (hf : kn_v (rs_I σ 10 v) F = some r) (hlink : (Cond.fieldLink own idx "WalkedRounds$Failure" "round" "I").before args s = true) (hdg : decode cc pc = .ok (.putfield idx, 3)) (kk : ∀ (σ2 : RS) (H1 : Heap) (locs1 : List Loc), va_P (dC, dI) vwCl (c_w kA ad σ2) H1 → va_S (jw_A 57 ad) H0 H1 locs1 → F σ2 = some r → W p l e R s m args below meth c H1 locs1 cells slots Q (F0 m (pc + 3) ls rest)) : W p l e R s m args below meth c H locs cells slots Q (F0 m pc ls (.int v :: .ref (ad 16) :: rest)) := va_put (D := (dC, dI)) (ci := 2) (v := .int v) (ty := .int) (C := RX2) (T := TX2) (N := 5) hx hb hts inK_X2 tyX2 tyX2_ok nmX2 hown hK hP (c_D hap σ) hS 16 rfl rfl 4 (by decide) hlink (fun _ h => h) rfl (by decide +kernel) rfl rfl (Nat.le_of_ble_eq_true rfl) hdg (fun H1 locs1 h1 _ h3 => kk (rs_I σ 10 v) H1 locs1 h1 h3 hf)
theorem c_gX5_ring (hx : p.tables.exec = Jvm.exec) (hb : c.code = cc) (hts : ∀ w ∈ KW, w.before args s = true) (hown : s.vm.findClass own = some m.cls) (hK : va_K (dC, dI) vwCl (jtys kA) s) (hP : va_P (dC, dI) vwCl (c_w kA ad σ) H) (hlink : (Cond.fieldLink own idx "WalkedRounds$Past" "ring" "[LWalkedRounds$Memory;").before args s = true) (hdg : decode cc pc = .ok (.getfield idx, 3)) (kk : W p l e R s m args below meth c H locs cells slots Q (F0 m (pc + 3) ls (.ref (ad 18) :: rest))) : W p l e R s m args below meth c H locs cells slots Q (F0 m pc ls (.ref (ad 17) :: rest)) := va_get (D := (dC, dI)) (ci := 5) (C := RX5) (T := TX5) (N := 3) hx hb hts inK_X5 hown hK hP 17 rfl rfl 0 (by decide) hlink (fun _ h => h) rfl hdg kk
theorem c_gX5_next (hx : p.tables.exec = Jvm.exec) (hb : c.code = cc) (hts : ∀ w ∈ KW, w.before args s = true) (hown : s.vm.findClass own = some m.cls) (hK : va_K (dC, dI) vwCl (jtys kA) s) (hP : va_P (dC, dI) vwCl (c_w kA ad σ) H) (hlink : (Cond.fieldLink own idx "WalkedRounds$Past" "next" "I").before args s = true) (hdg : decode cc pc = .ok (.getfield idx, 3)) (kk : W p l e R s m args below meth c H locs cells slots Q (F0 m (pc + 3) ls (.int (rg_I σ 11) :: rest))) : W p l e R s m args below meth c H locs cells slots Q (F0 m pc ls (.ref (ad 17) :: rest)) := va_get (D := (dC, dI)) (ci := 5) (C := RX5) (T := TX5) (N := 3) hx hb hts inK_X5 hown hK hP 17 rfl rfl 1 (by decide) hlink (fun _ h => h) rfl hdg kk
theorem c_pX5_next (hx : p.tables.exec = Jvm.exec) (hb : c.code = cc) (hts : ∀ w ∈ KW, w.before args s = true) (hown : s.vm.findClass own = some m.cls) (hK : va_K (dC, dI) vwCl (jtys kA) s) (hap : jw_ap 57 ad) (hP : va_P (dC, dI) vwCl (c_w kA ad σ) H) (hS : va_S (jw_A 57 ad) H0 H locs) {v : Int32} {F : RS → Option β} (hf : kn_v (rs_I σ 11 v) F = some r) (hlink : (Cond.fieldLink own idx "WalkedRounds$Past" "next" "I").before args s = true) (hdg : decode cc pc = .ok (.putfield idx, 3)) (kk : ∀ (σ2 : RS) (H1 : Heap) (locs1 : List Loc), va_P (dC, dI) vwCl (c_w kA ad σ2) H1 → va_S (jw_A 57 ad) H0 H1 locs1 → F σ2 = some r → W p l e R s m args below meth c H1 locs1 cells slots Q (F0 m (pc + 3) ls rest)) : W p l e R s m args below meth c H locs cells slots Q (F0 m pc ls (.int v :: .ref (ad 17) :: rest)) := va_put (D := (dC, dI)) (ci := 5) (v := .int v) (ty := .int) (C := RX5) (T := TX5) (N := 3) hx hb hts inK_X5 tyX5 tyX5_ok nmX5 hown hK hP (c_D hap σ) hS 17 rfl rfl 1 (by decide) hlink (fun _ h => h) rfl (by decide +kernel) rfl rfl (Nat.le_of_ble_eq_true rfl) hdg (fun H1 locs1 h1 _ h3 => kk (rs_I σ 11 v) H1 locs1 h1 h3 hf)
theorem c_gX5_kept (hx : p.tables.exec = Jvm.exec) (hb : c.code = cc) (hts : ∀ w ∈ KW, w.before args s = true) (hown : s.vm.findClass own = some m.cls) (hK : va_K (dC, dI) vwCl (jtys kA) s) (hP : va_P (dC, dI) vwCl (c_w kA ad σ) H) (hlink : (Cond.fieldLink own idx "WalkedRounds$Past" "kept" "I").before args s = true) (hdg : decode cc pc = .ok (.getfield idx, 3)) (kk : W p l e R s m args below meth c H locs cells slots Q (F0 m (pc + 3) ls (.int (rg_I σ 12) :: rest))) : W p l e R s m args below meth c H locs cells slots Q (F0 m pc ls (.ref (ad 17) :: rest)) := va_get (D := (dC, dI)) (ci := 5) (C := RX5) (T := TX5) (N := 3) hx hb hts inK_X5 hown hK hP 17 rfl rfl 2 (by decide) hlink (fun _ h => h) rfl hdg kk
theorem c_pX5_kept (hx : p.tables.exec = Jvm.exec) (hb : c.code = cc) (hts : ∀ w ∈ KW, w.before args s = true) (hown : s.vm.findClass own = some m.cls) (hK : va_K (dC, dI) vwCl (jtys kA) s) (hap : jw_ap 57 ad) (hP : va_P (dC, dI) vwCl (c_w kA ad σ) H) (hS : va_S (jw_A 57 ad) H0 H locs) {v : Int32} {F : RS → Option β} (hf : kn_v (rs_I σ 12 v) F = some r) (hlink : (Cond.fieldLink own idx "WalkedRounds$Past" "kept" "I").before args s = true) (hdg : decode cc pc = .ok (.putfield idx, 3)) (kk : ∀ (σ2 : RS) (H1 : Heap) (locs1 : List Loc), va_P (dC, dI) vwCl (c_w kA ad σ2) H1 → va_S (jw_A 57 ad) H0 H1 locs1 → F σ2 = some r → W p l e R s m args below meth c H1 locs1 cells slots Q (F0 m (pc + 3) ls rest)) : W p l e R s m args below meth c H locs cells slots Q (F0 m pc ls (.int v :: .ref (ad 17) :: rest)) := va_put (D := (dC, dI)) (ci := 5) (v := .int v) (ty := .int) (C := RX5) (T := TX5) (N := 3) hx hb hts inK_X5 tyX5 tyX5_ok nmX5 hown hK hP (c_D hap σ) hS 17 rfl rfl 2 (by decide) hlink (fun _ h => h) rfl (by decide +kernel) rfl rfl (Nat.le_of_ble_eq_true rfl) hdg (fun H1 locs1 h1 _ h3 => kk (rs_I σ 12 v) H1 locs1 h1 h3 hf)
theorem c_gX9_arcs (hx : p.tables.exec = Jvm.exec) (hb : c.code = cc) (hts : ∀ w ∈ KW, w.before args s = true) (hown : s.vm.findClass own = some m.cls) (hK : va_K (dC, dI) vwCl (jtys kA) s) (hP : va_P (dC, dI) vwCl (c_w kA ad σ) H) (hlink : (Cond.fieldLink own idx "WalkedRounds$Told" "arcs" "[I").before args s = true) (hdg : decode cc pc = .ok (.getfield idx, 3)) (kk : W p l e R s m args below meth c H locs cells slots Q (F0 m (pc + 3) ls (.ref (ad 20) :: rest))) : W p l e R s m args below meth c H locs cells slots Q (F0 m pc ls (.ref (ad 19) :: rest)) := va_get (D := (dC, dI)) (ci := 9) (C := RX9) (T := TX9) (N := 3) hx hb hts inK_X9 hown hK hP 19 rfl rfl 0 (by decide) hlink (fun _ h => h) rfl hdg kk
theorem c_gX9_values (hx : p.tables.exec = Jvm.exec) (hb : c.code = cc) (hts : ∀ w ∈ KW, w.before args s = true) (hown : s.vm.findClass own = some m.cls) (hK : va_K (dC, dI) vwCl (jtys kA) s) (hP : va_P (dC, dI) vwCl (c_w kA ad σ) H) (hlink : (Cond.fieldLink own idx "WalkedRounds$Told" "values" "[J").before args s = true) (hdg : decode cc pc = .ok (.getfield idx, 3)) (kk : W p l e R s m args below meth c H locs cells slots Q (F0 m (pc + 3) ls (.ref (ad 21) :: rest))) : W p l e R s m args below meth c H locs cells slots Q (F0 m pc ls (.ref (ad 19) :: rest)) := va_get (D := (dC, dI)) (ci := 9) (C := RX9) (T := TX9) (N := 3) hx hb hts inK_X9 hown hK hP 19 rfl rfl 1 (by decide) hlink (fun _ h => h) rfl hdg kk
theorem c_gX9_size (hx : p.tables.exec = Jvm.exec) (hb : c.code = cc) (hts : ∀ w ∈ KW, w.before args s = true) (hown : s.vm.findClass own = some m.cls) (hK : va_K (dC, dI) vwCl (jtys kA) s) (hP : va_P (dC, dI) vwCl (c_w kA ad σ) H) (hlink : (Cond.fieldLink own idx "WalkedRounds$Told" "size" "I").before args s = true) (hdg : decode cc pc = .ok (.getfield idx, 3)) (kk : W p l e R s m args below meth c H locs cells slots Q (F0 m (pc + 3) ls (.int (rg_I σ 13) :: rest))) : W p l e R s m args below meth c H locs cells slots Q (F0 m pc ls (.ref (ad 19) :: rest)) := va_get (D := (dC, dI)) (ci := 9) (C := RX9) (T := TX9) (N := 3) hx hb hts inK_X9 hown hK hP 19 rfl rfl 2 (by decide) hlink (fun _ h => h) rfl hdg kk
theorem c_pX9_size (hx : p.tables.exec = Jvm.exec) (hb : c.code = cc) (hts : ∀ w ∈ KW, w.before args s = true) (hown : s.vm.findClass own = some m.cls) (hK : va_K (dC, dI) vwCl (jtys kA) s) (hap : jw_ap 57 ad) (hP : va_P (dC, dI) vwCl (c_w kA ad σ) H) (hS : va_S (jw_A 57 ad) H0 H locs) {v : Int32} {F : RS → Option β} (hf : kn_v (rs_I σ 13 v) F = some r) (hlink : (Cond.fieldLink own idx "WalkedRounds$Told" "size" "I").before args s = true) (hdg : decode cc pc = .ok (.putfield idx, 3)) (kk : ∀ (σ2 : RS) (H1 : Heap) (locs1 : List Loc), va_P (dC, dI) vwCl (c_w kA ad σ2) H1 → va_S (jw_A 57 ad) H0 H1 locs1 → F σ2 = some r → W p l e R s m args below meth c H1 locs1 cells slots Q (F0 m (pc + 3) ls rest)) : W p l e R s m args below meth c H locs cells slots Q (F0 m pc ls (.int v :: .ref (ad 19) :: rest)) := va_put (D := (dC, dI)) (ci := 9) (v := .int v) (ty := .int) (C := RX9) (T := TX9) (N := 3) hx hb hts inK_X9 tyX9 tyX9_ok nmX9 hown hK hP (c_D hap σ) hS 19 rfl rfl 2 (by decide) hlink (fun _ h => h) rfl (by decide +kernel) rfl rfl (Nat.le_of_ble_eq_true rfl) hdg (fun H1 locs1 h1 _ h3 => kk (rs_I σ 13 v) H1 locs1 h1 h3 hf)
theorem c_gX1_terms (hx : p.tables.exec = Jvm.exec) (hb : c.code = cc) (hts : ∀ w ∈ KW, w.before args s = true) (hown : s.vm.findClass own = some m.cls) (hK : va_K (dC, dI) vwCl (jtys kA) s) (hP : va_P (dC, dI) vwCl (c_w kA ad σ) H) (hlink : (Cond.fieldLink own idx "WalkedRounds$Asker" "terms" "LWalkedRounds$Terms;").before args s = true) (hdg : decode cc pc = .ok (.getfield idx, 3)) (kk : W p l e R s m args below meth c H locs cells slots Q (F0 m (pc + 3) ls (.ref (ad 1) :: rest))) : W p l e R s m args below meth c H locs cells slots Q (F0 m pc ls (.ref (ad 22) :: rest)) := va_get (D := (dC, dI)) (ci := 1) (C := RX1) (T := TX1) (N := 7) hx hb hts inK_X1 hown hK hP 22 rfl rfl 0 (by decide) hlink (fun _ h => h) rfl hdg kk
theorem c_gX1_web (hx : p.tables.exec = Jvm.exec) (hb : c.code = cc) (hts : ∀ w ∈ KW, w.before args s = true) (hown : s.vm.findClass own = some m.cls) (hK : va_K (dC, dI) vwCl (jtys kA) s) (hP : va_P (dC, dI) vwCl (c_w kA ad σ) H) (hlink : (Cond.fieldLink own idx "WalkedRounds$Asker" "web" "LWalkedRounds$Web;").before args s = true) (hdg : decode cc pc = .ok (.getfield idx, 3)) (kk : W p l e R s m args below meth c H locs cells slots Q (F0 m (pc + 3) ls (.ref (ad 7) :: rest))) : W p l e R s m args below meth c H locs cells slots Q (F0 m pc ls (.ref (ad 22) :: rest)) := va_get (D := (dC, dI)) (ci := 1) (C := RX1) (T := TX1) (N := 7) hx hb hts inK_X1 hown hK hP 22 rfl rfl 1 (by decide) hlink (fun _ h => h) rfl hdg kk
theorem c_gX1_foldedMessages (hx : p.tables.exec = Jvm.exec) (hb : c.code = cc) (hts : ∀ w ∈ KW, w.before args s = true) (hown : s.vm.findClass own = some m.cls) (hK : va_K (dC, dI) vwCl (jtys kA) s) (hP : va_P (dC, dI) vwCl (c_w kA ad σ) H) (hlink : (Cond.fieldLink own idx "WalkedRounds$Asker" "foldedMessages" "I").before args s = true) (hdg : decode cc pc = .ok (.getfield idx, 3)) (kk : W p l e R s m args below meth c H locs cells slots Q (F0 m (pc + 3) ls (.int (rg_I σ 14) :: rest))) : W p l e R s m args below meth c H locs cells slots Q (F0 m pc ls (.ref (ad 22) :: rest)) := va_get (D := (dC, dI)) (ci := 1) (C := RX1) (T := TX1) (N := 7) hx hb hts inK_X1 hown hK hP 22 rfl rfl 2 (by decide) hlink (fun _ h => h) rfl hdg kk
theorem c_pX1_foldedMessages (hx : p.tables.exec = Jvm.exec) (hb : c.code = cc) (hts : ∀ w ∈ KW, w.before args s = true) (hown : s.vm.findClass own = some m.cls) (hK : va_K (dC, dI) vwCl (jtys kA) s) (hap : jw_ap 57 ad) (hP : va_P (dC, dI) vwCl (c_w kA ad σ) H) (hS : va_S (jw_A 57 ad) H0 H locs) {v : Int32} {F : RS → Option β} (hf : kn_v (rs_I σ 14 v) F = some r) (hlink : (Cond.fieldLink own idx "WalkedRounds$Asker" "foldedMessages" "I").before args s = true) (hdg : decode cc pc = .ok (.putfield idx, 3)) (kk : ∀ (σ2 : RS) (H1 : Heap) (locs1 : List Loc), va_P (dC, dI) vwCl (c_w kA ad σ2) H1 → va_S (jw_A 57 ad) H0 H1 locs1 → F σ2 = some r → W p l e R s m args below meth c H1 locs1 cells slots Q (F0 m (pc + 3) ls rest)) : W p l e R s m args below meth c H locs cells slots Q (F0 m pc ls (.int v :: .ref (ad 22) :: rest)) := va_put (D := (dC, dI)) (ci := 1) (v := .int v) (ty := .int) (C := RX1) (T := TX1) (N := 7) hx hb hts inK_X1 tyX1 tyX1_ok nmX1 hown hK hP (c_D hap σ) hS 22 rfl rfl 2 (by decide) hlink (fun _ h => h) rfl (by decide +kernel) rfl rfl (Nat.le_of_ble_eq_true rfl) hdg (fun H1 locs1 h1 _ h3 => kk (rs_I σ 14 v) H1 locs1 h1 h3 hf)
theorem c_gX1_steps (hx : p.tables.exec = Jvm.exec) (hb : c.code = cc) (hts : ∀ w ∈ KW, w.before args s = true) (hown : s.vm.findClass own = some m.cls) (hK : va_K (dC, dI) vwCl (jtys kA) s) (hP : va_P (dC, dI) vwCl (c_w kA ad σ) H) (hlink : (Cond.fieldLink own idx "WalkedRounds$Asker" "steps" "I").before args s = true) (hdg : decode cc pc = .ok (.getfield idx, 3)) (kk : W p l e R s m args below meth c H locs cells slots Q (F0 m (pc + 3) ls (.int (rg_I σ 15) :: rest))) : W p l e R s m args below meth c H locs cells slots Q (F0 m pc ls (.ref (ad 22) :: rest)) := va_get (D := (dC, dI)) (ci := 1) (C := RX1) (T := TX1) (N := 7) hx hb hts inK_X1 hown hK hP 22 rfl rfl 3 (by decide) hlink (fun _ h => h) rfl hdg kk
theorem c_pX1_steps (hx : p.tables.exec = Jvm.exec) (hb : c.code = cc) (hts : ∀ w ∈ KW, w.before args s = true) (hown : s.vm.findClass own = some m.cls) (hK : va_K (dC, dI) vwCl (jtys kA) s) (hap : jw_ap 57 ad) (hP : va_P (dC, dI) vwCl (c_w kA ad σ) H) (hS : va_S (jw_A 57 ad) H0 H locs) {v : Int32} {F : RS → Option β} (hf : kn_v (rs_I σ 15 v) F = some r) (hlink : (Cond.fieldLink own idx "WalkedRounds$Asker" "steps" "I").before args s = true) (hdg : decode cc pc = .ok (.putfield idx, 3)) (kk : ∀ (σ2 : RS) (H1 : Heap) (locs1 : List Loc), va_P (dC, dI) vwCl (c_w kA ad σ2) H1 → va_S (jw_A 57 ad) H0 H1 locs1 → F σ2 = some r → W p l e R s m args below meth c H1 locs1 cells slots Q (F0 m (pc + 3) ls rest)) : W p l e R s m args below meth c H locs cells slots Q (F0 m pc ls (.int v :: .ref (ad 22) :: rest)) := va_put (D := (dC, dI)) (ci := 1) (v := .int v) (ty := .int) (C := RX1) (T := TX1) (N := 7) hx hb hts inK_X1 tyX1 tyX1_ok nmX1 hown hK hP (c_D hap σ) hS 22 rfl rfl 3 (by decide) hlink (fun _ h => h) rfl (by decide +kernel) rfl rfl (Nat.le_of_ble_eq_true rfl) hdg (fun H1 locs1 h1 _ h3 => kk (rs_I σ 15 v) H1 locs1 h1 h3 hf)
theorem c_gX1_foldedValue (hx : p.tables.exec = Jvm.exec) (hb : c.code = cc) (hts : ∀ w ∈ KW, w.before args s = true) (hown : s.vm.findClass own = some m.cls) (hK : va_K (dC, dI) vwCl (jtys kA) s) (hP : va_P (dC, dI) vwCl (c_w kA ad σ) H) (hlink : (Cond.fieldLink own idx "WalkedRounds$Asker" "foldedValue" "J").before args s = true) (hdg : decode cc pc = .ok (.getfield idx, 3)) (kk : W p l e R s m args below meth c H locs cells slots Q (F0 m (pc + 3) ls (.long (rg_L σ 1) :: rest))) : W p l e R s m args below meth c H locs cells slots Q (F0 m pc ls (.ref (ad 22) :: rest)) := va_get (D := (dC, dI)) (ci := 1) (C := RX1) (T := TX1) (N := 7) hx hb hts inK_X1 hown hK hP 22 rfl rfl 4 (by decide) hlink (fun _ h => h) rfl hdg kk
theorem c_pX1_foldedValue (hx : p.tables.exec = Jvm.exec) (hb : c.code = cc) (hts : ∀ w ∈ KW, w.before args s = true) (hown : s.vm.findClass own = some m.cls) (hK : va_K (dC, dI) vwCl (jtys kA) s) (hap : jw_ap 57 ad) (hP : va_P (dC, dI) vwCl (c_w kA ad σ) H) (hS : va_S (jw_A 57 ad) H0 H locs) {v : Int64} {F : RS → Option β} (hf : kn_v (rs_L σ 1 v) F = some r) (hlink : (Cond.fieldLink own idx "WalkedRounds$Asker" "foldedValue" "J").before args s = true) (hdg : decode cc pc = .ok (.putfield idx, 3)) (kk : ∀ (σ2 : RS) (H1 : Heap) (locs1 : List Loc), va_P (dC, dI) vwCl (c_w kA ad σ2) H1 → va_S (jw_A 57 ad) H0 H1 locs1 → F σ2 = some r → W p l e R s m args below meth c H1 locs1 cells slots Q (F0 m (pc + 3) ls rest)) : W p l e R s m args below meth c H locs cells slots Q (F0 m pc ls (.long v :: .ref (ad 22) :: rest)) := va_put (D := (dC, dI)) (ci := 1) (v := .long v) (ty := .long) (C := RX1) (T := TX1) (N := 7) hx hb hts inK_X1 tyX1 tyX1_ok nmX1 hown hK hP (c_D hap σ) hS 22 rfl rfl 4 (by decide) hlink (fun _ h => h) rfl (by decide +kernel) rfl rfl (Nat.le_of_ble_eq_true rfl) hdg (fun H1 locs1 h1 _ h3 => kk (rs_L σ 1 v) H1 locs1 h1 h3 hf)
theorem c_gX1_fault (hx : p.tables.exec = Jvm.exec) (hb : c.code = cc) (hts : ∀ w ∈ KW, w.before args s = true) (hown : s.vm.findClass own = some m.cls) (hK : va_K (dC, dI) vwCl (jtys kA) s) (hP : va_P (dC, dI) vwCl (c_w kA ad σ) H) (hlink : (Cond.fieldLink own idx "WalkedRounds$Asker" "fault" "I").before args s = true) (hdg : decode cc pc = .ok (.getfield idx, 3)) (kk : W p l e R s m args below meth c H locs cells slots Q (F0 m (pc + 3) ls (.int (rg_I σ 16) :: rest))) : W p l e R s m args below meth c H locs cells slots Q (F0 m pc ls (.ref (ad 22) :: rest)) := va_get (D := (dC, dI)) (ci := 1) (C := RX1) (T := TX1) (N := 7) hx hb hts inK_X1 hown hK hP 22 rfl rfl 5 (by decide) hlink (fun _ h => h) rfl hdg kk
theorem c_pX1_fault (hx : p.tables.exec = Jvm.exec) (hb : c.code = cc) (hts : ∀ w ∈ KW, w.before args s = true) (hown : s.vm.findClass own = some m.cls) (hK : va_K (dC, dI) vwCl (jtys kA) s) (hap : jw_ap 57 ad) (hP : va_P (dC, dI) vwCl (c_w kA ad σ) H) (hS : va_S (jw_A 57 ad) H0 H locs) {v : Int32} {F : RS → Option β} (hf : kn_v (rs_I σ 16 v) F = some r) (hlink : (Cond.fieldLink own idx "WalkedRounds$Asker" "fault" "I").before args s = true) (hdg : decode cc pc = .ok (.putfield idx, 3)) (kk : ∀ (σ2 : RS) (H1 : Heap) (locs1 : List Loc), va_P (dC, dI) vwCl (c_w kA ad σ2) H1 → va_S (jw_A 57 ad) H0 H1 locs1 → F σ2 = some r → W p l e R s m args below meth c H1 locs1 cells slots Q (F0 m (pc + 3) ls rest)) : W p l e R s m args below meth c H locs cells slots Q (F0 m pc ls (.int v :: .ref (ad 22) :: rest)) := va_put (D := (dC, dI)) (ci := 1) (v := .int v) (ty := .int) (C := RX1) (T := TX1) (N := 7) hx hb hts inK_X1 tyX1 tyX1_ok nmX1 hown hK hP (c_D hap σ) hS 22 rfl rfl 5 (by decide) hlink (fun _ h => h) rfl (by decide +kernel) rfl rfl (Nat.le_of_ble_eq_true rfl) hdg (fun H1 locs1 h1 _ h3 => kk (rs_I σ 16 v) H1 locs1 h1 h3 hf)
theorem c_gX1_allSteps (hx : p.tables.exec = Jvm.exec) (hb : c.code = cc) (hts : ∀ w ∈ KW, w.before args s = true) (hown : s.vm.findClass own = some m.cls) (hK : va_K (dC, dI) vwCl (jtys kA) s) (hP : va_P (dC, dI) vwCl (c_w kA ad σ) H) (hlink : (Cond.fieldLink own idx "WalkedRounds$Asker" "allSteps" "I").before args s = true) (hdg : decode cc pc = .ok (.getfield idx, 3)) (kk : W p l e R s m args below meth c H locs cells slots Q (F0 m (pc + 3) ls (.int (rg_I σ 17) :: rest))) : W p l e R s m args below meth c H locs cells slots Q (F0 m pc ls (.ref (ad 22) :: rest)) := va_get (D := (dC, dI)) (ci := 1) (C := RX1) (T := TX1) (N := 7) hx hb hts inK_X1 hown hK hP 22 rfl rfl 6 (by decide) hlink (fun _ h => h) rfl hdg kk
theorem c_pX1_allSteps (hx : p.tables.exec = Jvm.exec) (hb : c.code = cc) (hts : ∀ w ∈ KW, w.before args s = true) (hown : s.vm.findClass own = some m.cls) (hK : va_K (dC, dI) vwCl (jtys kA) s) (hap : jw_ap 57 ad) (hP : va_P (dC, dI) vwCl (c_w kA ad σ) H) (hS : va_S (jw_A 57 ad) H0 H locs) {v : Int32} {F : RS → Option β} (hf : kn_v (rs_I σ 17 v) F = some r) (hlink : (Cond.fieldLink own idx "WalkedRounds$Asker" "allSteps" "I").before args s = true) (hdg : decode cc pc = .ok (.putfield idx, 3)) (kk : ∀ (σ2 : RS) (H1 : Heap) (locs1 : List Loc), va_P (dC, dI) vwCl (c_w kA ad σ2) H1 → va_S (jw_A 57 ad) H0 H1 locs1 → F σ2 = some r → W p l e R s m args below meth c H1 locs1 cells slots Q (F0 m (pc + 3) ls rest)) : W p l e R s m args below meth c H locs cells slots Q (F0 m pc ls (.int v :: .ref (ad 22) :: rest)) := va_put (D := (dC, dI)) (ci := 1) (v := .int v) (ty := .int) (C := RX1) (T := TX1) (N := 7) hx hb hts inK_X1 tyX1 tyX1_ok nmX1 hown hK hP (c_D hap σ) hS 22 rfl rfl 6 (by decide) hlink (fun _ h => h) rfl (by decide +kernel) rfl rfl (Nat.le_of_ble_eq_true rfl) hdg (fun H1 locs1 h1 _ h3 => kk (rs_I σ 17 v) H1 locs1 h1 h3 hf)
theorem c_gX0_web (hx : p.tables.exec = Jvm.exec) (hb : c.code = cc) (hts : ∀ w ∈ KW, w.before args s = true) (hown : s.vm.findClass own = some m.cls) (hK : va_K (dC, dI) vwCl (jtys kA) s) (hP : va_P (dC, dI) vwCl (c_w kA ad σ) H) (hlink : (Cond.fieldLink own idx "WalkedRounds$Actor" "web" "LWalkedRounds$Web;").before args s = true) (hdg : decode cc pc = .ok (.getfield idx, 3)) (kk : W p l e R s m args below meth c H locs cells slots Q (F0 m (pc + 3) ls (.ref (ad 7) :: rest))) : W p l e R s m args below meth c H locs cells slots Q (F0 m pc ls (.ref (ad 23) :: rest)) := va_get (D := (dC, dI)) (ci := 0) (C := RX0) (T := TX0) (N := 4) hx hb hts inK_X0 hown hK hP 23 rfl rfl 0 (by decide) hlink (fun _ h => h) rfl hdg kk
theorem c_gX0_program (hx : p.tables.exec = Jvm.exec) (hb : c.code = cc) (hts : ∀ w ∈ KW, w.before args s = true) (hown : s.vm.findClass own = some m.cls) (hK : va_K (dC, dI) vwCl (jtys kA) s) (hP : va_P (dC, dI) vwCl (c_w kA ad σ) H) (hlink : (Cond.fieldLink own idx "WalkedRounds$Actor" "program" "LWalkedRounds$Program;").before args s = true) (hdg : decode cc pc = .ok (.getfield idx, 3)) (kk : W p l e R s m args below meth c H locs cells slots Q (F0 m (pc + 3) ls (.ref (ad 14) :: rest))) : W p l e R s m args below meth c H locs cells slots Q (F0 m pc ls (.ref (ad 23) :: rest)) := va_get (D := (dC, dI)) (ci := 0) (C := RX0) (T := TX0) (N := 4) hx hb hts inK_X0 hown hK hP 23 rfl rfl 1 (by decide) hlink (fun _ h => h) rfl hdg kk
theorem c_gX0_asker (hx : p.tables.exec = Jvm.exec) (hb : c.code = cc) (hts : ∀ w ∈ KW, w.before args s = true) (hown : s.vm.findClass own = some m.cls) (hK : va_K (dC, dI) vwCl (jtys kA) s) (hP : va_P (dC, dI) vwCl (c_w kA ad σ) H) (hlink : (Cond.fieldLink own idx "WalkedRounds$Actor" "asker" "LWalkedRounds$Asker;").before args s = true) (hdg : decode cc pc = .ok (.getfield idx, 3)) (kk : W p l e R s m args below meth c H locs cells slots Q (F0 m (pc + 3) ls (.ref (ad 22) :: rest))) : W p l e R s m args below meth c H locs cells slots Q (F0 m pc ls (.ref (ad 23) :: rest)) := va_get (D := (dC, dI)) (ci := 0) (C := RX0) (T := TX0) (N := 4) hx hb hts inK_X0 hown hK hP 23 rfl rfl 2 (by decide) hlink (fun _ h => h) rfl hdg kk
theorem c_gX0_failure (hx : p.tables.exec = Jvm.exec) (hb : c.code = cc) (hts : ∀ w ∈ KW, w.before args s = true) (hown : s.vm.findClass own = some m.cls) (hK : va_K (dC, dI) vwCl (jtys kA) s) (hP : va_P (dC, dI) vwCl (c_w kA ad σ) H) (hlink : (Cond.fieldLink own idx "WalkedRounds$Actor" "failure" "LWalkedRounds$Failure;").before args s = true) (hdg : decode cc pc = .ok (.getfield idx, 3)) (kk : W p l e R s m args below meth c H locs cells slots Q (F0 m (pc + 3) ls (.ref (ad 16) :: rest))) : W p l e R s m args below meth c H locs cells slots Q (F0 m pc ls (.ref (ad 23) :: rest)) := va_get (D := (dC, dI)) (ci := 0) (C := RX0) (T := TX0) (N := 4) hx hb hts inK_X0 hown hK hP 23 rfl rfl 3 (by decide) hlink (fun _ h => h) rfl hdg kk
theorem c_gX7_web (hx : p.tables.exec = Jvm.exec) (hb : c.code = cc) (hts : ∀ w ∈ KW, w.before args s = true) (hown : s.vm.findClass own = some m.cls) (hK : va_K (dC, dI) vwCl (jtys kA) s) (hP : va_P (dC, dI) vwCl (c_w kA ad σ) H) (hlink : (Cond.fieldLink own idx "WalkedRounds$RoundWalk" "web" "LWalkedRounds$Web;").before args s = true) (hdg : decode cc pc = .ok (.getfield idx, 3)) (kk : W p l e R s m args below meth c H locs cells slots Q (F0 m (pc + 3) ls (.ref (ad 7) :: rest))) : W p l e R s m args below meth c H locs cells slots Q (F0 m pc ls (.ref (ad 24) :: rest)) := va_get (D := (dC, dI)) (ci := 7) (C := RX7) (T := TX7) (N := 12) hx hb hts inK_X7 hown hK hP 24 rfl rfl 0 (by decide) hlink (fun _ h => h) rfl hdg kk
theorem c_gX7_actor (hx : p.tables.exec = Jvm.exec) (hb : c.code = cc) (hts : ∀ w ∈ KW, w.before args s = true) (hown : s.vm.findClass own = some m.cls) (hK : va_K (dC, dI) vwCl (jtys kA) s) (hP : va_P (dC, dI) vwCl (c_w kA ad σ) H) (hlink : (Cond.fieldLink own idx "WalkedRounds$RoundWalk" "actor" "LWalkedRounds$Actor;").before args s = true) (hdg : decode cc pc = .ok (.getfield idx, 3)) (kk : W p l e R s m args below meth c H locs cells slots Q (F0 m (pc + 3) ls (.ref (ad 23) :: rest))) : W p l e R s m args below meth c H locs cells slots Q (F0 m pc ls (.ref (ad 24) :: rest)) := va_get (D := (dC, dI)) (ci := 7) (C := RX7) (T := TX7) (N := 12) hx hb hts inK_X7 hown hK hP 24 rfl rfl 1 (by decide) hlink (fun _ h => h) rfl hdg kk
theorem c_gX7_failure (hx : p.tables.exec = Jvm.exec) (hb : c.code = cc) (hts : ∀ w ∈ KW, w.before args s = true) (hown : s.vm.findClass own = some m.cls) (hK : va_K (dC, dI) vwCl (jtys kA) s) (hP : va_P (dC, dI) vwCl (c_w kA ad σ) H) (hlink : (Cond.fieldLink own idx "WalkedRounds$RoundWalk" "failure" "LWalkedRounds$Failure;").before args s = true) (hdg : decode cc pc = .ok (.getfield idx, 3)) (kk : W p l e R s m args below meth c H locs cells slots Q (F0 m (pc + 3) ls (.ref (ad 16) :: rest))) : W p l e R s m args below meth c H locs cells slots Q (F0 m pc ls (.ref (ad 24) :: rest)) := va_get (D := (dC, dI)) (ci := 7) (C := RX7) (T := TX7) (N := 12) hx hb hts inK_X7 hown hK hP 24 rfl rfl 2 (by decide) hlink (fun _ h => h) rfl hdg kk
theorem c_gX7_past (hx : p.tables.exec = Jvm.exec) (hb : c.code = cc) (hts : ∀ w ∈ KW, w.before args s = true) (hown : s.vm.findClass own = some m.cls) (hK : va_K (dC, dI) vwCl (jtys kA) s) (hP : va_P (dC, dI) vwCl (c_w kA ad σ) H) (hlink : (Cond.fieldLink own idx "WalkedRounds$RoundWalk" "past" "LWalkedRounds$Past;").before args s = true) (hdg : decode cc pc = .ok (.getfield idx, 3)) (kk : W p l e R s m args below meth c H locs cells slots Q (F0 m (pc + 3) ls (.ref (ad 17) :: rest))) : W p l e R s m args below meth c H locs cells slots Q (F0 m pc ls (.ref (ad 24) :: rest)) := va_get (D := (dC, dI)) (ci := 7) (C := RX7) (T := TX7) (N := 12) hx hb hts inK_X7 hown hK hP 24 rfl rfl 3 (by decide) hlink (fun _ h => h) rfl hdg kk
theorem c_gX7_told (hx : p.tables.exec = Jvm.exec) (hb : c.code = cc) (hts : ∀ w ∈ KW, w.before args s = true) (hown : s.vm.findClass own = some m.cls) (hK : va_K (dC, dI) vwCl (jtys kA) s) (hP : va_P (dC, dI) vwCl (c_w kA ad σ) H) (hlink : (Cond.fieldLink own idx "WalkedRounds$RoundWalk" "told" "LWalkedRounds$Told;").before args s = true) (hdg : decode cc pc = .ok (.getfield idx, 3)) (kk : W p l e R s m args below meth c H locs cells slots Q (F0 m (pc + 3) ls (.ref (ad 19) :: rest))) : W p l e R s m args below meth c H locs cells slots Q (F0 m pc ls (.ref (ad 24) :: rest)) := va_get (D := (dC, dI)) (ci := 7) (C := RX7) (T := TX7) (N := 12) hx hb hts inK_X7 hown hK hP 24 rfl rfl 4 (by decide) hlink (fun _ h => h) rfl hdg kk
theorem c_gX7_sentArcs (hx : p.tables.exec = Jvm.exec) (hb : c.code = cc) (hts : ∀ w ∈ KW, w.before args s = true) (hown : s.vm.findClass own = some m.cls) (hK : va_K (dC, dI) vwCl (jtys kA) s) (hP : va_P (dC, dI) vwCl (c_w kA ad σ) H) (hlink : (Cond.fieldLink own idx "WalkedRounds$RoundWalk" "sentArcs" "[I").before args s = true) (hdg : decode cc pc = .ok (.getfield idx, 3)) (kk : W p l e R s m args below meth c H locs cells slots Q (F0 m (pc + 3) ls (.ref (ad 25) :: rest))) : W p l e R s m args below meth c H locs cells slots Q (F0 m pc ls (.ref (ad 24) :: rest)) := va_get (D := (dC, dI)) (ci := 7) (C := RX7) (T := TX7) (N := 12) hx hb hts inK_X7 hown hK hP 24 rfl rfl 5 (by decide) hlink (fun _ h => h) rfl hdg kk
theorem c_gX7_carries (hx : p.tables.exec = Jvm.exec) (hb : c.code = cc) (hts : ∀ w ∈ KW, w.before args s = true) (hown : s.vm.findClass own = some m.cls) (hK : va_K (dC, dI) vwCl (jtys kA) s) (hP : va_P (dC, dI) vwCl (c_w kA ad σ) H) (hlink : (Cond.fieldLink own idx "WalkedRounds$RoundWalk" "carries" "[Z").before args s = true) (hdg : decode cc pc = .ok (.getfield idx, 3)) (kk : W p l e R s m args below meth c H locs cells slots Q (F0 m (pc + 3) ls (.ref (ad 26) :: rest))) : W p l e R s m args below meth c H locs cells slots Q (F0 m pc ls (.ref (ad 24) :: rest)) := va_get (D := (dC, dI)) (ci := 7) (C := RX7) (T := TX7) (N := 12) hx hb hts inK_X7 hown hK hP 24 rfl rfl 6 (by decide) hlink (fun _ h => h) rfl hdg kk
theorem c_gX7_carried (hx : p.tables.exec = Jvm.exec) (hb : c.code = cc) (hts : ∀ w ∈ KW, w.before args s = true) (hown : s.vm.findClass own = some m.cls) (hK : va_K (dC, dI) vwCl (jtys kA) s) (hP : va_P (dC, dI) vwCl (c_w kA ad σ) H) (hlink : (Cond.fieldLink own idx "WalkedRounds$RoundWalk" "carried" "[J").before args s = true) (hdg : decode cc pc = .ok (.getfield idx, 3)) (kk : W p l e R s m args below meth c H locs cells slots Q (F0 m (pc + 3) ls (.ref (ad 27) :: rest))) : W p l e R s m args below meth c H locs cells slots Q (F0 m pc ls (.ref (ad 24) :: rest)) := va_get (D := (dC, dI)) (ci := 7) (C := RX7) (T := TX7) (N := 12) hx hb hts inK_X7 hown hK hP 24 rfl rfl 7 (by decide) hlink (fun _ h => h) rfl hdg kk
theorem c_gX7_reached (hx : p.tables.exec = Jvm.exec) (hb : c.code = cc) (hts : ∀ w ∈ KW, w.before args s = true) (hown : s.vm.findClass own = some m.cls) (hK : va_K (dC, dI) vwCl (jtys kA) s) (hP : va_P (dC, dI) vwCl (c_w kA ad σ) H) (hlink : (Cond.fieldLink own idx "WalkedRounds$RoundWalk" "reached" "[Z").before args s = true) (hdg : decode cc pc = .ok (.getfield idx, 3)) (kk : W p l e R s m args below meth c H locs cells slots Q (F0 m (pc + 3) ls (.ref (ad 28) :: rest))) : W p l e R s m args below meth c H locs cells slots Q (F0 m pc ls (.ref (ad 24) :: rest)) := va_get (D := (dC, dI)) (ci := 7) (C := RX7) (T := TX7) (N := 12) hx hb hts inK_X7 hown hK hP 24 rfl rfl 8 (by decide) hlink (fun _ h => h) rfl hdg kk
theorem c_gX7_halting (hx : p.tables.exec = Jvm.exec) (hb : c.code = cc) (hts : ∀ w ∈ KW, w.before args s = true) (hown : s.vm.findClass own = some m.cls) (hK : va_K (dC, dI) vwCl (jtys kA) s) (hP : va_P (dC, dI) vwCl (c_w kA ad σ) H) (hlink : (Cond.fieldLink own idx "WalkedRounds$RoundWalk" "halting" "[Z").before args s = true) (hdg : decode cc pc = .ok (.getfield idx, 3)) (kk : W p l e R s m args below meth c H locs cells slots Q (F0 m (pc + 3) ls (.ref (ad 29) :: rest))) : W p l e R s m args below meth c H locs cells slots Q (F0 m pc ls (.ref (ad 24) :: rest)) := va_get (D := (dC, dI)) (ci := 7) (C := RX7) (T := TX7) (N := 12) hx hb hts inK_X7 hown hK hP 24 rfl rfl 9 (by decide) hlink (fun _ h => h) rfl hdg kk
theorem c_gX7_newStates (hx : p.tables.exec = Jvm.exec) (hb : c.code = cc) (hts : ∀ w ∈ KW, w.before args s = true) (hown : s.vm.findClass own = some m.cls) (hK : va_K (dC, dI) vwCl (jtys kA) s) (hP : va_P (dC, dI) vwCl (c_w kA ad σ) H) (hlink : (Cond.fieldLink own idx "WalkedRounds$RoundWalk" "newStates" "[J").before args s = true) (hdg : decode cc pc = .ok (.getfield idx, 3)) (kk : W p l e R s m args below meth c H locs cells slots Q (F0 m (pc + 3) ls (.ref (ad 30) :: rest))) : W p l e R s m args below meth c H locs cells slots Q (F0 m pc ls (.ref (ad 24) :: rest)) := va_get (D := (dC, dI)) (ci := 7) (C := RX7) (T := TX7) (N := 12) hx hb hts inK_X7 hown hK hP 24 rfl rfl 10 (by decide) hlink (fun _ h => h) rfl hdg kk
theorem c_gX7_sent (hx : p.tables.exec = Jvm.exec) (hb : c.code = cc) (hts : ∀ w ∈ KW, w.before args s = true) (hown : s.vm.findClass own = some m.cls) (hK : va_K (dC, dI) vwCl (jtys kA) s) (hP : va_P (dC, dI) vwCl (c_w kA ad σ) H) (hlink : (Cond.fieldLink own idx "WalkedRounds$RoundWalk" "sent" "I").before args s = true) (hdg : decode cc pc = .ok (.getfield idx, 3)) (kk : W p l e R s m args below meth c H locs cells slots Q (F0 m (pc + 3) ls (.int (rg_I σ 18) :: rest))) : W p l e R s m args below meth c H locs cells slots Q (F0 m pc ls (.ref (ad 24) :: rest)) := va_get (D := (dC, dI)) (ci := 7) (C := RX7) (T := TX7) (N := 12) hx hb hts inK_X7 hown hK hP 24 rfl rfl 11 (by decide) hlink (fun _ h => h) rfl hdg kk
theorem c_pX7_sent (hx : p.tables.exec = Jvm.exec) (hb : c.code = cc) (hts : ∀ w ∈ KW, w.before args s = true) (hown : s.vm.findClass own = some m.cls) (hK : va_K (dC, dI) vwCl (jtys kA) s) (hap : jw_ap 57 ad) (hP : va_P (dC, dI) vwCl (c_w kA ad σ) H) (hS : va_S (jw_A 57 ad) H0 H locs) {v : Int32} {F : RS → Option β} (hf : kn_v (rs_I σ 18 v) F = some r) (hlink : (Cond.fieldLink own idx "WalkedRounds$RoundWalk" "sent" "I").before args s = true) (hdg : decode cc pc = .ok (.putfield idx, 3)) (kk : ∀ (σ2 : RS) (H1 : Heap) (locs1 : List Loc), va_P (dC, dI) vwCl (c_w kA ad σ2) H1 → va_S (jw_A 57 ad) H0 H1 locs1 → F σ2 = some r → W p l e R s m args below meth c H1 locs1 cells slots Q (F0 m (pc + 3) ls rest)) : W p l e R s m args below meth c H locs cells slots Q (F0 m pc ls (.int v :: .ref (ad 24) :: rest)) := va_put (D := (dC, dI)) (ci := 7) (v := .int v) (ty := .int) (C := RX7) (T := TX7) (N := 12) hx hb hts inK_X7 tyX7 tyX7_ok nmX7 hown hK hP (c_D hap σ) hS 24 rfl rfl 11 (by decide) hlink (fun _ h => h) rfl (by decide +kernel) rfl rfl (Nat.le_of_ble_eq_true rfl) hdg (fun H1 locs1 h1 _ h3 => kk (rs_I σ 18 v) H1 locs1 h1 h3 hf)
theorem c_gX3_web (hx : p.tables.exec = Jvm.exec) (hb : c.code = cc) (hts : ∀ w ∈ KW, w.before args s = true) (hown : s.vm.findClass own = some m.cls) (hK : va_K (dC, dI) vwCl (jtys kA) s) (hP : va_P (dC, dI) vwCl (c_w kA ad σ) H) (hlink : (Cond.fieldLink own idx "WalkedRounds$LineWalk" "web" "LWalkedRounds$Web;").before args s = true) (hdg : decode cc pc = .ok (.getfield idx, 3)) (kk : W p l e R s m args below meth c H locs cells slots Q (F0 m (pc + 3) ls (.ref (ad 7) :: rest))) : W p l e R s m args below meth c H locs cells slots Q (F0 m pc ls (.ref (ad 31) :: rest)) := va_get (D := (dC, dI)) (ci := 3) (C := RX3) (T := TX3) (N := 11) hx hb hts inK_X3 hown hK hP 31 rfl rfl 0 (by decide) hlink (fun _ h => h) rfl hdg kk
theorem c_gX3_actor (hx : p.tables.exec = Jvm.exec) (hb : c.code = cc) (hts : ∀ w ∈ KW, w.before args s = true) (hown : s.vm.findClass own = some m.cls) (hK : va_K (dC, dI) vwCl (jtys kA) s) (hP : va_P (dC, dI) vwCl (c_w kA ad σ) H) (hlink : (Cond.fieldLink own idx "WalkedRounds$LineWalk" "actor" "LWalkedRounds$Actor;").before args s = true) (hdg : decode cc pc = .ok (.getfield idx, 3)) (kk : W p l e R s m args below meth c H locs cells slots Q (F0 m (pc + 3) ls (.ref (ad 23) :: rest))) : W p l e R s m args below meth c H locs cells slots Q (F0 m pc ls (.ref (ad 31) :: rest)) := va_get (D := (dC, dI)) (ci := 3) (C := RX3) (T := TX3) (N := 11) hx hb hts inK_X3 hown hK hP 31 rfl rfl 1 (by decide) hlink (fun _ h => h) rfl hdg kk
theorem c_gX3_failure (hx : p.tables.exec = Jvm.exec) (hb : c.code = cc) (hts : ∀ w ∈ KW, w.before args s = true) (hown : s.vm.findClass own = some m.cls) (hK : va_K (dC, dI) vwCl (jtys kA) s) (hP : va_P (dC, dI) vwCl (c_w kA ad σ) H) (hlink : (Cond.fieldLink own idx "WalkedRounds$LineWalk" "failure" "LWalkedRounds$Failure;").before args s = true) (hdg : decode cc pc = .ok (.getfield idx, 3)) (kk : W p l e R s m args below meth c H locs cells slots Q (F0 m (pc + 3) ls (.ref (ad 16) :: rest))) : W p l e R s m args below meth c H locs cells slots Q (F0 m pc ls (.ref (ad 31) :: rest)) := va_get (D := (dC, dI)) (ci := 3) (C := RX3) (T := TX3) (N := 11) hx hb hts inK_X3 hown hK hP 31 rfl rfl 2 (by decide) hlink (fun _ h => h) rfl hdg kk
theorem c_gX3_past (hx : p.tables.exec = Jvm.exec) (hb : c.code = cc) (hts : ∀ w ∈ KW, w.before args s = true) (hown : s.vm.findClass own = some m.cls) (hK : va_K (dC, dI) vwCl (jtys kA) s) (hP : va_P (dC, dI) vwCl (c_w kA ad σ) H) (hlink : (Cond.fieldLink own idx "WalkedRounds$LineWalk" "past" "LWalkedRounds$Past;").before args s = true) (hdg : decode cc pc = .ok (.getfield idx, 3)) (kk : W p l e R s m args below meth c H locs cells slots Q (F0 m (pc + 3) ls (.ref (ad 17) :: rest))) : W p l e R s m args below meth c H locs cells slots Q (F0 m pc ls (.ref (ad 31) :: rest)) := va_get (D := (dC, dI)) (ci := 3) (C := RX3) (T := TX3) (N := 11) hx hb hts inK_X3 hown hK hP 31 rfl rfl 3 (by decide) hlink (fun _ h => h) rfl hdg kk
theorem c_gX3_told (hx : p.tables.exec = Jvm.exec) (hb : c.code = cc) (hts : ∀ w ∈ KW, w.before args s = true) (hown : s.vm.findClass own = some m.cls) (hK : va_K (dC, dI) vwCl (jtys kA) s) (hP : va_P (dC, dI) vwCl (c_w kA ad σ) H) (hlink : (Cond.fieldLink own idx "WalkedRounds$LineWalk" "told" "LWalkedRounds$Told;").before args s = true) (hdg : decode cc pc = .ok (.getfield idx, 3)) (kk : W p l e R s m args below meth c H locs cells slots Q (F0 m (pc + 3) ls (.ref (ad 19) :: rest))) : W p l e R s m args below meth c H locs cells slots Q (F0 m pc ls (.ref (ad 31) :: rest)) := va_get (D := (dC, dI)) (ci := 3) (C := RX3) (T := TX3) (N := 11) hx hb hts inK_X3 hown hK hP 31 rfl rfl 4 (by decide) hlink (fun _ h => h) rfl hdg kk
theorem c_gX3_arcs (hx : p.tables.exec = Jvm.exec) (hb : c.code = cc) (hts : ∀ w ∈ KW, w.before args s = true) (hown : s.vm.findClass own = some m.cls) (hK : va_K (dC, dI) vwCl (jtys kA) s) (hP : va_P (dC, dI) vwCl (c_w kA ad σ) H) (hlink : (Cond.fieldLink own idx "WalkedRounds$LineWalk" "arcs" "[I").before args s = true) (hdg : decode cc pc = .ok (.getfield idx, 3)) (kk : W p l e R s m args below meth c H locs cells slots Q (F0 m (pc + 3) ls (.ref (ad 32) :: rest))) : W p l e R s m args below meth c H locs cells slots Q (F0 m pc ls (.ref (ad 31) :: rest)) := va_get (D := (dC, dI)) (ci := 3) (C := RX3) (T := TX3) (N := 11) hx hb hts inK_X3 hown hK hP 31 rfl rfl 5 (by decide) hlink (fun _ h => h) rfl hdg kk
theorem c_gX3_values (hx : p.tables.exec = Jvm.exec) (hb : c.code = cc) (hts : ∀ w ∈ KW, w.before args s = true) (hown : s.vm.findClass own = some m.cls) (hK : va_K (dC, dI) vwCl (jtys kA) s) (hP : va_P (dC, dI) vwCl (c_w kA ad σ) H) (hlink : (Cond.fieldLink own idx "WalkedRounds$LineWalk" "values" "[J").before args s = true) (hdg : decode cc pc = .ok (.getfield idx, 3)) (kk : W p l e R s m args below meth c H locs cells slots Q (F0 m (pc + 3) ls (.ref (ad 33) :: rest))) : W p l e R s m args below meth c H locs cells slots Q (F0 m pc ls (.ref (ad 31) :: rest)) := va_get (D := (dC, dI)) (ci := 3) (C := RX3) (T := TX3) (N := 11) hx hb hts inK_X3 hown hK hP 31 rfl rfl 6 (by decide) hlink (fun _ h => h) rfl hdg kk
theorem c_gX3_newStates (hx : p.tables.exec = Jvm.exec) (hb : c.code = cc) (hts : ∀ w ∈ KW, w.before args s = true) (hown : s.vm.findClass own = some m.cls) (hK : va_K (dC, dI) vwCl (jtys kA) s) (hP : va_P (dC, dI) vwCl (c_w kA ad σ) H) (hlink : (Cond.fieldLink own idx "WalkedRounds$LineWalk" "newStates" "[J").before args s = true) (hdg : decode cc pc = .ok (.getfield idx, 3)) (kk : W p l e R s m args below meth c H locs cells slots Q (F0 m (pc + 3) ls (.ref (ad 34) :: rest))) : W p l e R s m args below meth c H locs cells slots Q (F0 m pc ls (.ref (ad 31) :: rest)) := va_get (D := (dC, dI)) (ci := 3) (C := RX3) (T := TX3) (N := 11) hx hb hts inK_X3 hown hK hP 31 rfl rfl 7 (by decide) hlink (fun _ h => h) rfl hdg kk
theorem c_gX3_oldStates (hx : p.tables.exec = Jvm.exec) (hb : c.code = cc) (hts : ∀ w ∈ KW, w.before args s = true) (hown : s.vm.findClass own = some m.cls) (hK : va_K (dC, dI) vwCl (jtys kA) s) (hP : va_P (dC, dI) vwCl (c_w kA ad σ) H) (hlink : (Cond.fieldLink own idx "WalkedRounds$LineWalk" "oldStates" "[J").before args s = true) (hdg : decode cc pc = .ok (.getfield idx, 3)) (kk : W p l e R s m args below meth c H locs cells slots Q (F0 m (pc + 3) ls (.ref (ad 35) :: rest))) : W p l e R s m args below meth c H locs cells slots Q (F0 m pc ls (.ref (ad 31) :: rest)) := va_get (D := (dC, dI)) (ci := 3) (C := RX3) (T := TX3) (N := 11) hx hb hts inK_X3 hown hK hP 31 rfl rfl 8 (by decide) hlink (fun _ h => h) rfl hdg kk
theorem c_gX3_first (hx : p.tables.exec = Jvm.exec) (hb : c.code = cc) (hts : ∀ w ∈ KW, w.before args s = true) (hown : s.vm.findClass own = some m.cls) (hK : va_K (dC, dI) vwCl (jtys kA) s) (hP : va_P (dC, dI) vwCl (c_w kA ad σ) H) (hlink : (Cond.fieldLink own idx "WalkedRounds$LineWalk" "first" "I").before args s = true) (hdg : decode cc pc = .ok (.getfield idx, 3)) (kk : W p l e R s m args below meth c H locs cells slots Q (F0 m (pc + 3) ls (.int (rg_I σ 19) :: rest))) : W p l e R s m args below meth c H locs cells slots Q (F0 m pc ls (.ref (ad 31) :: rest)) := va_get (D := (dC, dI)) (ci := 3) (C := RX3) (T := TX3) (N := 11) hx hb hts inK_X3 hown hK hP 31 rfl rfl 9 (by decide) hlink (fun _ h => h) rfl hdg kk
theorem c_pX3_first (hx : p.tables.exec = Jvm.exec) (hb : c.code = cc) (hts : ∀ w ∈ KW, w.before args s = true) (hown : s.vm.findClass own = some m.cls) (hK : va_K (dC, dI) vwCl (jtys kA) s) (hap : jw_ap 57 ad) (hP : va_P (dC, dI) vwCl (c_w kA ad σ) H) (hS : va_S (jw_A 57 ad) H0 H locs) {v : Int32} {F : RS → Option β} (hf : kn_v (rs_I σ 19 v) F = some r) (hlink : (Cond.fieldLink own idx "WalkedRounds$LineWalk" "first" "I").before args s = true) (hdg : decode cc pc = .ok (.putfield idx, 3)) (kk : ∀ (σ2 : RS) (H1 : Heap) (locs1 : List Loc), va_P (dC, dI) vwCl (c_w kA ad σ2) H1 → va_S (jw_A 57 ad) H0 H1 locs1 → F σ2 = some r → W p l e R s m args below meth c H1 locs1 cells slots Q (F0 m (pc + 3) ls rest)) : W p l e R s m args below meth c H locs cells slots Q (F0 m pc ls (.int v :: .ref (ad 31) :: rest)) := va_put (D := (dC, dI)) (ci := 3) (v := .int v) (ty := .int) (C := RX3) (T := TX3) (N := 11) hx hb hts inK_X3 tyX3 tyX3_ok nmX3 hown hK hP (c_D hap σ) hS 31 rfl rfl 9 (by decide) hlink (fun _ h => h) rfl (by decide +kernel) rfl rfl (Nat.le_of_ble_eq_true rfl) hdg (fun H1 locs1 h1 _ h3 => kk (rs_I σ 19 v) H1 locs1 h1 h3 hf)
theorem c_gX3_size (hx : p.tables.exec = Jvm.exec) (hb : c.code = cc) (hts : ∀ w ∈ KW, w.before args s = true) (hown : s.vm.findClass own = some m.cls) (hK : va_K (dC, dI) vwCl (jtys kA) s) (hP : va_P (dC, dI) vwCl (c_w kA ad σ) H) (hlink : (Cond.fieldLink own idx "WalkedRounds$LineWalk" "size" "I").before args s = true) (hdg : decode cc pc = .ok (.getfield idx, 3)) (kk : W p l e R s m args below meth c H locs cells slots Q (F0 m (pc + 3) ls (.int (rg_I σ 20) :: rest))) : W p l e R s m args below meth c H locs cells slots Q (F0 m pc ls (.ref (ad 31) :: rest)) := va_get (D := (dC, dI)) (ci := 3) (C := RX3) (T := TX3) (N := 11) hx hb hts inK_X3 hown hK hP 31 rfl rfl 10 (by decide) hlink (fun _ h => h) rfl hdg kk
theorem c_pX3_size (hx : p.tables.exec = Jvm.exec) (hb : c.code = cc) (hts : ∀ w ∈ KW, w.before args s = true) (hown : s.vm.findClass own = some m.cls) (hK : va_K (dC, dI) vwCl (jtys kA) s) (hap : jw_ap 57 ad) (hP : va_P (dC, dI) vwCl (c_w kA ad σ) H) (hS : va_S (jw_A 57 ad) H0 H locs) {v : Int32} {F : RS → Option β} (hf : kn_v (rs_I σ 20 v) F = some r) (hlink : (Cond.fieldLink own idx "WalkedRounds$LineWalk" "size" "I").before args s = true) (hdg : decode cc pc = .ok (.putfield idx, 3)) (kk : ∀ (σ2 : RS) (H1 : Heap) (locs1 : List Loc), va_P (dC, dI) vwCl (c_w kA ad σ2) H1 → va_S (jw_A 57 ad) H0 H1 locs1 → F σ2 = some r → W p l e R s m args below meth c H1 locs1 cells slots Q (F0 m (pc + 3) ls rest)) : W p l e R s m args below meth c H locs cells slots Q (F0 m pc ls (.int v :: .ref (ad 31) :: rest)) := va_put (D := (dC, dI)) (ci := 3) (v := .int v) (ty := .int) (C := RX3) (T := TX3) (N := 11) hx hb hts inK_X3 tyX3 tyX3_ok nmX3 hown hK hP (c_D hap σ) hS 31 rfl rfl 10 (by decide) hlink (fun _ h => h) rfl (by decide +kernel) rfl rfl (Nat.le_of_ble_eq_true rfl) hdg (fun H1 locs1 h1 _ h3 => kk (rs_I σ 20 v) H1 locs1 h1 h3 hf)
theorem c_gX4_states (hx : p.tables.exec = Jvm.exec) (hb : c.code = cc) (hts : ∀ w ∈ KW, w.before args s = true) (hown : s.vm.findClass own = some m.cls) (hK : va_K (dC, dI) vwCl (jtys kA) s) {j : Nat} (hj : j < 7) (hP : va_P (dC, dI) vwCl (c_w kA ad σ) H) (hlink : (Cond.fieldLink own idx "WalkedRounds$Memory" "states" "[J").before args s = true) (hdg : decode cc pc = .ok (.getfield idx, 3)) (kk : W p l e R s m args below meth c H locs cells slots Q (F0 m (pc + 3) ls (.ref (ad (36 + 3 * j + 1)) :: rest))) : W p l e R s m args below meth c H locs cells slots Q (F0 m pc ls (.ref (ad (36 + 3 * j)) :: rest)) := va_get (D := (dC, dI)) (ci := 4) (C := RX4) (T := TX4) (N := 4) hx hb hts inK_X4 hown hK hP (36 + 3 * j) (c_lmem hj) rfl 0 (by decide) hlink (fun _ h => h) rfl hdg kk
theorem c_gX4_awake (hx : p.tables.exec = Jvm.exec) (hb : c.code = cc) (hts : ∀ w ∈ KW, w.before args s = true) (hown : s.vm.findClass own = some m.cls) (hK : va_K (dC, dI) vwCl (jtys kA) s) {j : Nat} (hj : j < 7) (hP : va_P (dC, dI) vwCl (c_w kA ad σ) H) (hlink : (Cond.fieldLink own idx "WalkedRounds$Memory" "awake" "[Z").before args s = true) (hdg : decode cc pc = .ok (.getfield idx, 3)) (kk : W p l e R s m args below meth c H locs cells slots Q (F0 m (pc + 3) ls (.ref (ad (36 + 3 * j + 2)) :: rest))) : W p l e R s m args below meth c H locs cells slots Q (F0 m pc ls (.ref (ad (36 + 3 * j)) :: rest)) := va_get (D := (dC, dI)) (ci := 4) (C := RX4) (T := TX4) (N := 4) hx hb hts inK_X4 hown hK hP (36 + 3 * j) (c_lmem hj) rfl 1 (by decide) hlink (fun _ h => h) rfl hdg kk
theorem c_gX4_rounds (hx : p.tables.exec = Jvm.exec) (hb : c.code = cc) (hts : ∀ w ∈ KW, w.before args s = true) (hown : s.vm.findClass own = some m.cls) (hK : va_K (dC, dI) vwCl (jtys kA) s) {j : Nat} (hj : j < 7) (hP : va_P (dC, dI) vwCl (c_w kA ad σ) H) (hlink : (Cond.fieldLink own idx "WalkedRounds$Memory" "rounds" "I").before args s = true) (hdg : decode cc pc = .ok (.getfield idx, 3)) (kk : W p l e R s m args below meth c H locs cells slots Q (F0 m (pc + 3) ls (.int (rg_I σ (21 + j)) :: rest))) : W p l e R s m args below meth c H locs cells slots Q (F0 m pc ls (.ref (ad (36 + 3 * j)) :: rest)) := va_get (D := (dC, dI)) (ci := 4) (C := RX4) (T := TX4) (N := 4) hx hb hts inK_X4 hown hK hP (36 + 3 * j) (c_lmem hj) rfl 2 (by decide) hlink (fun _ h => h) rfl hdg kk
theorem c_pX4_rounds (hx : p.tables.exec = Jvm.exec) (hb : c.code = cc) (hts : ∀ w ∈ KW, w.before args s = true) (hown : s.vm.findClass own = some m.cls) (hK : va_K (dC, dI) vwCl (jtys kA) s) (hap : jw_ap 57 ad) {j : Nat} (hj : j < 7) (hP : va_P (dC, dI) vwCl (c_w kA ad σ) H) (hS : va_S (jw_A 57 ad) H0 H locs) {v : Int32} {F : RS → Option β} (hf : kn_v (rs_I σ (21 + j) v) F = some r) (hlink : (Cond.fieldLink own idx "WalkedRounds$Memory" "rounds" "I").before args s = true) (hdg : decode cc pc = .ok (.putfield idx, 3)) (kk : ∀ (σ2 : RS) (H1 : Heap) (locs1 : List Loc), va_P (dC, dI) vwCl (c_w kA ad σ2) H1 → va_S (jw_A 57 ad) H0 H1 locs1 → F σ2 = some r → W p l e R s m args below meth c H1 locs1 cells slots Q (F0 m (pc + 3) ls rest)) : W p l e R s m args below meth c H locs cells slots Q (F0 m pc ls (.int v :: .ref (ad (36 + 3 * j)) :: rest)) := va_put (D := (dC, dI)) (ci := 4) (v := .int v) (ty := .int) (C := RX4) (T := TX4) (N := 4) hx hb hts inK_X4 tyX4 tyX4_ok nmX4 hown hK hP (c_D hap σ) hS (36 + 3 * j) (c_lmem hj) rfl 2 (by decide) hlink (fun _ h => h) rfl (by decide +kernel) rfl rfl (Nat.le_of_ble_eq_true rfl) hdg (fun H1 locs1 h1 _ h3 => kk (rs_I σ (21 + j) v) H1 locs1 (c_smI hj ▸ h1) h3 hf)
theorem c_gX4_sum (hx : p.tables.exec = Jvm.exec) (hb : c.code = cc) (hts : ∀ w ∈ KW, w.before args s = true) (hown : s.vm.findClass own = some m.cls) (hK : va_K (dC, dI) vwCl (jtys kA) s) {j : Nat} (hj : j < 7) (hP : va_P (dC, dI) vwCl (c_w kA ad σ) H) (hlink : (Cond.fieldLink own idx "WalkedRounds$Memory" "sum" "J").before args s = true) (hdg : decode cc pc = .ok (.getfield idx, 3)) (kk : W p l e R s m args below meth c H locs cells slots Q (F0 m (pc + 3) ls (.long (rg_L σ (2 + j)) :: rest))) : W p l e R s m args below meth c H locs cells slots Q (F0 m pc ls (.ref (ad (36 + 3 * j)) :: rest)) := va_get (D := (dC, dI)) (ci := 4) (C := RX4) (T := TX4) (N := 4) hx hb hts inK_X4 hown hK hP (36 + 3 * j) (c_lmem hj) rfl 3 (by decide) hlink (fun _ h => h) rfl hdg kk
theorem c_pX4_sum (hx : p.tables.exec = Jvm.exec) (hb : c.code = cc) (hts : ∀ w ∈ KW, w.before args s = true) (hown : s.vm.findClass own = some m.cls) (hK : va_K (dC, dI) vwCl (jtys kA) s) (hap : jw_ap 57 ad) {j : Nat} (hj : j < 7) (hP : va_P (dC, dI) vwCl (c_w kA ad σ) H) (hS : va_S (jw_A 57 ad) H0 H locs) {v : Int64} {F : RS → Option β} (hf : kn_v (rs_L σ (2 + j) v) F = some r) (hlink : (Cond.fieldLink own idx "WalkedRounds$Memory" "sum" "J").before args s = true) (hdg : decode cc pc = .ok (.putfield idx, 3)) (kk : ∀ (σ2 : RS) (H1 : Heap) (locs1 : List Loc), va_P (dC, dI) vwCl (c_w kA ad σ2) H1 → va_S (jw_A 57 ad) H0 H1 locs1 → F σ2 = some r → W p l e R s m args below meth c H1 locs1 cells slots Q (F0 m (pc + 3) ls rest)) : W p l e R s m args below meth c H locs cells slots Q (F0 m pc ls (.long v :: .ref (ad (36 + 3 * j)) :: rest)) := va_put (D := (dC, dI)) (ci := 4) (v := .long v) (ty := .long) (C := RX4) (T := TX4) (N := 4) hx hb hts inK_X4 tyX4 tyX4_ok nmX4 hown hK hP (c_D hap σ) hS (36 + 3 * j) (c_lmem hj) rfl 3 (by decide) hlink (fun _ h => h) rfl (by decide +kernel) rfl rfl (Nat.le_of_ble_eq_true rfl) hdg (fun H1 locs1 h1 _ h3 => kk (rs_L σ (2 + j) v) H1 locs1 (c_smL hj ▸ h1) h3 hf)
end LYc
end
section
theorem dX1_setFolded_0 : decode cX1_setFolded 0 = .ok (.aload_n 0, 1) := by decide +kernel
theorem dX1_setFolded_1 : decode cX1_setFolded 1 = .ok (.lload_n 1, 1) := by decide +kernel
theorem dX1_setFolded_2 : decode cX1_setFolded 2 = .ok (.putfield 30, 3) := by decide +kernel
theorem dX1_setFolded_5 : decode cX1_setFolded 5 = .ok (.aload_n 0, 1) := by decide +kernel
theorem dX1_setFolded_6 : decode cX1_setFolded 6 = .ok (.iload_n 3, 1) := by decide +kernel
theorem dX1_setFolded_7 : decode cX1_setFolded 7 = .ok (.putfield 34, 3) := by decide +kernel
theorem dX1_setFolded_10 : decode cX1_setFolded 10 = .ok (.return_, 1) := by decide +kernel
theorem dX1_plainValue_0 : decode cX1_plainValue 0 = .ok (.aload_n 0, 1) := by decide +kernel
theorem dX1_plainValue_1 : decode cX1_plainValue 1 = .ok (.getfield 9, 3) := by decide +kernel
theorem dX1_plainValue_4 : decode cX1_plainValue 4 = .ok (.getfield 44, 3) := by decide +kernel
theorem dX1_plainValue_7 : decode cX1_plainValue 7 = .ok (.iload_n 1, 1) := by decide +kernel
theorem dX1_plainValue_8 : decode cX1_plainValue 8 = .ok (.iaload, 1) := by decide +kernel
theorem dX1_plainValue_9 : decode cX1_plainValue 9 = .ok (.tableswitch 126 1 7 #[43, 66, 85, 90, 96, 107, 118], 43) := by decide +kernel
theorem dX1_plainValue_52 : decode cX1_plainValue 52 = .ok (.aload_n 0, 1) := by decide +kernel
theorem dX1_plainValue_53 : decode cX1_plainValue 53 = .ok (.getfield 15, 3) := by decide +kernel
theorem dX1_plainValue_56 : decode cX1_plainValue 56 = .ok (.getfield 75, 3) := by decide +kernel
theorem dX1_plainValue_59 : decode cX1_plainValue 59 = .ok (.iload_n 2, 1) := by decide +kernel
theorem dX1_plainValue_60 : decode cX1_plainValue 60 = .ok (.iconst 3, 1) := by decide +kernel
theorem dX1_plainValue_61 : decode cX1_plainValue 61 = .ok (.imul, 1) := by decide +kernel
theorem dX1_plainValue_62 : decode cX1_plainValue 62 = .ok (.aload_n 0, 1) := by decide +kernel
theorem dX1_plainValue_63 : decode cX1_plainValue 63 = .ok (.getfield 9, 3) := by decide +kernel
theorem dX1_plainValue_66 : decode cX1_plainValue 66 = .ok (.getfield 81, 3) := by decide +kernel
theorem dX1_plainValue_69 : decode cX1_plainValue 69 = .ok (.iload_n 1, 1) := by decide +kernel
theorem dX1_plainValue_70 : decode cX1_plainValue 70 = .ok (.laload, 1) := by decide +kernel
theorem dX1_plainValue_71 : decode cX1_plainValue 71 = .ok (.l2i, 1) := by decide +kernel
theorem dX1_plainValue_72 : decode cX1_plainValue 72 = .ok (.iadd, 1) := by decide +kernel
theorem dX1_plainValue_73 : decode cX1_plainValue 73 = .ok (.laload, 1) := by decide +kernel
theorem dX1_plainValue_74 : decode cX1_plainValue 74 = .ok (.lreturn, 1) := by decide +kernel
theorem dX1_plainValue_75 : decode cX1_plainValue 75 = .ok (.iload_n 3, 1) := by decide +kernel
theorem dX1_plainValue_76 : decode cX1_plainValue 76 = .ok (.iconst (-1), 1) := by decide +kernel
theorem dX1_plainValue_77 : decode cX1_plainValue 77 = .ok (.if_icmp .ne 7, 3) := by decide +kernel
theorem dX1_plainValue_80 : decode cX1_plainValue 80 = .ok (.lconst 0, 1) := by decide +kernel
theorem dX1_plainValue_81 : decode cX1_plainValue 81 = .ok (.goto 12, 3) := by decide +kernel
theorem dX1_plainValue_84 : decode cX1_plainValue 84 = .ok (.aload_n 0, 1) := by decide +kernel
theorem dX1_plainValue_85 : decode cX1_plainValue 85 = .ok (.getfield 15, 3) := by decide +kernel
theorem dX1_plainValue_88 : decode cX1_plainValue 88 = .ok (.getfield 84, 3) := by decide +kernel
theorem dX1_plainValue_91 : decode cX1_plainValue 91 = .ok (.iload_n 3, 1) := by decide +kernel
theorem dX1_plainValue_92 : decode cX1_plainValue 92 = .ok (.laload, 1) := by decide +kernel
theorem dX1_plainValue_93 : decode cX1_plainValue 93 = .ok (.lreturn, 1) := by decide +kernel
theorem dX1_plainValue_94 : decode cX1_plainValue 94 = .ok (.aload_n 0, 1) := by decide +kernel
theorem dX1_plainValue_95 : decode cX1_plainValue 95 = .ok (.getfield 30, 3) := by decide +kernel
theorem dX1_plainValue_98 : decode cX1_plainValue 98 = .ok (.lreturn, 1) := by decide +kernel
theorem dX1_plainValue_99 : decode cX1_plainValue 99 = .ok (.aload_n 0, 1) := by decide +kernel
theorem dX1_plainValue_100 : decode cX1_plainValue 100 = .ok (.getfield 34, 3) := by decide +kernel
theorem dX1_plainValue_103 : decode cX1_plainValue 103 = .ok (.i2l, 1) := by decide +kernel
theorem dX1_plainValue_104 : decode cX1_plainValue 104 = .ok (.lreturn, 1) := by decide +kernel
theorem dX1_plainValue_105 : decode cX1_plainValue 105 = .ok (.aload_n 0, 1) := by decide +kernel
theorem dX1_plainValue_106 : decode cX1_plainValue 106 = .ok (.getfield 15, 3) := by decide +kernel
theorem dX1_plainValue_109 : decode cX1_plainValue 109 = .ok (.getfield 87, 3) := by decide +kernel
theorem dX1_plainValue_112 : decode cX1_plainValue 112 = .ok (.iconst 1, 1) := by decide +kernel
theorem dX1_plainValue_113 : decode cX1_plainValue 113 = .ok (.iadd, 1) := by decide +kernel
theorem dX1_plainValue_114 : decode cX1_plainValue 114 = .ok (.i2l, 1) := by decide +kernel
theorem dX1_plainValue_115 : decode cX1_plainValue 115 = .ok (.lreturn, 1) := by decide +kernel
theorem dX1_plainValue_116 : decode cX1_plainValue 116 = .ok (.aload_n 0, 1) := by decide +kernel
theorem dX1_plainValue_117 : decode cX1_plainValue 117 = .ok (.getfield 15, 3) := by decide +kernel
theorem dX1_plainValue_120 : decode cX1_plainValue 120 = .ok (.getfield 90, 3) := by decide +kernel
theorem dX1_plainValue_123 : decode cX1_plainValue 123 = .ok (.iload_n 2, 1) := by decide +kernel
theorem dX1_plainValue_124 : decode cX1_plainValue 124 = .ok (.iaload, 1) := by decide +kernel
theorem dX1_plainValue_125 : decode cX1_plainValue 125 = .ok (.i2l, 1) := by decide +kernel
theorem dX1_plainValue_126 : decode cX1_plainValue 126 = .ok (.lreturn, 1) := by decide +kernel
theorem dX1_plainValue_127 : decode cX1_plainValue 127 = .ok (.aload_n 0, 1) := by decide +kernel
theorem dX1_plainValue_128 : decode cX1_plainValue 128 = .ok (.getfield 15, 3) := by decide +kernel
theorem dX1_plainValue_131 : decode cX1_plainValue 131 = .ok (.getfield 93, 3) := by decide +kernel
theorem dX1_plainValue_134 : decode cX1_plainValue 134 = .ok (.lreturn, 1) := by decide +kernel
theorem dX1_plainValue_135 : decode cX1_plainValue 135 = .ok (.aload_n 0, 1) := by decide +kernel
theorem dX1_plainValue_136 : decode cX1_plainValue 136 = .ok (.getfield 9, 3) := by decide +kernel
theorem dX1_plainValue_139 : decode cX1_plainValue 139 = .ok (.getfield 81, 3) := by decide +kernel
theorem dX1_plainValue_142 : decode cX1_plainValue 142 = .ok (.iload_n 1, 1) := by decide +kernel
theorem dX1_plainValue_143 : decode cX1_plainValue 143 = .ok (.laload, 1) := by decide +kernel
theorem dX1_plainValue_144 : decode cX1_plainValue 144 = .ok (.lreturn, 1) := by decide +kernel
theorem dX1_stateAt_0 : decode cX1_stateAt 0 = .ok (.iload_n 2, 1) := by decide +kernel
theorem dX1_stateAt_1 : decode cX1_stateAt 1 = .ok (.ifCond .lt 22, 3) := by decide +kernel
theorem dX1_stateAt_4 : decode cX1_stateAt 4 = .ok (.iload_n 2, 1) := by decide +kernel
theorem dX1_stateAt_5 : decode cX1_stateAt 5 = .ok (.iconst 3, 1) := by decide +kernel
theorem dX1_stateAt_6 : decode cX1_stateAt 6 = .ok (.if_icmp .ge 17, 3) := by decide +kernel
theorem dX1_stateAt_9 : decode cX1_stateAt 9 = .ok (.aload_n 0, 1) := by decide +kernel
theorem dX1_stateAt_10 : decode cX1_stateAt 10 = .ok (.getfield 15, 3) := by decide +kernel
theorem dX1_stateAt_13 : decode cX1_stateAt 13 = .ok (.getfield 75, 3) := by decide +kernel
theorem dX1_stateAt_16 : decode cX1_stateAt 16 = .ok (.iload_n 1, 1) := by decide +kernel
theorem dX1_stateAt_17 : decode cX1_stateAt 17 = .ok (.iconst 3, 1) := by decide +kernel
theorem dX1_stateAt_18 : decode cX1_stateAt 18 = .ok (.imul, 1) := by decide +kernel
theorem dX1_stateAt_19 : decode cX1_stateAt 19 = .ok (.iload_n 2, 1) := by decide +kernel
theorem dX1_stateAt_20 : decode cX1_stateAt 20 = .ok (.iadd, 1) := by decide +kernel
theorem dX1_stateAt_21 : decode cX1_stateAt 21 = .ok (.laload, 1) := by decide +kernel
theorem dX1_stateAt_22 : decode cX1_stateAt 22 = .ok (.lreturn, 1) := by decide +kernel
theorem dX1_stateAt_23 : decode cX1_stateAt 23 = .ok (.aload_n 0, 1) := by decide +kernel
theorem dX1_stateAt_24 : decode cX1_stateAt 24 = .ok (.iconst 2, 1) := by decide +kernel
theorem dX1_stateAt_25 : decode cX1_stateAt 25 = .ok (.putfield 23, 3) := by decide +kernel
theorem dX1_stateAt_28 : decode cX1_stateAt 28 = .ok (.lconst 0, 1) := by decide +kernel
theorem dX1_stateAt_29 : decode cX1_stateAt 29 = .ok (.lreturn, 1) := by decide +kernel
theorem dX1_joined_0 : decode cX1_joined 0 = .ok (.iload_n 1, 1) := by decide +kernel
theorem dX1_joined_1 : decode cX1_joined 1 = .ok (.tableswitch 103 8 15 #[47, 52, 57, 103, 103, 62, 76, 90], 47) := by decide +kernel
theorem dX1_joined_48 : decode cX1_joined 48 = .ok (.lload_n 2, 1) := by decide +kernel
theorem dX1_joined_49 : decode cX1_joined 49 = .ok (.lload 4, 2) := by decide +kernel
theorem dX1_joined_51 : decode cX1_joined 51 = .ok (.ladd, 1) := by decide +kernel
theorem dX1_joined_52 : decode cX1_joined 52 = .ok (.lreturn, 1) := by decide +kernel
theorem dX1_joined_53 : decode cX1_joined 53 = .ok (.lload_n 2, 1) := by decide +kernel
theorem dX1_joined_54 : decode cX1_joined 54 = .ok (.lload 4, 2) := by decide +kernel
theorem dX1_joined_56 : decode cX1_joined 56 = .ok (.lsub, 1) := by decide +kernel
theorem dX1_joined_57 : decode cX1_joined 57 = .ok (.lreturn, 1) := by decide +kernel
theorem dX1_joined_58 : decode cX1_joined 58 = .ok (.lload_n 2, 1) := by decide +kernel
theorem dX1_joined_59 : decode cX1_joined 59 = .ok (.lload 4, 2) := by decide +kernel
theorem dX1_joined_61 : decode cX1_joined 61 = .ok (.lmul, 1) := by decide +kernel
theorem dX1_joined_62 : decode cX1_joined 62 = .ok (.lreturn, 1) := by decide +kernel
theorem dX1_joined_63 : decode cX1_joined 63 = .ok (.lload_n 2, 1) := by decide +kernel
theorem dX1_joined_64 : decode cX1_joined 64 = .ok (.lload 4, 2) := by decide +kernel
theorem dX1_joined_66 : decode cX1_joined 66 = .ok (.lcmp, 1) := by decide +kernel
theorem dX1_joined_67 : decode cX1_joined 67 = .ok (.ifCond .ge 7, 3) := by decide +kernel
theorem dX1_joined_70 : decode cX1_joined 70 = .ok (.lload_n 2, 1) := by decide +kernel
theorem dX1_joined_71 : decode cX1_joined 71 = .ok (.goto 5, 3) := by decide +kernel
theorem dX1_joined_74 : decode cX1_joined 74 = .ok (.lload 4, 2) := by decide +kernel
theorem dX1_joined_76 : decode cX1_joined 76 = .ok (.lreturn, 1) := by decide +kernel
theorem dX1_joined_77 : decode cX1_joined 77 = .ok (.lload_n 2, 1) := by decide +kernel
theorem dX1_joined_78 : decode cX1_joined 78 = .ok (.lload 4, 2) := by decide +kernel
theorem dX1_joined_80 : decode cX1_joined 80 = .ok (.lcmp, 1) := by decide +kernel
theorem dX1_joined_81 : decode cX1_joined 81 = .ok (.ifCond .le 7, 3) := by decide +kernel
theorem dX1_joined_84 : decode cX1_joined 84 = .ok (.lload_n 2, 1) := by decide +kernel
theorem dX1_joined_85 : decode cX1_joined 85 = .ok (.goto 5, 3) := by decide +kernel
theorem dX1_joined_88 : decode cX1_joined 88 = .ok (.lload 4, 2) := by decide +kernel
theorem dX1_joined_90 : decode cX1_joined 90 = .ok (.lreturn, 1) := by decide +kernel
theorem dX1_joined_91 : decode cX1_joined 91 = .ok (.lload_n 2, 1) := by decide +kernel
theorem dX1_joined_92 : decode cX1_joined 92 = .ok (.lload 4, 2) := by decide +kernel
theorem dX1_joined_94 : decode cX1_joined 94 = .ok (.lcmp, 1) := by decide +kernel
theorem dX1_joined_95 : decode cX1_joined 95 = .ok (.ifCond .ge 7, 3) := by decide +kernel
theorem dX1_joined_98 : decode cX1_joined 98 = .ok (.lconst 1, 1) := by decide +kernel
theorem dX1_joined_99 : decode cX1_joined 99 = .ok (.goto 4, 3) := by decide +kernel
theorem dX1_joined_102 : decode cX1_joined 102 = .ok (.lconst 0, 1) := by decide +kernel
theorem dX1_joined_103 : decode cX1_joined 103 = .ok (.lreturn, 1) := by decide +kernel
theorem dX1_joined_104 : decode cX1_joined 104 = .ok (.lload 4, 2) := by decide +kernel
theorem dX1_joined_106 : decode cX1_joined 106 = .ok (.lconst 0, 1) := by decide +kernel
theorem dX1_joined_107 : decode cX1_joined 107 = .ok (.lcmp, 1) := by decide +kernel
theorem dX1_joined_108 : decode cX1_joined 108 = .ok (.ifCond .eq 21, 3) := by decide +kernel
theorem dX1_joined_111 : decode cX1_joined 111 = .ok (.iload_n 1, 1) := by decide +kernel
theorem dX1_joined_112 : decode cX1_joined 112 = .ok (.bipush 11, 2) := by decide +kernel
theorem dX1_joined_114 : decode cX1_joined 114 = .ok (.if_icmp .ne 10, 3) := by decide +kernel
theorem dX1_joined_117 : decode cX1_joined 117 = .ok (.lload_n 2, 1) := by decide +kernel
theorem dX1_joined_118 : decode cX1_joined 118 = .ok (.lload 4, 2) := by decide +kernel
theorem dX1_joined_120 : decode cX1_joined 120 = .ok (.ldiv, 1) := by decide +kernel
theorem dX1_joined_121 : decode cX1_joined 121 = .ok (.goto 7, 3) := by decide +kernel
theorem dX1_joined_124 : decode cX1_joined 124 = .ok (.lload_n 2, 1) := by decide +kernel
theorem dX1_joined_125 : decode cX1_joined 125 = .ok (.lload 4, 2) := by decide +kernel
theorem dX1_joined_127 : decode cX1_joined 127 = .ok (.lrem, 1) := by decide +kernel
theorem dX1_joined_128 : decode cX1_joined 128 = .ok (.lreturn, 1) := by decide +kernel
theorem dX1_joined_129 : decode cX1_joined 129 = .ok (.aload_n 0, 1) := by decide +kernel
theorem dX1_joined_130 : decode cX1_joined 130 = .ok (.iconst 1, 1) := by decide +kernel
theorem dX1_joined_131 : decode cX1_joined 131 = .ok (.putfield 23, 3) := by decide +kernel
theorem dX1_joined_134 : decode cX1_joined 134 = .ok (.lconst 0, 1) := by decide +kernel
theorem dX1_joined_135 : decode cX1_joined 135 = .ok (.lreturn, 1) := by decide +kernel
theorem dX1_fails_0 : decode cX1_fails 0 = .ok (.aload_n 0, 1) := by decide +kernel
theorem dX1_fails_1 : decode cX1_fails 1 = .ok (.iload_n 1, 1) := by decide +kernel
theorem dX1_fails_2 : decode cX1_fails 2 = .ok (.putfield 23, 3) := by decide +kernel
theorem dX1_fails_5 : decode cX1_fails 5 = .ok (.lconst 0, 1) := by decide +kernel
theorem dX1_fails_6 : decode cX1_fails 6 = .ok (.lreturn, 1) := by decide +kernel
theorem dX2_clear_0 : decode cX2_clear 0 = .ok (.aload_n 0, 1) := by decide +kernel
theorem dX2_clear_1 : decode cX2_clear 1 = .ok (.iconst 0, 1) := by decide +kernel
theorem dX2_clear_2 : decode cX2_clear 2 = .ok (.putfield 9, 3) := by decide +kernel
theorem dX2_clear_5 : decode cX2_clear 5 = .ok (.return_, 1) := by decide +kernel
theorem dX2_is_0 : decode cX2_is 0 = .ok (.aload_n 0, 1) := by decide +kernel
theorem dX2_is_1 : decode cX2_is 1 = .ok (.getfield 9, 3) := by decide +kernel
theorem dX2_is_4 : decode cX2_is 4 = .ok (.ifCond .eq 7, 3) := by decide +kernel
theorem dX2_is_7 : decode cX2_is 7 = .ok (.iconst 1, 1) := by decide +kernel
theorem dX2_is_8 : decode cX2_is 8 = .ok (.goto 4, 3) := by decide +kernel
theorem dX2_is_11 : decode cX2_is 11 = .ok (.iconst 0, 1) := by decide +kernel
theorem dX2_is_12 : decode cX2_is 12 = .ok (.ireturn, 1) := by decide +kernel
theorem dX2_keep_0 : decode cX2_keep 0 = .ok (.aload_n 0, 1) := by decide +kernel
theorem dX2_keep_1 : decode cX2_keep 1 = .ok (.iload_n 1, 1) := by decide +kernel
theorem dX2_keep_2 : decode cX2_keep 2 = .ok (.putfield 9, 3) := by decide +kernel
theorem dX2_keep_5 : decode cX2_keep 5 = .ok (.aload_n 0, 1) := by decide +kernel
theorem dX2_keep_6 : decode cX2_keep 6 = .ok (.iload_n 2, 1) := by decide +kernel
theorem dX2_keep_7 : decode cX2_keep 7 = .ok (.putfield 15, 3) := by decide +kernel
theorem dX2_keep_10 : decode cX2_keep 10 = .ok (.aload_n 0, 1) := by decide +kernel
theorem dX2_keep_11 : decode cX2_keep 11 = .ok (.iload_n 3, 1) := by decide +kernel
theorem dX2_keep_12 : decode cX2_keep 12 = .ok (.putfield 18, 3) := by decide +kernel
theorem dX2_keep_15 : decode cX2_keep 15 = .ok (.aload_n 0, 1) := by decide +kernel
theorem dX2_keep_16 : decode cX2_keep 16 = .ok (.iload 4, 2) := by decide +kernel
theorem dX2_keep_18 : decode cX2_keep 18 = .ok (.putfield 21, 3) := by decide +kernel
theorem dX2_keep_21 : decode cX2_keep 21 = .ok (.aload_n 0, 1) := by decide +kernel
theorem dX2_keep_22 : decode cX2_keep 22 = .ok (.iload 5, 2) := by decide +kernel
theorem dX2_keep_24 : decode cX2_keep 24 = .ok (.putfield 24, 3) := by decide +kernel
theorem dX2_keep_27 : decode cX2_keep 27 = .ok (.return_, 1) := by decide +kernel
theorem dX2_tell_0 : decode cX2_tell 0 = .ok (.iload_n 1, 1) := by decide +kernel
theorem dX2_tell_1 : decode cX2_tell 1 = .ok (.ifCond .lt 8, 3) := by decide +kernel
theorem dX2_tell_4 : decode cX2_tell 4 = .ok (.iload_n 1, 1) := by decide +kernel
theorem dX2_tell_5 : decode cX2_tell 5 = .ok (.iconst 4, 1) := by decide +kernel
theorem dX2_tell_6 : decode cX2_tell 6 = .ok (.if_icmp .le 6, 3) := by decide +kernel
theorem dX2_tell_9 : decode cX2_tell 9 = .ok (.bipush (-102), 2) := by decide +kernel
theorem dX2_tell_11 : decode cX2_tell 11 = .ok (.ireturn, 1) := by decide +kernel
theorem dX2_tell_12 : decode cX2_tell 12 = .ok (.iload_n 1, 1) := by decide +kernel
theorem dX2_tell_13 : decode cX2_tell 13 = .ok (.ifCond .ne 8, 3) := by decide +kernel
theorem dX2_tell_16 : decode cX2_tell 16 = .ok (.aload_n 0, 1) := by decide +kernel
theorem dX2_tell_17 : decode cX2_tell 17 = .ok (.getfield 9, 3) := by decide +kernel
theorem dX2_tell_20 : decode cX2_tell 20 = .ok (.ireturn, 1) := by decide +kernel
theorem dX2_tell_21 : decode cX2_tell 21 = .ok (.aload_n 0, 1) := by decide +kernel
theorem dX2_tell_22 : decode cX2_tell 22 = .ok (.getfield 9, 3) := by decide +kernel
theorem dX2_tell_25 : decode cX2_tell 25 = .ok (.ifCond .ne 5, 3) := by decide +kernel
theorem dX2_tell_28 : decode cX2_tell 28 = .ok (.iconst (-1), 1) := by decide +kernel
theorem dX2_tell_29 : decode cX2_tell 29 = .ok (.ireturn, 1) := by decide +kernel
theorem dX2_tell_30 : decode cX2_tell 30 = .ok (.iload_n 1, 1) := by decide +kernel
theorem dX2_tell_31 : decode cX2_tell 31 = .ok (.tableswitch 40 1 3 #[25, 30, 35], 25) := by decide +kernel
theorem dX2_tell_56 : decode cX2_tell 56 = .ok (.aload_n 0, 1) := by decide +kernel
theorem dX2_tell_57 : decode cX2_tell 57 = .ok (.getfield 15, 3) := by decide +kernel
theorem dX2_tell_60 : decode cX2_tell 60 = .ok (.ireturn, 1) := by decide +kernel
theorem dX2_tell_61 : decode cX2_tell 61 = .ok (.aload_n 0, 1) := by decide +kernel
theorem dX2_tell_62 : decode cX2_tell 62 = .ok (.getfield 18, 3) := by decide +kernel
theorem dX2_tell_65 : decode cX2_tell 65 = .ok (.ireturn, 1) := by decide +kernel
theorem dX2_tell_66 : decode cX2_tell 66 = .ok (.aload_n 0, 1) := by decide +kernel
theorem dX2_tell_67 : decode cX2_tell 67 = .ok (.getfield 21, 3) := by decide +kernel
theorem dX2_tell_70 : decode cX2_tell 70 = .ok (.ireturn, 1) := by decide +kernel
theorem dX2_tell_71 : decode cX2_tell 71 = .ok (.aload_n 0, 1) := by decide +kernel
theorem dX2_tell_72 : decode cX2_tell 72 = .ok (.getfield 24, 3) := by decide +kernel
theorem dX2_tell_75 : decode cX2_tell 75 = .ok (.ireturn, 1) := by decide +kernel
theorem dX4_take_0 : decode cX4_take 0 = .ok (.aload_n 1, 1) := by decide +kernel
theorem dX4_take_1 : decode cX4_take 1 = .ok (.getfield 19, 3) := by decide +kernel
theorem dX4_take_4 : decode cX4_take 4 = .ok (.iconst 0, 1) := by decide +kernel
theorem dX4_take_5 : decode cX4_take 5 = .ok (.aload_n 0, 1) := by decide +kernel
theorem dX4_take_6 : decode cX4_take 6 = .ok (.getfield 9, 3) := by decide +kernel
theorem dX4_take_9 : decode cX4_take 9 = .ok (.iconst 0, 1) := by decide +kernel
theorem dX4_take_10 : decode cX4_take 10 = .ok (.aload_n 0, 1) := by decide +kernel
theorem dX4_take_11 : decode cX4_take 11 = .ok (.getfield 9, 3) := by decide +kernel
theorem dX4_take_14 : decode cX4_take 14 = .ok (.arraylength, 1) := by decide +kernel
theorem dX4_take_15 : decode cX4_take 15 = .ok (.invokestatic 22, 3) := by decide +kernel
theorem dX4_take_18 : decode cX4_take 18 = .ok (.aload_n 1, 1) := by decide +kernel
theorem dX4_take_19 : decode cX4_take 19 = .ok (.getfield 28, 3) := by decide +kernel
theorem dX4_take_22 : decode cX4_take 22 = .ok (.iconst 0, 1) := by decide +kernel
theorem dX4_take_23 : decode cX4_take 23 = .ok (.aload_n 0, 1) := by decide +kernel
theorem dX4_take_24 : decode cX4_take 24 = .ok (.getfield 15, 3) := by decide +kernel
theorem dX4_take_27 : decode cX4_take 27 = .ok (.iconst 0, 1) := by decide +kernel
theorem dX4_take_28 : decode cX4_take 28 = .ok (.aload_n 0, 1) := by decide +kernel
theorem dX4_take_29 : decode cX4_take 29 = .ok (.getfield 15, 3) := by decide +kernel
theorem dX4_take_32 : decode cX4_take 32 = .ok (.arraylength, 1) := by decide +kernel
theorem dX4_take_33 : decode cX4_take 33 = .ok (.invokestatic 22, 3) := by decide +kernel
theorem dX4_take_36 : decode cX4_take 36 = .ok (.aload_n 0, 1) := by decide +kernel
theorem dX4_take_37 : decode cX4_take 37 = .ok (.aload_n 1, 1) := by decide +kernel
theorem dX4_take_38 : decode cX4_take 38 = .ok (.getfield 29, 3) := by decide +kernel
theorem dX4_take_41 : decode cX4_take 41 = .ok (.putfield 33, 3) := by decide +kernel
theorem dX4_take_44 : decode cX4_take 44 = .ok (.aload_n 0, 1) := by decide +kernel
theorem dX4_take_45 : decode cX4_take 45 = .ok (.aload_n 1, 1) := by decide +kernel
theorem dX4_take_46 : decode cX4_take 46 = .ok (.getfield 34, 3) := by decide +kernel
theorem dX4_take_49 : decode cX4_take 49 = .ok (.putfield 38, 3) := by decide +kernel
theorem dX4_take_52 : decode cX4_take 52 = .ok (.return_, 1) := by decide +kernel
theorem dX4_giveBack_0 : decode cX4_giveBack 0 = .ok (.aload_n 0, 1) := by decide +kernel
theorem dX4_giveBack_1 : decode cX4_giveBack 1 = .ok (.getfield 9, 3) := by decide +kernel
theorem dX4_giveBack_4 : decode cX4_giveBack 4 = .ok (.iconst 0, 1) := by decide +kernel
theorem dX4_giveBack_5 : decode cX4_giveBack 5 = .ok (.aload_n 1, 1) := by decide +kernel
theorem dX4_giveBack_6 : decode cX4_giveBack 6 = .ok (.getfield 19, 3) := by decide +kernel
theorem dX4_giveBack_9 : decode cX4_giveBack 9 = .ok (.iconst 0, 1) := by decide +kernel
theorem dX4_giveBack_10 : decode cX4_giveBack 10 = .ok (.aload_n 0, 1) := by decide +kernel
theorem dX4_giveBack_11 : decode cX4_giveBack 11 = .ok (.getfield 9, 3) := by decide +kernel
theorem dX4_giveBack_14 : decode cX4_giveBack 14 = .ok (.arraylength, 1) := by decide +kernel
theorem dX4_giveBack_15 : decode cX4_giveBack 15 = .ok (.invokestatic 22, 3) := by decide +kernel
theorem dX4_giveBack_18 : decode cX4_giveBack 18 = .ok (.aload_n 0, 1) := by decide +kernel
theorem dX4_giveBack_19 : decode cX4_giveBack 19 = .ok (.getfield 15, 3) := by decide +kernel
theorem dX4_giveBack_22 : decode cX4_giveBack 22 = .ok (.iconst 0, 1) := by decide +kernel
theorem dX4_giveBack_23 : decode cX4_giveBack 23 = .ok (.aload_n 1, 1) := by decide +kernel
theorem dX4_giveBack_24 : decode cX4_giveBack 24 = .ok (.getfield 28, 3) := by decide +kernel
theorem dX4_giveBack_27 : decode cX4_giveBack 27 = .ok (.iconst 0, 1) := by decide +kernel
theorem dX4_giveBack_28 : decode cX4_giveBack 28 = .ok (.aload_n 0, 1) := by decide +kernel
theorem dX4_giveBack_29 : decode cX4_giveBack 29 = .ok (.getfield 15, 3) := by decide +kernel
theorem dX4_giveBack_32 : decode cX4_giveBack 32 = .ok (.arraylength, 1) := by decide +kernel
theorem dX4_giveBack_33 : decode cX4_giveBack 33 = .ok (.invokestatic 22, 3) := by decide +kernel
theorem dX4_giveBack_36 : decode cX4_giveBack 36 = .ok (.aload_n 1, 1) := by decide +kernel
theorem dX4_giveBack_37 : decode cX4_giveBack 37 = .ok (.aload_n 0, 1) := by decide +kernel
theorem dX4_giveBack_38 : decode cX4_giveBack 38 = .ok (.getfield 33, 3) := by decide +kernel
theorem dX4_giveBack_41 : decode cX4_giveBack 41 = .ok (.putfield 29, 3) := by decide +kernel
theorem dX4_giveBack_44 : decode cX4_giveBack 44 = .ok (.aload_n 1, 1) := by decide +kernel
theorem dX4_giveBack_45 : decode cX4_giveBack 45 = .ok (.aload_n 0, 1) := by decide +kernel
theorem dX4_giveBack_46 : decode cX4_giveBack 46 = .ok (.getfield 38, 3) := by decide +kernel
theorem dX4_giveBack_49 : decode cX4_giveBack 49 = .ok (.putfield 34, 3) := by decide +kernel
theorem dX4_giveBack_52 : decode cX4_giveBack 52 = .ok (.return_, 1) := by decide +kernel
theorem dX5_mark_0 : decode cX5_mark 0 = .ok (.aload_n 0, 1) := by decide +kernel
theorem dX5_mark_1 : decode cX5_mark 1 = .ok (.getfield 13, 3) := by decide +kernel
theorem dX5_mark_4 : decode cX5_mark 4 = .ok (.aload_n 0, 1) := by decide +kernel
theorem dX5_mark_5 : decode cX5_mark 5 = .ok (.getfield 18, 3) := by decide +kernel
theorem dX5_mark_8 : decode cX5_mark 8 = .ok (.aaload, 1) := by decide +kernel
theorem dX5_mark_9 : decode cX5_mark 9 = .ok (.aload_n 1, 1) := by decide +kernel
theorem dX5_mark_10 : decode cX5_mark 10 = .ok (.invokevirtual 22, 3) := by decide +kernel
theorem dX5_mark_13 : decode cX5_mark 13 = .ok (.return_, 1) := by decide +kernel
theorem dX5_backToMark_0 : decode cX5_backToMark 0 = .ok (.aload_n 0, 1) := by decide +kernel
theorem dX5_backToMark_1 : decode cX5_backToMark 1 = .ok (.getfield 13, 3) := by decide +kernel
theorem dX5_backToMark_4 : decode cX5_backToMark 4 = .ok (.aload_n 0, 1) := by decide +kernel
theorem dX5_backToMark_5 : decode cX5_backToMark 5 = .ok (.getfield 18, 3) := by decide +kernel
theorem dX5_backToMark_8 : decode cX5_backToMark 8 = .ok (.aaload, 1) := by decide +kernel
theorem dX5_backToMark_9 : decode cX5_backToMark 9 = .ok (.aload_n 1, 1) := by decide +kernel
theorem dX5_backToMark_10 : decode cX5_backToMark 10 = .ok (.invokevirtual 26, 3) := by decide +kernel
theorem dX5_backToMark_13 : decode cX5_backToMark 13 = .ok (.return_, 1) := by decide +kernel
theorem dX5_keepMark_0 : decode cX5_keepMark 0 = .ok (.aload_n 0, 1) := by decide +kernel
theorem dX5_keepMark_1 : decode cX5_keepMark 1 = .ok (.aload_n 0, 1) := by decide +kernel
theorem dX5_keepMark_2 : decode cX5_keepMark 2 = .ok (.getfield 18, 3) := by decide +kernel
theorem dX5_keepMark_5 : decode cX5_keepMark 5 = .ok (.iconst 1, 1) := by decide +kernel
theorem dX5_keepMark_6 : decode cX5_keepMark 6 = .ok (.iadd, 1) := by decide +kernel
theorem dX5_keepMark_7 : decode cX5_keepMark 7 = .ok (.bipush 7, 2) := by decide +kernel
theorem dX5_keepMark_9 : decode cX5_keepMark 9 = .ok (.irem, 1) := by decide +kernel
theorem dX5_keepMark_10 : decode cX5_keepMark 10 = .ok (.putfield 18, 3) := by decide +kernel
theorem dX5_keepMark_13 : decode cX5_keepMark 13 = .ok (.aload_n 0, 1) := by decide +kernel
theorem dX5_keepMark_14 : decode cX5_keepMark 14 = .ok (.getfield 29, 3) := by decide +kernel
theorem dX5_keepMark_17 : decode cX5_keepMark 17 = .ok (.bipush 6, 2) := by decide +kernel
theorem dX5_keepMark_19 : decode cX5_keepMark 19 = .ok (.if_icmp .ge 13, 3) := by decide +kernel
theorem dX5_keepMark_22 : decode cX5_keepMark 22 = .ok (.aload_n 0, 1) := by decide +kernel
theorem dX5_keepMark_23 : decode cX5_keepMark 23 = .ok (.dup, 1) := by decide +kernel
theorem dX5_keepMark_24 : decode cX5_keepMark 24 = .ok (.getfield 29, 3) := by decide +kernel
theorem dX5_keepMark_27 : decode cX5_keepMark 27 = .ok (.iconst 1, 1) := by decide +kernel
theorem dX5_keepMark_28 : decode cX5_keepMark 28 = .ok (.iadd, 1) := by decide +kernel
theorem dX5_keepMark_29 : decode cX5_keepMark 29 = .ok (.putfield 29, 3) := by decide +kernel
theorem dX5_keepMark_32 : decode cX5_keepMark 32 = .ok (.return_, 1) := by decide +kernel
def rm_cX1_setFolded : Room := { frames := 0, cells := 0, slots := 0, locals := 0 }
def G_cX1_setFolded (p : Program) (l : Launch) (e : Env) (s : State) (m : MethodId) (args : Array Value) (below : List Frame) (meth : Method) (c : Code) (dC : Nat → ClassId) (dI : Nat → Nat → Nat) (kA : Nat → ClassId) (ad : Nat → Nat) (res : RS) (F : RS → Int64 → Int32 → Option (RS)) : Prop := ∀ (σ : RS) (x1 : Int64) (x3 : Int32), F σ x1 x3 = some res → ∀ (H : Heap) (locs : List Loc) (ls : Array Slot), va_P (dC, dI) vwCl (c_w kA ad σ) H → va_S (jw_A 57 ad) s.heap H locs → lv_has ls 4 [(0, .ref (ad 22)), (1, .long x1), (3, .int x3)] → W p l e rm_cX1_setFolded s m args below meth c H locs 0 0 (c_Qu below dC dI kA ad args s res) (F0 m 0 ls [])
def s_cX1_setFolded (σ : RS) (x1 : Int64) (x3 : Int32) : Option (RS) := kn_v (rs_L σ 1 x1) (fun σ1 => kn_v (rs_I σ1 14 x3) (fun σ2 => some σ2))
set_option maxRecDepth 100000 in
set_option maxHeartbeats 4000000 in
theorem p_cX1_setFolded {p : Program} {l : Launch} {e : Env} {s : State} {m : MethodId} {args : Array Value} {below : List Frame} {meth : Method} {c : Code} {dC : Nat → ClassId} {dI : Nat → Nat → Nat} {kA : Nat → ClassId} {ad : Nat → Nat} (C : jxc cX1_setFolded none 4 RX1 p s m args meth c dC dI kA) (hap : jw_ap 57 ad) {res : RS} : G_cX1_setFolded p l e s m args below meth c dC dI kA ad res (s_cX1_setFolded) := by
  obtain ⟨hx, hb, hml, hown, hts, hr, hlocks, hK, hN⟩ := id C
  intro σ x1 x3 hf H locs ls hP hS hl
  unfold s_cX1_setFolded at hf
  refine lv_aload_n hx hb dX1_setFolded_0 rfl (lv_at hl 0 rfl) ?_
  refine lv_lload_n hx hb dX1_setFolded_1 rfl (lv_at hl 1 rfl) ?_
  refine c_pX1_foldedValue hx hb hts hown hK hap hP hS hf (hts _ kw_279) dX1_setFolded_2 (fun σ1 H locs hP hS hf => ?_)
  refine lv_aload_n hx hb dX1_setFolded_5 rfl (lv_at hl 0 rfl) ?_
  refine lv_iload_n hx hb dX1_setFolded_6 rfl (lv_at hl 2 rfl) ?_
  refine c_pX1_foldedMessages hx hb hts hown hK hap hP hS hf (hts _ kw_277) dX1_setFolded_7 (fun σ2 H locs hP hS hf => ?_)
  exact jr_u hx hb hr hlocks hf hP hS dX1_setFolded_10
theorem c_cX1_setFolded (l : Launch) {dC : Nat → ClassId} {dI : Nat → Nat → Nat} {kA : Nat → ClassId} {ad : Nat → Nat} (hap : jw_ap 57 ad) (σ : RS) (x1 : Int64) (x3 : Int32) (res : RS) (hf : s_cX1_setFolded σ x1 x3 = some res) : jm_u l KW NW (dC, dI) vwCl (jtys kA) (jw_A 57 ad) (c_w kA ad) yX1_setFolded cX1_setFolded 4 (rm_cX1_setFolded) [.ref (ad 22), .long x1, .int x3] σ res := jm_u_of (by decide) (Nat.le_of_ble_eq_true rfl) (fun p e s m below meth c C hP hS ls hl => p_cX1_setFolded C hap σ x1 x3 hf s.heap [] ls hP hS hl)

def rm_cX1_plainValue : Room := { frames := 0, cells := 0, slots := 0, locals := 0 }
def G_cX1_plainValue (p : Program) (l : Launch) (e : Env) (s : State) (m : MethodId) (args : Array Value) (below : List Frame) (meth : Method) (c : Code) (dC : Nat → ClassId) (dI : Nat → Nat → Nat) (kA : Nat → ClassId) (ad : Nat → Nat) (res : Int64 × RS) (F : RS → Int32 → Int32 → Int32 → Option (Int64 × RS)) : Prop := ∀ (σ : RS) (x1 : Int32) (x2 : Int32) (x3 : Int32), F σ x1 x2 x3 = some res → ∀ (H : Heap) (locs : List Loc) (ls : Array Slot), va_P (dC, dI) vwCl (c_w kA ad σ) H → va_S (jw_A 57 ad) s.heap H locs → lv_has ls 4 [(0, .ref (ad 22)), (1, .int x1), (2, .int x2), (3, .int x3)] → W p l e rm_cX1_plainValue s m args below meth c H locs 0 0 (c_Ql below dC dI kA ad args s res) (F0 m 0 ls [])
def s_cX1_plainValue (σ : RS) (x1 : Int32) (x2 : Int32) (x3 : Int32) : Option (Int64 × RS) := kn_ld (rg_A σ 0) 40 x1 (fun v1 => if v1 = 1 then (kn_ld (rg_B σ 0) 40 x1 (fun v3 => kn_ld (rg_B σ 1) 36 ((x2 * 3) + v3.toInt32) (fun v4 => some (v4, σ)))) else (if v1 = 2 then (if x3 = (-1) then (some (0, σ)) else (kn_ld (rg_B σ 2) 40 x3 (fun v6 => some (v6, σ)))) else (if v1 = 3 then (some (rg_L σ 1, σ)) else (if v1 = 4 then (some ((rg_I σ 14).toInt64, σ)) else (if v1 = 5 then (some (((rg_I σ 4) + 1).toInt64, σ)) else (if v1 = 6 then (kn_ld (rg_A σ 5) 12 x2 (fun v11 => some (v11.toInt64, σ))) else (if v1 = 7 then (some (rg_L σ 0, σ)) else (kn_ld (rg_B σ 0) 40 x1 (fun v13 => some (v13, σ))))))))))
set_option maxRecDepth 100000 in
set_option maxHeartbeats 4000000 in
theorem p_cX1_plainValue {p : Program} {l : Launch} {e : Env} {s : State} {m : MethodId} {args : Array Value} {below : List Frame} {meth : Method} {c : Code} {dC : Nat → ClassId} {dI : Nat → Nat → Nat} {kA : Nat → ClassId} {ad : Nat → Nat} (C : jxc cX1_plainValue (some .long) 4 RX1 p s m args meth c dC dI kA) (hap : jw_ap 57 ad) {res : Int64 × RS} : G_cX1_plainValue p l e s m args below meth c dC dI kA ad res (s_cX1_plainValue) := by
  obtain ⟨hx, hb, hml, hown, hts, hr, hlocks, hK, hN⟩ := id C
  intro σ x1 x2 x3 hf H locs ls hP hS hl
  unfold s_cX1_plainValue at hf
  refine lv_aload_n hx hb dX1_plainValue_0 rfl (lv_at hl 0 rfl) ?_
  refine c_gX1_terms hx hb hts hown hK hP (hts _ kw_275) dX1_plainValue_1 ?_
  refine c_gX8_kinds hx hb hts hown hK hP (hts _ kw_82) dX1_plainValue_4 ?_
  refine lv_iload_n hx hb dX1_plainValue_7 rfl (lv_at hl 1 rfl) ?_
  refine ja_ild hx hb hK hP 2 0 rfl rfl hf dX1_plainValue_8 (fun v1 hf => ?_)
  by_cases c2 : v1 = 1
  · have hf := kn_t hf c2
    refine lv_tableIn (tgt := 52) hx hb dX1_plainValue_9 (by rw [c2]; decide) (by rw [c2]; decide) (by rw [c2]; rfl) (by decide) ?_
    refine lv_aload_n hx hb dX1_plainValue_52 rfl (lv_at hl 0 rfl) ?_
    refine c_gX1_web hx hb hts hown hK hP (hts _ kw_276) dX1_plainValue_53 ?_
    refine c_gX10_states hx hb hts hown hK hP (hts _ kw_117) dX1_plainValue_56 ?_
    refine lv_iload_n hx hb dX1_plainValue_59 rfl (lv_at hl 2 rfl) ?_
    refine lv_iconst (v := 3) hx hb dX1_plainValue_60 (by decide) ?_
    refine lv_imul hx hb dX1_plainValue_61 ?_
    refine lv_aload_n hx hb dX1_plainValue_62 rfl (lv_at hl 0 rfl) ?_
    refine c_gX1_terms hx hb hts hown hK hP (hts _ kw_275) dX1_plainValue_63 ?_
    refine c_gX8_numbers hx hb hts hown hK hP (hts _ kw_90) dX1_plainValue_66 ?_
    refine lv_iload_n hx hb dX1_plainValue_69 rfl (lv_at hl 1 rfl) ?_
    refine ja_lld hx hb hK hP 6 1 rfl rfl hf dX1_plainValue_70 (fun v3 hf => ?_)
    refine lv_l2i (v := v3.toInt32) hx hb dX1_plainValue_71 rfl ?_
    refine lv_iadd hx hb dX1_plainValue_72 ?_
    refine ja_lld hx hb hK hP 8 1 rfl rfl hf dX1_plainValue_73 (fun v4 hf => ?_)
    exact jr_l hx hb hr hlocks hf hP hS dX1_plainValue_74
  · have hf := kn_f hf c2
    by_cases c5 : v1 = 2
    · have hf := kn_t hf c5
      refine lv_tableIn (tgt := 75) hx hb dX1_plainValue_9 (by rw [c5]; decide) (by rw [c5]; decide) (by rw [c5]; rfl) (by decide) ?_
      refine lv_iload_n hx hb dX1_plainValue_75 rfl (lv_at hl 3 rfl) ?_
      refine lv_iconst (v := (-1)) hx hb dX1_plainValue_76 (by decide) ?_
      refine jc_ne (tgt := 84) hx hb hf dX1_plainValue_77 (by decide) (fun hf => ?_) (fun hf => ?_)
      · refine lv_aload_n hx hb dX1_plainValue_84 rfl (lv_at hl 0 rfl) ?_
        refine c_gX1_web hx hb hts hown hK hP (hts _ kw_276) dX1_plainValue_85 ?_
        refine c_gX10_weights hx hb hts hown hK hP (hts _ kw_134) dX1_plainValue_88 ?_
        refine lv_iload_n hx hb dX1_plainValue_91 rfl (lv_at hl 3 rfl) ?_
        refine ja_lld hx hb hK hP 13 1 rfl rfl hf dX1_plainValue_92 (fun v6 hf => ?_)
        exact jr_l hx hb hr hlocks hf hP hS dX1_plainValue_93
      · refine lv_lconst (v := 0) hx hb dX1_plainValue_80 (by decide) ?_
        refine lv_goto (tgt := 93) hx hb dX1_plainValue_81 (by decide) ?_
        exact jr_l hx hb hr hlocks hf hP hS dX1_plainValue_93
    · have hf := kn_f hf c5
      by_cases c7 : v1 = 3
      · have hf := kn_t hf c7
        refine lv_tableIn (tgt := 94) hx hb dX1_plainValue_9 (by rw [c7]; decide) (by rw [c7]; decide) (by rw [c7]; rfl) (by decide) ?_
        refine lv_aload_n hx hb dX1_plainValue_94 rfl (lv_at hl 0 rfl) ?_
        refine c_gX1_foldedValue hx hb hts hown hK hP (hts _ kw_279) dX1_plainValue_95 ?_
        exact jr_l hx hb hr hlocks hf hP hS dX1_plainValue_98
      · have hf := kn_f hf c7
        by_cases c8 : v1 = 4
        · have hf := kn_t hf c8
          refine lv_tableIn (tgt := 99) hx hb dX1_plainValue_9 (by rw [c8]; decide) (by rw [c8]; decide) (by rw [c8]; rfl) (by decide) ?_
          refine lv_aload_n hx hb dX1_plainValue_99 rfl (lv_at hl 0 rfl) ?_
          refine c_gX1_foldedMessages hx hb hts hown hK hP (hts _ kw_277) dX1_plainValue_100 ?_
          refine lv_i2l (v := (rg_I σ 14).toInt64) hx hb dX1_plainValue_103 rfl ?_
          exact jr_l hx hb hr hlocks hf hP hS dX1_plainValue_104
        · have hf := kn_f hf c8
          by_cases c9 : v1 = 5
          · have hf := kn_t hf c9
            refine lv_tableIn (tgt := 105) hx hb dX1_plainValue_9 (by rw [c9]; decide) (by rw [c9]; decide) (by rw [c9]; rfl) (by decide) ?_
            refine lv_aload_n hx hb dX1_plainValue_105 rfl (lv_at hl 0 rfl) ?_
            refine c_gX1_web hx hb hts hown hK hP (hts _ kw_276) dX1_plainValue_106 ?_
            refine c_gX10_rounds hx hb hts hown hK hP (hts _ kw_147) dX1_plainValue_109 ?_
            refine lv_iconst (v := 1) hx hb dX1_plainValue_112 (by decide) ?_
            refine lv_iadd hx hb dX1_plainValue_113 ?_
            refine lv_i2l (v := ((rg_I σ 4) + 1).toInt64) hx hb dX1_plainValue_114 rfl ?_
            exact jr_l hx hb hr hlocks hf hP hS dX1_plainValue_115
          · have hf := kn_f hf c9
            by_cases c10 : v1 = 6
            · have hf := kn_t hf c10
              refine lv_tableIn (tgt := 116) hx hb dX1_plainValue_9 (by rw [c10]; decide) (by rw [c10]; decide) (by rw [c10]; rfl) (by decide) ?_
              refine lv_aload_n hx hb dX1_plainValue_116 rfl (lv_at hl 0 rfl) ?_
              refine c_gX1_web hx hb hts hown hK hP (hts _ kw_276) dX1_plainValue_117 ?_
              refine c_gX10_degrees hx hb hts hown hK hP (hts _ kw_126) dX1_plainValue_120 ?_
              refine lv_iload_n hx hb dX1_plainValue_123 rfl (lv_at hl 2 rfl) ?_
              refine ja_ild hx hb hK hP 10 0 rfl rfl hf dX1_plainValue_124 (fun v11 hf => ?_)
              refine lv_i2l (v := v11.toInt64) hx hb dX1_plainValue_125 rfl ?_
              exact jr_l hx hb hr hlocks hf hP hS dX1_plainValue_126
            · have hf := kn_f hf c10
              by_cases c12 : v1 = 7
              · have hf := kn_t hf c12
                refine lv_tableIn (tgt := 127) hx hb dX1_plainValue_9 (by rw [c12]; decide) (by rw [c12]; decide) (by rw [c12]; rfl) (by decide) ?_
                refine lv_aload_n hx hb dX1_plainValue_127 rfl (lv_at hl 0 rfl) ?_
                refine c_gX1_web hx hb hts hown hK hP (hts _ kw_276) dX1_plainValue_128 ?_
                refine c_gX10_sum hx hb hts hown hK hP (hts _ kw_150) dX1_plainValue_131 ?_
                exact jr_l hx hb hr hlocks hf hP hS dX1_plainValue_134
              · have hf := kn_f hf c12
                refine lv_tableOut (tgt := 135) hx hb dX1_plainValue_9 (by have t0 := lv_neT c2 (a := 1) (by decide); have t1 := lv_neT c5 (a := 2) (by decide); have t2 := lv_neT c7 (a := 3) (by decide); have t3 := lv_neT c8 (a := 4) (by decide); have t4 := lv_neT c9 (a := 5) (by decide); have t5 := lv_neT c10 (a := 6) (by decide); have t6 := lv_neT c12 (a := 7) (by decide); omega) (by decide) ?_
                refine lv_aload_n hx hb dX1_plainValue_135 rfl (lv_at hl 0 rfl) ?_
                refine c_gX1_terms hx hb hts hown hK hP (hts _ kw_275) dX1_plainValue_136 ?_
                refine c_gX8_numbers hx hb hts hown hK hP (hts _ kw_90) dX1_plainValue_139 ?_
                refine lv_iload_n hx hb dX1_plainValue_142 rfl (lv_at hl 1 rfl) ?_
                refine ja_lld hx hb hK hP 6 1 rfl rfl hf dX1_plainValue_143 (fun v13 hf => ?_)
                exact jr_l hx hb hr hlocks hf hP hS dX1_plainValue_144
theorem c_cX1_plainValue (l : Launch) {dC : Nat → ClassId} {dI : Nat → Nat → Nat} {kA : Nat → ClassId} {ad : Nat → Nat} (hap : jw_ap 57 ad) (σ : RS) (x1 : Int32) (x2 : Int32) (x3 : Int32) (res : Int64 × RS) (hf : s_cX1_plainValue σ x1 x2 x3 = some res) : jm_l l KW NW (dC, dI) vwCl (jtys kA) (jw_A 57 ad) (c_w kA ad) yX1_plainValue cX1_plainValue 4 (rm_cX1_plainValue) [.ref (ad 22), .int x1, .int x2, .int x3] σ res := jm_l_of (by decide) (Nat.le_of_ble_eq_true rfl) (fun p e s m below meth c C hP hS ls hl => p_cX1_plainValue C hap σ x1 x2 x3 hf s.heap [] ls hP hS hl)

def rm_cX1_stateAt : Room := { frames := 0, cells := 0, slots := 0, locals := 0 }
def G_cX1_stateAt_b23 (p : Program) (l : Launch) (e : Env) (s : State) (m : MethodId) (args : Array Value) (below : List Frame) (meth : Method) (c : Code) (dC : Nat → ClassId) (dI : Nat → Nat → Nat) (kA : Nat → ClassId) (ad : Nat → Nat) (res : Int64 × RS) (F : RS → Option (Int64 × RS)) : Prop := ∀ (σ : RS), F σ = some res → ∀ (H : Heap) (locs : List Loc) (ls : Array Slot), va_P (dC, dI) vwCl (c_w kA ad σ) H → va_S (jw_A 57 ad) s.heap H locs → lv_has ls 3 [(0, .ref (ad 22))] → W p l e rm_cX1_stateAt s m args below meth c H locs 0 0 (c_Ql below dC dI kA ad args s res) (F0 m 23 ls [])
def G_cX1_stateAt (p : Program) (l : Launch) (e : Env) (s : State) (m : MethodId) (args : Array Value) (below : List Frame) (meth : Method) (c : Code) (dC : Nat → ClassId) (dI : Nat → Nat → Nat) (kA : Nat → ClassId) (ad : Nat → Nat) (res : Int64 × RS) (F : RS → Int32 → Int32 → Option (Int64 × RS)) : Prop := ∀ (σ : RS) (x1 : Int32) (x2 : Int32), F σ x1 x2 = some res → ∀ (H : Heap) (locs : List Loc) (ls : Array Slot), va_P (dC, dI) vwCl (c_w kA ad σ) H → va_S (jw_A 57 ad) s.heap H locs → lv_has ls 3 [(0, .ref (ad 22)), (1, .int x1), (2, .int x2)] → W p l e rm_cX1_stateAt s m args below meth c H locs 0 0 (c_Ql below dC dI kA ad args s res) (F0 m 0 ls [])
def s_cX1_stateAt_b23 (σ : RS) : Option (Int64 × RS) := kn_v (rs_I σ 16 2) (fun σ1 => some (0, σ1))
set_option maxRecDepth 100000 in
set_option maxHeartbeats 4000000 in
theorem p_cX1_stateAt_b23 {p : Program} {l : Launch} {e : Env} {s : State} {m : MethodId} {args : Array Value} {below : List Frame} {meth : Method} {c : Code} {dC : Nat → ClassId} {dI : Nat → Nat → Nat} {kA : Nat → ClassId} {ad : Nat → Nat} (C : jxc cX1_stateAt (some .long) 3 RX1 p s m args meth c dC dI kA) (hap : jw_ap 57 ad) {res : Int64 × RS} : G_cX1_stateAt_b23 p l e s m args below meth c dC dI kA ad res (s_cX1_stateAt_b23) := by
  obtain ⟨hx, hb, hml, hown, hts, hr, hlocks, hK, hN⟩ := id C
  intro σ hf H locs ls hP hS hl
  unfold s_cX1_stateAt_b23 at hf
  refine lv_aload_n hx hb dX1_stateAt_23 rfl (lv_at hl 0 rfl) ?_
  refine lv_iconst (v := 2) hx hb dX1_stateAt_24 (by decide) ?_
  refine c_pX1_fault hx hb hts hown hK hap hP hS hf (hts _ kw_280) dX1_stateAt_25 (fun σ1 H locs hP hS hf => ?_)
  refine lv_lconst (v := 0) hx hb dX1_stateAt_28 (by decide) ?_
  exact jr_l hx hb hr hlocks hf hP hS dX1_stateAt_29
def s_cX1_stateAt (σ : RS) (x1 : Int32) (x2 : Int32) : Option (Int64 × RS) := if x2 < 0 then (s_cX1_stateAt_b23 σ) else (if 3 ≤ x2 then (s_cX1_stateAt_b23 σ) else (kn_ld (rg_B σ 1) 36 ((x1 * 3) + x2) (fun v1 => some (v1, σ))))
set_option maxRecDepth 100000 in
set_option maxHeartbeats 4000000 in
theorem p_cX1_stateAt {p : Program} {l : Launch} {e : Env} {s : State} {m : MethodId} {args : Array Value} {below : List Frame} {meth : Method} {c : Code} {dC : Nat → ClassId} {dI : Nat → Nat → Nat} {kA : Nat → ClassId} {ad : Nat → Nat} (C : jxc cX1_stateAt (some .long) 3 RX1 p s m args meth c dC dI kA) (hap : jw_ap 57 ad) {res : Int64 × RS} : G_cX1_stateAt p l e s m args below meth c dC dI kA ad res (s_cX1_stateAt) := by
  obtain ⟨hx, hb, hml, hown, hts, hr, hlocks, hK, hN⟩ := id C
  intro σ x1 x2 hf H locs ls hP hS hl
  unfold s_cX1_stateAt at hf
  refine lv_iload_n hx hb dX1_stateAt_0 rfl (lv_at hl 2 rfl) ?_
  refine jb_lt (tgt := 23) hx hb hf dX1_stateAt_1 (by decide) (fun hf => ?_) (fun hf => ?_)
  · exact (p_cX1_stateAt_b23 C hap) σ hf H locs ls hP hS (lv_sub hl [0] rfl)
  · refine lv_iload_n hx hb dX1_stateAt_4 rfl (lv_at hl 2 rfl) ?_
    refine lv_iconst (v := 3) hx hb dX1_stateAt_5 (by decide) ?_
    refine jc_ge (tgt := 23) hx hb hf dX1_stateAt_6 (by decide) (fun hf => ?_) (fun hf => ?_)
    · exact (p_cX1_stateAt_b23 C hap) σ hf H locs ls hP hS (lv_sub hl [0] rfl)
    · refine lv_aload_n hx hb dX1_stateAt_9 rfl (lv_at hl 0 rfl) ?_
      refine c_gX1_web hx hb hts hown hK hP (hts _ kw_276) dX1_stateAt_10 ?_
      refine c_gX10_states hx hb hts hown hK hP (hts _ kw_117) dX1_stateAt_13 ?_
      refine lv_iload_n hx hb dX1_stateAt_16 rfl (lv_at hl 1 rfl) ?_
      refine lv_iconst (v := 3) hx hb dX1_stateAt_17 (by decide) ?_
      refine lv_imul hx hb dX1_stateAt_18 ?_
      refine lv_iload_n hx hb dX1_stateAt_19 rfl (lv_at hl 2 rfl) ?_
      refine lv_iadd hx hb dX1_stateAt_20 ?_
      refine ja_lld hx hb hK hP 8 1 rfl rfl hf dX1_stateAt_21 (fun v1 hf => ?_)
      exact jr_l hx hb hr hlocks hf hP hS dX1_stateAt_22
theorem c_cX1_stateAt (l : Launch) {dC : Nat → ClassId} {dI : Nat → Nat → Nat} {kA : Nat → ClassId} {ad : Nat → Nat} (hap : jw_ap 57 ad) (σ : RS) (x1 : Int32) (x2 : Int32) (res : Int64 × RS) (hf : s_cX1_stateAt σ x1 x2 = some res) : jm_l l KW NW (dC, dI) vwCl (jtys kA) (jw_A 57 ad) (c_w kA ad) yX1_stateAt cX1_stateAt 3 (rm_cX1_stateAt) [.ref (ad 22), .int x1, .int x2] σ res := jm_l_of (by decide) (Nat.le_of_ble_eq_true rfl) (fun p e s m below meth c C hP hS ls hl => p_cX1_stateAt C hap σ x1 x2 hf s.heap [] ls hP hS hl)

def rm_cX1_joined : Room := { frames := 0, cells := 0, slots := 0, locals := 0 }
def G_cX1_joined_b104 (p : Program) (l : Launch) (e : Env) (s : State) (m : MethodId) (args : Array Value) (below : List Frame) (meth : Method) (c : Code) (dC : Nat → ClassId) (dI : Nat → Nat → Nat) (kA : Nat → ClassId) (ad : Nat → Nat) (res : Int64 × RS) (F : RS → Int32 → Int64 → Int64 → Option (Int64 × RS)) : Prop := ∀ (σ : RS) (x1 : Int32) (x2 : Int64) (x4 : Int64), F σ x1 x2 x4 = some res → ∀ (H : Heap) (locs : List Loc) (ls : Array Slot), va_P (dC, dI) vwCl (c_w kA ad σ) H → va_S (jw_A 57 ad) s.heap H locs → lv_has ls 6 [(0, .ref (ad 22)), (1, .int x1), (2, .long x2), (4, .long x4)] → W p l e rm_cX1_joined s m args below meth c H locs 0 0 (c_Ql below dC dI kA ad args s res) (F0 m 104 ls [])
def G_cX1_joined (p : Program) (l : Launch) (e : Env) (s : State) (m : MethodId) (args : Array Value) (below : List Frame) (meth : Method) (c : Code) (dC : Nat → ClassId) (dI : Nat → Nat → Nat) (kA : Nat → ClassId) (ad : Nat → Nat) (res : Int64 × RS) (F : RS → Int32 → Int64 → Int64 → Option (Int64 × RS)) : Prop := ∀ (σ : RS) (x1 : Int32) (x2 : Int64) (x4 : Int64), F σ x1 x2 x4 = some res → ∀ (H : Heap) (locs : List Loc) (ls : Array Slot), va_P (dC, dI) vwCl (c_w kA ad σ) H → va_S (jw_A 57 ad) s.heap H locs → lv_has ls 6 [(0, .ref (ad 22)), (1, .int x1), (2, .long x2), (4, .long x4)] → W p l e rm_cX1_joined s m args below meth c H locs 0 0 (c_Ql below dC dI kA ad args s res) (F0 m 0 ls [])
def s_cX1_joined_b104 (σ : RS) (x1 : Int32) (x2 : Int64) (x4 : Int64) : Option (Int64 × RS) := if x4 = 0 then (kn_v (rs_I σ 16 1) (fun σ1 => some (0, σ1))) else (if x1 = 11 then (kn_nz64 x4 (some (x2 / x4, σ))) else (kn_nz64 x4 (some (x2 - x2 / x4 * x4, σ))))
set_option maxRecDepth 100000 in
set_option maxHeartbeats 4000000 in
theorem p_cX1_joined_b104 {p : Program} {l : Launch} {e : Env} {s : State} {m : MethodId} {args : Array Value} {below : List Frame} {meth : Method} {c : Code} {dC : Nat → ClassId} {dI : Nat → Nat → Nat} {kA : Nat → ClassId} {ad : Nat → Nat} (C : jxc cX1_joined (some .long) 6 RX1 p s m args meth c dC dI kA) (hap : jw_ap 57 ad) {res : Int64 × RS} : G_cX1_joined_b104 p l e s m args below meth c dC dI kA ad res (s_cX1_joined_b104) := by
  obtain ⟨hx, hb, hml, hown, hts, hr, hlocks, hK, hN⟩ := id C
  intro σ x1 x2 x4 hf H locs ls hP hS hl
  unfold s_cX1_joined_b104 at hf
  refine lv_lload hx hb dX1_joined_104 (lv_at hl 3 rfl) ?_
  refine lv_lconst (v := 0) hx hb dX1_joined_106 (by decide) ?_
  refine jl_eq (tgt := 129) hx hb hf dX1_joined_107 dX1_joined_108 (by decide) (fun hf => ?_) (fun hf => ?_)
  · refine lv_aload_n hx hb dX1_joined_129 rfl (lv_at hl 0 rfl) ?_
    refine lv_iconst (v := 1) hx hb dX1_joined_130 (by decide) ?_
    refine c_pX1_fault hx hb hts hown hK hap hP hS hf (hts _ kw_280) dX1_joined_131 (fun σ1 H locs hP hS hf => ?_)
    refine lv_lconst (v := 0) hx hb dX1_joined_134 (by decide) ?_
    exact jr_l hx hb hr hlocks hf hP hS dX1_joined_135
  · refine lv_iload_n hx hb dX1_joined_111 rfl (lv_at hl 1 rfl) ?_
    refine lv_bipush (v := 11) hx hb dX1_joined_112 (by decide) ?_
    refine jc_ne (tgt := 124) hx hb hf dX1_joined_114 (by decide) (fun hf => ?_) (fun hf => ?_)
    · refine lv_lload_n hx hb dX1_joined_124 rfl (lv_at hl 2 rfl) ?_
      refine lv_lload hx hb dX1_joined_125 (lv_at hl 3 rfl) ?_
      refine jd_lrem hx hb hf dX1_joined_127 (fun hf => ?_)
      exact jr_l hx hb hr hlocks hf hP hS dX1_joined_128
    · refine lv_lload_n hx hb dX1_joined_117 rfl (lv_at hl 2 rfl) ?_
      refine lv_lload hx hb dX1_joined_118 (lv_at hl 3 rfl) ?_
      refine jd_ldiv hx hb hf dX1_joined_120 (fun hf => ?_)
      refine lv_goto (tgt := 128) hx hb dX1_joined_121 (by decide) ?_
      exact jr_l hx hb hr hlocks hf hP hS dX1_joined_128
def s_cX1_joined (σ : RS) (x1 : Int32) (x2 : Int64) (x4 : Int64) : Option (Int64 × RS) := if x1 = 8 then (some (x2 + x4, σ)) else (if x1 = 9 then (some (x2 - x4, σ)) else (if x1 = 10 then (some (x2 * x4, σ)) else (if x1 = 11 then (s_cX1_joined_b104 σ x1 x2 x4) else (if x1 = 12 then (s_cX1_joined_b104 σ x1 x2 x4) else (if x1 = 13 then (if x4 ≤ x2 then (some (x4, σ)) else (some (x2, σ))) else (if x1 = 14 then (if x2 ≤ x4 then (some (x4, σ)) else (some (x2, σ))) else (if x1 = 15 then (if x4 ≤ x2 then (some (0, σ)) else (some (1, σ))) else (s_cX1_joined_b104 σ x1 x2 x4))))))))
set_option maxRecDepth 100000 in
set_option maxHeartbeats 4000000 in
theorem p_cX1_joined {p : Program} {l : Launch} {e : Env} {s : State} {m : MethodId} {args : Array Value} {below : List Frame} {meth : Method} {c : Code} {dC : Nat → ClassId} {dI : Nat → Nat → Nat} {kA : Nat → ClassId} {ad : Nat → Nat} (C : jxc cX1_joined (some .long) 6 RX1 p s m args meth c dC dI kA) (hap : jw_ap 57 ad) {res : Int64 × RS} : G_cX1_joined p l e s m args below meth c dC dI kA ad res (s_cX1_joined) := by
  obtain ⟨hx, hb, hml, hown, hts, hr, hlocks, hK, hN⟩ := id C
  intro σ x1 x2 x4 hf H locs ls hP hS hl
  unfold s_cX1_joined at hf
  refine lv_iload_n hx hb dX1_joined_0 rfl (lv_at hl 1 rfl) ?_
  by_cases c1 : x1 = 8
  · have hf := kn_t hf c1
    refine lv_tableIn (tgt := 48) hx hb dX1_joined_1 (by rw [c1]; decide) (by rw [c1]; decide) (by rw [c1]; rfl) (by decide) ?_
    refine lv_lload_n hx hb dX1_joined_48 rfl (lv_at hl 2 rfl) ?_
    refine lv_lload hx hb dX1_joined_49 (lv_at hl 3 rfl) ?_
    refine lv_ladd hx hb dX1_joined_51 ?_
    exact jr_l hx hb hr hlocks hf hP hS dX1_joined_52
  · have hf := kn_f hf c1
    by_cases c2 : x1 = 9
    · have hf := kn_t hf c2
      refine lv_tableIn (tgt := 53) hx hb dX1_joined_1 (by rw [c2]; decide) (by rw [c2]; decide) (by rw [c2]; rfl) (by decide) ?_
      refine lv_lload_n hx hb dX1_joined_53 rfl (lv_at hl 2 rfl) ?_
      refine lv_lload hx hb dX1_joined_54 (lv_at hl 3 rfl) ?_
      refine lv_lsub hx hb dX1_joined_56 ?_
      exact jr_l hx hb hr hlocks hf hP hS dX1_joined_57
    · have hf := kn_f hf c2
      by_cases c3 : x1 = 10
      · have hf := kn_t hf c3
        refine lv_tableIn (tgt := 58) hx hb dX1_joined_1 (by rw [c3]; decide) (by rw [c3]; decide) (by rw [c3]; rfl) (by decide) ?_
        refine lv_lload_n hx hb dX1_joined_58 rfl (lv_at hl 2 rfl) ?_
        refine lv_lload hx hb dX1_joined_59 (lv_at hl 3 rfl) ?_
        refine lv_lmul hx hb dX1_joined_61 ?_
        exact jr_l hx hb hr hlocks hf hP hS dX1_joined_62
      · have hf := kn_f hf c3
        by_cases c4 : x1 = 11
        · have hf := kn_t hf c4
          refine lv_tableIn (tgt := 104) hx hb dX1_joined_1 (by rw [c4]; decide) (by rw [c4]; decide) (by rw [c4]; rfl) (by decide) ?_
          exact (p_cX1_joined_b104 C hap) σ x1 x2 x4 hf H locs ls hP hS (lv_sub hl [0, 1, 2, 3] rfl)
        · have hf := kn_f hf c4
          by_cases c5 : x1 = 12
          · have hf := kn_t hf c5
            refine lv_tableIn (tgt := 104) hx hb dX1_joined_1 (by rw [c5]; decide) (by rw [c5]; decide) (by rw [c5]; rfl) (by decide) ?_
            exact (p_cX1_joined_b104 C hap) σ x1 x2 x4 hf H locs ls hP hS (lv_sub hl [0, 1, 2, 3] rfl)
          · have hf := kn_f hf c5
            by_cases c6 : x1 = 13
            · have hf := kn_t hf c6
              refine lv_tableIn (tgt := 63) hx hb dX1_joined_1 (by rw [c6]; decide) (by rw [c6]; decide) (by rw [c6]; rfl) (by decide) ?_
              refine lv_lload_n hx hb dX1_joined_63 rfl (lv_at hl 2 rfl) ?_
              refine lv_lload hx hb dX1_joined_64 (lv_at hl 3 rfl) ?_
              refine jl_ge (tgt := 74) hx hb hf dX1_joined_66 dX1_joined_67 (by decide) (fun hf => ?_) (fun hf => ?_)
              · refine lv_lload hx hb dX1_joined_74 (lv_at hl 3 rfl) ?_
                exact jr_l hx hb hr hlocks hf hP hS dX1_joined_76
              · refine lv_lload_n hx hb dX1_joined_70 rfl (lv_at hl 2 rfl) ?_
                refine lv_goto (tgt := 76) hx hb dX1_joined_71 (by decide) ?_
                exact jr_l hx hb hr hlocks hf hP hS dX1_joined_76
            · have hf := kn_f hf c6
              by_cases c7 : x1 = 14
              · have hf := kn_t hf c7
                refine lv_tableIn (tgt := 77) hx hb dX1_joined_1 (by rw [c7]; decide) (by rw [c7]; decide) (by rw [c7]; rfl) (by decide) ?_
                refine lv_lload_n hx hb dX1_joined_77 rfl (lv_at hl 2 rfl) ?_
                refine lv_lload hx hb dX1_joined_78 (lv_at hl 3 rfl) ?_
                refine jl_le (tgt := 88) hx hb hf dX1_joined_80 dX1_joined_81 (by decide) (fun hf => ?_) (fun hf => ?_)
                · refine lv_lload hx hb dX1_joined_88 (lv_at hl 3 rfl) ?_
                  exact jr_l hx hb hr hlocks hf hP hS dX1_joined_90
                · refine lv_lload_n hx hb dX1_joined_84 rfl (lv_at hl 2 rfl) ?_
                  refine lv_goto (tgt := 90) hx hb dX1_joined_85 (by decide) ?_
                  exact jr_l hx hb hr hlocks hf hP hS dX1_joined_90
              · have hf := kn_f hf c7
                by_cases c8 : x1 = 15
                · have hf := kn_t hf c8
                  refine lv_tableIn (tgt := 91) hx hb dX1_joined_1 (by rw [c8]; decide) (by rw [c8]; decide) (by rw [c8]; rfl) (by decide) ?_
                  refine lv_lload_n hx hb dX1_joined_91 rfl (lv_at hl 2 rfl) ?_
                  refine lv_lload hx hb dX1_joined_92 (lv_at hl 3 rfl) ?_
                  refine jl_ge (tgt := 102) hx hb hf dX1_joined_94 dX1_joined_95 (by decide) (fun hf => ?_) (fun hf => ?_)
                  · refine lv_lconst (v := 0) hx hb dX1_joined_102 (by decide) ?_
                    exact jr_l hx hb hr hlocks hf hP hS dX1_joined_103
                  · refine lv_lconst (v := 1) hx hb dX1_joined_98 (by decide) ?_
                    refine lv_goto (tgt := 103) hx hb dX1_joined_99 (by decide) ?_
                    exact jr_l hx hb hr hlocks hf hP hS dX1_joined_103
                · have hf := kn_f hf c8
                  refine lv_tableOut (tgt := 104) hx hb dX1_joined_1 (by have t0 := lv_neT c1 (a := 8) (by decide); have t1 := lv_neT c2 (a := 9) (by decide); have t2 := lv_neT c3 (a := 10) (by decide); have t3 := lv_neT c4 (a := 11) (by decide); have t4 := lv_neT c5 (a := 12) (by decide); have t5 := lv_neT c6 (a := 13) (by decide); have t6 := lv_neT c7 (a := 14) (by decide); have t7 := lv_neT c8 (a := 15) (by decide); omega) (by decide) ?_
                  exact (p_cX1_joined_b104 C hap) σ x1 x2 x4 hf H locs ls hP hS (lv_sub hl [0, 1, 2, 3] rfl)
theorem c_cX1_joined (l : Launch) {dC : Nat → ClassId} {dI : Nat → Nat → Nat} {kA : Nat → ClassId} {ad : Nat → Nat} (hap : jw_ap 57 ad) (σ : RS) (x1 : Int32) (x2 : Int64) (x4 : Int64) (res : Int64 × RS) (hf : s_cX1_joined σ x1 x2 x4 = some res) : jm_l l KW NW (dC, dI) vwCl (jtys kA) (jw_A 57 ad) (c_w kA ad) yX1_joined cX1_joined 6 (rm_cX1_joined) [.ref (ad 22), .int x1, .long x2, .long x4] σ res := jm_l_of (by decide) (Nat.le_of_ble_eq_true rfl) (fun p e s m below meth c C hP hS ls hl => p_cX1_joined C hap σ x1 x2 x4 hf s.heap [] ls hP hS hl)

def rm_cX1_fails : Room := { frames := 0, cells := 0, slots := 0, locals := 0 }
def G_cX1_fails (p : Program) (l : Launch) (e : Env) (s : State) (m : MethodId) (args : Array Value) (below : List Frame) (meth : Method) (c : Code) (dC : Nat → ClassId) (dI : Nat → Nat → Nat) (kA : Nat → ClassId) (ad : Nat → Nat) (res : Int64 × RS) (F : RS → Int32 → Option (Int64 × RS)) : Prop := ∀ (σ : RS) (x1 : Int32), F σ x1 = some res → ∀ (H : Heap) (locs : List Loc) (ls : Array Slot), va_P (dC, dI) vwCl (c_w kA ad σ) H → va_S (jw_A 57 ad) s.heap H locs → lv_has ls 2 [(0, .ref (ad 22)), (1, .int x1)] → W p l e rm_cX1_fails s m args below meth c H locs 0 0 (c_Ql below dC dI kA ad args s res) (F0 m 0 ls [])
def s_cX1_fails (σ : RS) (x1 : Int32) : Option (Int64 × RS) := kn_v (rs_I σ 16 x1) (fun σ1 => some (0, σ1))
set_option maxRecDepth 100000 in
set_option maxHeartbeats 4000000 in
theorem p_cX1_fails {p : Program} {l : Launch} {e : Env} {s : State} {m : MethodId} {args : Array Value} {below : List Frame} {meth : Method} {c : Code} {dC : Nat → ClassId} {dI : Nat → Nat → Nat} {kA : Nat → ClassId} {ad : Nat → Nat} (C : jxc cX1_fails (some .long) 2 RX1 p s m args meth c dC dI kA) (hap : jw_ap 57 ad) {res : Int64 × RS} : G_cX1_fails p l e s m args below meth c dC dI kA ad res (s_cX1_fails) := by
  obtain ⟨hx, hb, hml, hown, hts, hr, hlocks, hK, hN⟩ := id C
  intro σ x1 hf H locs ls hP hS hl
  unfold s_cX1_fails at hf
  refine lv_aload_n hx hb dX1_fails_0 rfl (lv_at hl 0 rfl) ?_
  refine lv_iload_n hx hb dX1_fails_1 rfl (lv_at hl 1 rfl) ?_
  refine c_pX1_fault hx hb hts hown hK hap hP hS hf (hts _ kw_280) dX1_fails_2 (fun σ1 H locs hP hS hf => ?_)
  refine lv_lconst (v := 0) hx hb dX1_fails_5 (by decide) ?_
  exact jr_l hx hb hr hlocks hf hP hS dX1_fails_6
theorem c_cX1_fails (l : Launch) {dC : Nat → ClassId} {dI : Nat → Nat → Nat} {kA : Nat → ClassId} {ad : Nat → Nat} (hap : jw_ap 57 ad) (σ : RS) (x1 : Int32) (res : Int64 × RS) (hf : s_cX1_fails σ x1 = some res) : jm_l l KW NW (dC, dI) vwCl (jtys kA) (jw_A 57 ad) (c_w kA ad) yX1_fails cX1_fails 2 (rm_cX1_fails) [.ref (ad 22), .int x1] σ res := jm_l_of (by decide) (Nat.le_of_ble_eq_true rfl) (fun p e s m below meth c C hP hS ls hl => p_cX1_fails C hap σ x1 hf s.heap [] ls hP hS hl)

def rm_cX2_clear : Room := { frames := 0, cells := 0, slots := 0, locals := 0 }
def G_cX2_clear (p : Program) (l : Launch) (e : Env) (s : State) (m : MethodId) (args : Array Value) (below : List Frame) (meth : Method) (c : Code) (dC : Nat → ClassId) (dI : Nat → Nat → Nat) (kA : Nat → ClassId) (ad : Nat → Nat) (res : RS) (F : RS → Option (RS)) : Prop := ∀ (σ : RS), F σ = some res → ∀ (H : Heap) (locs : List Loc) (ls : Array Slot), va_P (dC, dI) vwCl (c_w kA ad σ) H → va_S (jw_A 57 ad) s.heap H locs → lv_has ls 1 [(0, .ref (ad 16))] → W p l e rm_cX2_clear s m args below meth c H locs 0 0 (c_Qu below dC dI kA ad args s res) (F0 m 0 ls [])
def s_cX2_clear (σ : RS) : Option (RS) := kn_v (rs_I σ 6 0) (fun σ1 => some σ1)
set_option maxRecDepth 100000 in
set_option maxHeartbeats 4000000 in
theorem p_cX2_clear {p : Program} {l : Launch} {e : Env} {s : State} {m : MethodId} {args : Array Value} {below : List Frame} {meth : Method} {c : Code} {dC : Nat → ClassId} {dI : Nat → Nat → Nat} {kA : Nat → ClassId} {ad : Nat → Nat} (C : jxc cX2_clear none 1 RX2 p s m args meth c dC dI kA) (hap : jw_ap 57 ad) {res : RS} : G_cX2_clear p l e s m args below meth c dC dI kA ad res (s_cX2_clear) := by
  obtain ⟨hx, hb, hml, hown, hts, hr, hlocks, hK, hN⟩ := id C
  intro σ hf H locs ls hP hS hl
  unfold s_cX2_clear at hf
  refine lv_aload_n hx hb dX2_clear_0 rfl (lv_at hl 0 rfl) ?_
  refine lv_iconst (v := 0) hx hb dX2_clear_1 (by decide) ?_
  refine c_pX2_sort hx hb hts hown hK hap hP hS hf (hts _ kw_197) dX2_clear_2 (fun σ1 H locs hP hS hf => ?_)
  exact jr_u hx hb hr hlocks hf hP hS dX2_clear_5
theorem c_cX2_clear (l : Launch) {dC : Nat → ClassId} {dI : Nat → Nat → Nat} {kA : Nat → ClassId} {ad : Nat → Nat} (hap : jw_ap 57 ad) (σ : RS) (res : RS) (hf : s_cX2_clear σ = some res) : jm_u l KW NW (dC, dI) vwCl (jtys kA) (jw_A 57 ad) (c_w kA ad) yX2_clear cX2_clear 1 (rm_cX2_clear) [.ref (ad 16)] σ res := jm_u_of (by decide) (Nat.le_of_ble_eq_true rfl) (fun p e s m below meth c C hP hS ls hl => p_cX2_clear C hap σ hf s.heap [] ls hP hS hl)

def rm_cX2_is : Room := { frames := 0, cells := 0, slots := 0, locals := 0 }
def G_cX2_is (p : Program) (l : Launch) (e : Env) (s : State) (m : MethodId) (args : Array Value) (below : List Frame) (meth : Method) (c : Code) (dC : Nat → ClassId) (dI : Nat → Nat → Nat) (kA : Nat → ClassId) (ad : Nat → Nat) (res : Int32 × RS) (F : RS → Option (Int32 × RS)) : Prop := ∀ (σ : RS), F σ = some res → ∀ (H : Heap) (locs : List Loc) (ls : Array Slot), va_P (dC, dI) vwCl (c_w kA ad σ) H → va_S (jw_A 57 ad) s.heap H locs → lv_has ls 1 [(0, .ref (ad 16))] → W p l e rm_cX2_is s m args below meth c H locs 0 0 (c_Qi below dC dI kA ad args s res) (F0 m 0 ls [])
def s_cX2_is (σ : RS) : Option (Int32 × RS) := if (rg_I σ 6) = 0 then (some (0, σ)) else (some (1, σ))
set_option maxRecDepth 100000 in
set_option maxHeartbeats 4000000 in
theorem p_cX2_is {p : Program} {l : Launch} {e : Env} {s : State} {m : MethodId} {args : Array Value} {below : List Frame} {meth : Method} {c : Code} {dC : Nat → ClassId} {dI : Nat → Nat → Nat} {kA : Nat → ClassId} {ad : Nat → Nat} (C : jxc cX2_is (some .boolean) 1 RX2 p s m args meth c dC dI kA) (hap : jw_ap 57 ad) {res : Int32 × RS} : G_cX2_is p l e s m args below meth c dC dI kA ad res (s_cX2_is) := by
  obtain ⟨hx, hb, hml, hown, hts, hr, hlocks, hK, hN⟩ := id C
  intro σ hf H locs ls hP hS hl
  unfold s_cX2_is at hf
  refine lv_aload_n hx hb dX2_is_0 rfl (lv_at hl 0 rfl) ?_
  refine c_gX2_sort hx hb hts hown hK hP (hts _ kw_197) dX2_is_1 ?_
  refine jb_eq (tgt := 11) hx hb hf dX2_is_4 (by decide) (fun hf => ?_) (fun hf => ?_)
  · refine lv_iconst (v := 0) hx hb dX2_is_11 (by decide) ?_
    exact jr_i hx hb hr hlocks hf (by decide) hP hS dX2_is_12
  · refine lv_iconst (v := 1) hx hb dX2_is_7 (by decide) ?_
    refine lv_goto (tgt := 12) hx hb dX2_is_8 (by decide) ?_
    exact jr_i hx hb hr hlocks hf (by decide) hP hS dX2_is_12
theorem c_cX2_is (l : Launch) {dC : Nat → ClassId} {dI : Nat → Nat → Nat} {kA : Nat → ClassId} {ad : Nat → Nat} (hap : jw_ap 57 ad) (σ : RS) (res : Int32 × RS) (hf : s_cX2_is σ = some res) : jm_i l KW NW (dC, dI) vwCl (jtys kA) (jw_A 57 ad) (c_w kA ad) yX2_is cX2_is 1 .boolean (rm_cX2_is) [.ref (ad 16)] σ res := jm_i_of (by decide) (Nat.le_of_ble_eq_true rfl) (fun p e s m below meth c C hP hS ls hl => p_cX2_is C hap σ hf s.heap [] ls hP hS hl)

def rm_cX2_keep : Room := { frames := 0, cells := 0, slots := 0, locals := 0 }
def G_cX2_keep (p : Program) (l : Launch) (e : Env) (s : State) (m : MethodId) (args : Array Value) (below : List Frame) (meth : Method) (c : Code) (dC : Nat → ClassId) (dI : Nat → Nat → Nat) (kA : Nat → ClassId) (ad : Nat → Nat) (res : RS) (F : RS → Int32 → Int32 → Int32 → Int32 → Int32 → Option (RS)) : Prop := ∀ (σ : RS) (x1 : Int32) (x2 : Int32) (x3 : Int32) (x4 : Int32) (x5 : Int32), F σ x1 x2 x3 x4 x5 = some res → ∀ (H : Heap) (locs : List Loc) (ls : Array Slot), va_P (dC, dI) vwCl (c_w kA ad σ) H → va_S (jw_A 57 ad) s.heap H locs → lv_has ls 6 [(0, .ref (ad 16)), (1, .int x1), (2, .int x2), (3, .int x3), (4, .int x4), (5, .int x5)] → W p l e rm_cX2_keep s m args below meth c H locs 0 0 (c_Qu below dC dI kA ad args s res) (F0 m 0 ls [])
def s_cX2_keep (σ : RS) (x1 : Int32) (x2 : Int32) (x3 : Int32) (x4 : Int32) (x5 : Int32) : Option (RS) := kn_v (rs_I σ 6 x1) (fun σ1 => kn_v (rs_I σ1 7 x2) (fun σ2 => kn_v (rs_I σ2 8 x3) (fun σ3 => kn_v (rs_I σ3 9 x4) (fun σ4 => kn_v (rs_I σ4 10 x5) (fun σ5 => some σ5)))))
set_option maxRecDepth 100000 in
set_option maxHeartbeats 4000000 in
theorem p_cX2_keep {p : Program} {l : Launch} {e : Env} {s : State} {m : MethodId} {args : Array Value} {below : List Frame} {meth : Method} {c : Code} {dC : Nat → ClassId} {dI : Nat → Nat → Nat} {kA : Nat → ClassId} {ad : Nat → Nat} (C : jxc cX2_keep none 6 RX2 p s m args meth c dC dI kA) (hap : jw_ap 57 ad) {res : RS} : G_cX2_keep p l e s m args below meth c dC dI kA ad res (s_cX2_keep) := by
  obtain ⟨hx, hb, hml, hown, hts, hr, hlocks, hK, hN⟩ := id C
  intro σ x1 x2 x3 x4 x5 hf H locs ls hP hS hl
  unfold s_cX2_keep at hf
  refine lv_aload_n hx hb dX2_keep_0 rfl (lv_at hl 0 rfl) ?_
  refine lv_iload_n hx hb dX2_keep_1 rfl (lv_at hl 1 rfl) ?_
  refine c_pX2_sort hx hb hts hown hK hap hP hS hf (hts _ kw_197) dX2_keep_2 (fun σ1 H locs hP hS hf => ?_)
  refine lv_aload_n hx hb dX2_keep_5 rfl (lv_at hl 0 rfl) ?_
  refine lv_iload_n hx hb dX2_keep_6 rfl (lv_at hl 2 rfl) ?_
  refine c_pX2_act hx hb hts hown hK hap hP hS hf (hts _ kw_198) dX2_keep_7 (fun σ2 H locs hP hS hf => ?_)
  refine lv_aload_n hx hb dX2_keep_10 rfl (lv_at hl 0 rfl) ?_
  refine lv_iload_n hx hb dX2_keep_11 rfl (lv_at hl 3 rfl) ?_
  refine c_pX2_node hx hb hts hown hK hap hP hS hf (hts _ kw_199) dX2_keep_12 (fun σ3 H locs hP hS hf => ?_)
  refine lv_aload_n hx hb dX2_keep_15 rfl (lv_at hl 0 rfl) ?_
  refine lv_iload hx hb dX2_keep_16 (lv_at hl 4 rfl) ?_
  refine c_pX2_arc hx hb hts hown hK hap hP hS hf (hts _ kw_200) dX2_keep_18 (fun σ4 H locs hP hS hf => ?_)
  refine lv_aload_n hx hb dX2_keep_21 rfl (lv_at hl 0 rfl) ?_
  refine lv_iload hx hb dX2_keep_22 (lv_at hl 5 rfl) ?_
  refine c_pX2_round hx hb hts hown hK hap hP hS hf (hts _ kw_201) dX2_keep_24 (fun σ5 H locs hP hS hf => ?_)
  exact jr_u hx hb hr hlocks hf hP hS dX2_keep_27
theorem c_cX2_keep (l : Launch) {dC : Nat → ClassId} {dI : Nat → Nat → Nat} {kA : Nat → ClassId} {ad : Nat → Nat} (hap : jw_ap 57 ad) (σ : RS) (x1 : Int32) (x2 : Int32) (x3 : Int32) (x4 : Int32) (x5 : Int32) (res : RS) (hf : s_cX2_keep σ x1 x2 x3 x4 x5 = some res) : jm_u l KW NW (dC, dI) vwCl (jtys kA) (jw_A 57 ad) (c_w kA ad) yX2_keep cX2_keep 6 (rm_cX2_keep) [.ref (ad 16), .int x1, .int x2, .int x3, .int x4, .int x5] σ res := jm_u_of (by decide) (Nat.le_of_ble_eq_true rfl) (fun p e s m below meth c C hP hS ls hl => p_cX2_keep C hap σ x1 x2 x3 x4 x5 hf s.heap [] ls hP hS hl)

def rm_cX2_tell : Room := { frames := 0, cells := 0, slots := 0, locals := 0 }
def G_cX2_tell (p : Program) (l : Launch) (e : Env) (s : State) (m : MethodId) (args : Array Value) (below : List Frame) (meth : Method) (c : Code) (dC : Nat → ClassId) (dI : Nat → Nat → Nat) (kA : Nat → ClassId) (ad : Nat → Nat) (res : Int32 × RS) (F : RS → Int32 → Option (Int32 × RS)) : Prop := ∀ (σ : RS) (x1 : Int32), F σ x1 = some res → ∀ (H : Heap) (locs : List Loc) (ls : Array Slot), va_P (dC, dI) vwCl (c_w kA ad σ) H → va_S (jw_A 57 ad) s.heap H locs → lv_has ls 2 [(0, .ref (ad 16)), (1, .int x1)] → W p l e rm_cX2_tell s m args below meth c H locs 0 0 (c_Qi below dC dI kA ad args s res) (F0 m 0 ls [])
def s_cX2_tell (σ : RS) (x1 : Int32) : Option (Int32 × RS) := if x1 < 0 then (some ((-102), σ)) else (if x1 ≤ 4 then (if x1 = 0 then (some (rg_I σ 6, σ)) else (if (rg_I σ 6) = 0 then (some ((-1), σ)) else (if x1 = 1 then (some (rg_I σ 7, σ)) else (if x1 = 2 then (some (rg_I σ 8, σ)) else (if x1 = 3 then (some (rg_I σ 9, σ)) else (some (rg_I σ 10, σ))))))) else (some ((-102), σ)))
set_option maxRecDepth 100000 in
set_option maxHeartbeats 4000000 in
theorem p_cX2_tell {p : Program} {l : Launch} {e : Env} {s : State} {m : MethodId} {args : Array Value} {below : List Frame} {meth : Method} {c : Code} {dC : Nat → ClassId} {dI : Nat → Nat → Nat} {kA : Nat → ClassId} {ad : Nat → Nat} (C : jxc cX2_tell (some .int) 2 RX2 p s m args meth c dC dI kA) (hap : jw_ap 57 ad) {res : Int32 × RS} : G_cX2_tell p l e s m args below meth c dC dI kA ad res (s_cX2_tell) := by
  obtain ⟨hx, hb, hml, hown, hts, hr, hlocks, hK, hN⟩ := id C
  intro σ x1 hf H locs ls hP hS hl
  unfold s_cX2_tell at hf
  refine lv_iload_n hx hb dX2_tell_0 rfl (lv_at hl 1 rfl) ?_
  refine jb_lt (tgt := 9) hx hb hf dX2_tell_1 (by decide) (fun hf => ?_) (fun hf => ?_)
  · refine lv_bipush (v := (-102)) hx hb dX2_tell_9 (by decide) ?_
    exact jr_i hx hb hr hlocks hf rfl hP hS dX2_tell_11
  · refine lv_iload_n hx hb dX2_tell_4 rfl (lv_at hl 1 rfl) ?_
    refine lv_iconst (v := 4) hx hb dX2_tell_5 (by decide) ?_
    refine jc_le (tgt := 12) hx hb hf dX2_tell_6 (by decide) (fun hf => ?_) (fun hf => ?_)
    · refine lv_iload_n hx hb dX2_tell_12 rfl (lv_at hl 1 rfl) ?_
      refine jb_ne (tgt := 21) hx hb hf dX2_tell_13 (by decide) (fun hf => ?_) (fun hf => ?_)
      · refine lv_aload_n hx hb dX2_tell_21 rfl (lv_at hl 0 rfl) ?_
        refine c_gX2_sort hx hb hts hown hK hP (hts _ kw_197) dX2_tell_22 ?_
        refine jb_ne (tgt := 30) hx hb hf dX2_tell_25 (by decide) (fun hf => ?_) (fun hf => ?_)
        · refine lv_iload_n hx hb dX2_tell_30 rfl (lv_at hl 1 rfl) ?_
          by_cases c1 : x1 = 1
          · have hf := kn_t hf c1
            refine lv_tableIn (tgt := 56) hx hb dX2_tell_31 (by rw [c1]; decide) (by rw [c1]; decide) (by rw [c1]; rfl) (by decide) ?_
            refine lv_aload_n hx hb dX2_tell_56 rfl (lv_at hl 0 rfl) ?_
            refine c_gX2_act hx hb hts hown hK hP (hts _ kw_198) dX2_tell_57 ?_
            exact jr_i hx hb hr hlocks hf rfl hP hS dX2_tell_60
          · have hf := kn_f hf c1
            by_cases c2 : x1 = 2
            · have hf := kn_t hf c2
              refine lv_tableIn (tgt := 61) hx hb dX2_tell_31 (by rw [c2]; decide) (by rw [c2]; decide) (by rw [c2]; rfl) (by decide) ?_
              refine lv_aload_n hx hb dX2_tell_61 rfl (lv_at hl 0 rfl) ?_
              refine c_gX2_node hx hb hts hown hK hP (hts _ kw_199) dX2_tell_62 ?_
              exact jr_i hx hb hr hlocks hf rfl hP hS dX2_tell_65
            · have hf := kn_f hf c2
              by_cases c3 : x1 = 3
              · have hf := kn_t hf c3
                refine lv_tableIn (tgt := 66) hx hb dX2_tell_31 (by rw [c3]; decide) (by rw [c3]; decide) (by rw [c3]; rfl) (by decide) ?_
                refine lv_aload_n hx hb dX2_tell_66 rfl (lv_at hl 0 rfl) ?_
                refine c_gX2_arc hx hb hts hown hK hP (hts _ kw_200) dX2_tell_67 ?_
                exact jr_i hx hb hr hlocks hf rfl hP hS dX2_tell_70
              · have hf := kn_f hf c3
                refine lv_tableOut (tgt := 71) hx hb dX2_tell_31 (by have t0 := lv_neT c1 (a := 1) (by decide); have t1 := lv_neT c2 (a := 2) (by decide); have t2 := lv_neT c3 (a := 3) (by decide); omega) (by decide) ?_
                refine lv_aload_n hx hb dX2_tell_71 rfl (lv_at hl 0 rfl) ?_
                refine c_gX2_round hx hb hts hown hK hP (hts _ kw_201) dX2_tell_72 ?_
                exact jr_i hx hb hr hlocks hf rfl hP hS dX2_tell_75
        · refine lv_iconst (v := (-1)) hx hb dX2_tell_28 (by decide) ?_
          exact jr_i hx hb hr hlocks hf rfl hP hS dX2_tell_29
      · refine lv_aload_n hx hb dX2_tell_16 rfl (lv_at hl 0 rfl) ?_
        refine c_gX2_sort hx hb hts hown hK hP (hts _ kw_197) dX2_tell_17 ?_
        exact jr_i hx hb hr hlocks hf rfl hP hS dX2_tell_20
    · refine lv_bipush (v := (-102)) hx hb dX2_tell_9 (by decide) ?_
      exact jr_i hx hb hr hlocks hf rfl hP hS dX2_tell_11
theorem c_cX2_tell (l : Launch) {dC : Nat → ClassId} {dI : Nat → Nat → Nat} {kA : Nat → ClassId} {ad : Nat → Nat} (hap : jw_ap 57 ad) (σ : RS) (x1 : Int32) (res : Int32 × RS) (hf : s_cX2_tell σ x1 = some res) : jm_i l KW NW (dC, dI) vwCl (jtys kA) (jw_A 57 ad) (c_w kA ad) yX2_tell cX2_tell 2 .int (rm_cX2_tell) [.ref (ad 16), .int x1] σ res := jm_i_of (by decide) (Nat.le_of_ble_eq_true rfl) (fun p e s m below meth c C hP hS ls hl => p_cX2_tell C hap σ x1 hf s.heap [] ls hP hS hl)

def rm_cX4_take : Room := { frames := 1, cells := 0, slots := 0, locals := 18 }
def G_cX4_take (p : Program) (l : Launch) (e : Env) (s : State) (m : MethodId) (args : Array Value) (below : List Frame) (meth : Method) (c : Code) (dC : Nat → ClassId) (dI : Nat → Nat → Nat) (kA : Nat → ClassId) (ad : Nat → Nat) (j : Nat) (res : RS) (F : RS → Option (RS)) : Prop := ∀ (σ : RS), F σ = some res → ∀ (H : Heap) (locs : List Loc) (ls : Array Slot), va_P (dC, dI) vwCl (c_w kA ad σ) H → va_S (jw_A 57 ad) s.heap H locs → lv_has ls 2 [(0, .ref (ad (36 + 3 * j))), (1, .ref (ad 7))] → W p l e rm_cX4_take s m args below meth c H locs 0 0 (c_Qu below dC dI kA ad args s res) (F0 m 0 ls [])
def s_cX4_take (j : Nat) (σ : RS) : Option (RS) := kn_cp 36 36 (0 : Int32) (0 : Int32) (36 : Int32) (rs_B σ (9 + j) (va_cpy (rg_B σ 1) (rg_B σ (9 + j)) (0 : Int32).toNatClampNeg (0 : Int32).toNatClampNeg (36 : Int32).toNatClampNeg)) (fun σ1 => kn_cz (rg_A σ1 4) 12 12 (0 : Int32) (0 : Int32) (12 : Int32) (rs_A σ1 (15 + j) (va_cpy (rg_A σ1 4) (rg_A σ1 (15 + j)) (0 : Int32).toNatClampNeg (0 : Int32).toNatClampNeg (12 : Int32).toNatClampNeg)) (fun σ2 => kn_v (rs_I σ2 (21 + j) (rg_I σ2 4)) (fun σ3 => kn_v (rs_L σ3 (2 + j) (rg_L σ3 0)) (fun σ4 => some σ4))))
set_option maxRecDepth 100000 in
set_option maxHeartbeats 4000000 in
theorem p_cX4_take {p : Program} {l : Launch} {e : Env} {s : State} {m : MethodId} {args : Array Value} {below : List Frame} {meth : Method} {c : Code} {dC : Nat → ClassId} {dI : Nat → Nat → Nat} {kA : Nat → ClassId} {ad : Nat → Nat} (C : jxc cX4_take none 2 RX4 p s m args meth c dC dI kA) (hap : jw_ap 57 ad) (j : Nat) (hj : j < 7) {res : RS} : G_cX4_take p l e s m args below meth c dC dI kA ad j res (s_cX4_take j) := by
  obtain ⟨hx, hb, hml, hown, hts, hr, hlocks, hK, hN⟩ := id C
  intro σ hf H locs ls hP hS hl
  unfold s_cX4_take at hf
  refine lv_aload_n hx hb dX4_take_0 rfl (lv_at hl 1 rfl) ?_
  refine c_gX10_states hx hb hts hown hK hP (hts _ kw_115) dX4_take_1 ?_
  refine lv_iconst (v := 0) hx hb dX4_take_4 (by decide) ?_
  refine lv_aload_n hx hb dX4_take_5 rfl (lv_at hl 0 rfl) ?_
  refine c_gX4_states hx hb hts hown hK hj hP (hts _ kw_226) dX4_take_6 ?_
  refine lv_iconst (v := 0) hx hb dX4_take_9 (by decide) ?_
  refine lv_aload_n hx hb dX4_take_10 rfl (lv_at hl 0 rfl) ?_
  refine c_gX4_states hx hb hts hown hK hj hP (hts _ kw_226) dX4_take_11 ?_
  refine va_alen hx hb hK hP (36 + 3 * j + 1) 1 (c_lm1 hj) rfl (v := 36) rfl dX4_take_14 ?_
  refine ja_cpl hx hb (hml.trans hl.1.symm) hown (hts _ kw_529) (hts _ kw_531) (hts _ kw_530) (hts _ kw_65) hK (c_D hap σ) hP hS 8 (36 + 3 * j + 1) 1 rfl (c_lm1 hj) rfl (c_sm1 hj) hf (Nat.le_of_ble_eq_true rfl) (Nat.le_of_ble_eq_true rfl) dX4_take_15 (fun σ1 H locs hP hS hf => ?_)
  refine lv_aload_n hx hb dX4_take_18 rfl (lv_at hl 1 rfl) ?_
  refine c_gX10_awake hx hb hts hown hK hP (hts _ kw_121) dX4_take_19 ?_
  refine lv_iconst (v := 0) hx hb dX4_take_22 (by decide) ?_
  refine lv_aload_n hx hb dX4_take_23 rfl (lv_at hl 0 rfl) ?_
  refine c_gX4_awake hx hb hts hown hK hj hP (hts _ kw_227) dX4_take_24 ?_
  refine lv_iconst (v := 0) hx hb dX4_take_27 (by decide) ?_
  refine lv_aload_n hx hb dX4_take_28 rfl (lv_at hl 0 rfl) ?_
  refine c_gX4_awake hx hb hts hown hK hj hP (hts _ kw_227) dX4_take_29 ?_
  refine va_alen hx hb hK hP (36 + 3 * j + 2) 2 (c_lm2 hj) rfl (v := 12) rfl dX4_take_32 ?_
  refine ja_cpz hx hb (hml.trans hl.1.symm) hown (hts _ kw_529) (hts _ kw_531) (hts _ kw_530) (hts _ kw_65) hK (c_D hap σ1) hP hS 9 (36 + 3 * j + 2) 2 rfl (c_lm2 hj) rfl (c_sm2 hj) hf (Nat.le_of_ble_eq_true rfl) (Nat.le_of_ble_eq_true rfl) dX4_take_33 (fun σ2 H locs hP hS hf => ?_)
  refine lv_aload_n hx hb dX4_take_36 rfl (lv_at hl 0 rfl) ?_
  refine lv_aload_n hx hb dX4_take_37 rfl (lv_at hl 1 rfl) ?_
  refine c_gX10_rounds hx hb hts hown hK hP (hts _ kw_143) dX4_take_38 ?_
  refine c_pX4_rounds hx hb hts hown hK hap hj hP hS hf (hts _ kw_228) dX4_take_41 (fun σ3 H locs hP hS hf => ?_)
  refine lv_aload_n hx hb dX4_take_44 rfl (lv_at hl 0 rfl) ?_
  refine lv_aload_n hx hb dX4_take_45 rfl (lv_at hl 1 rfl) ?_
  refine c_gX10_sum hx hb hts hown hK hP (hts _ kw_149) dX4_take_46 ?_
  refine c_pX4_sum hx hb hts hown hK hap hj hP hS hf (hts _ kw_229) dX4_take_49 (fun σ4 H locs hP hS hf => ?_)
  exact jr_u hx hb hr hlocks hf hP hS dX4_take_52
theorem c_cX4_take (l : Launch) {dC : Nat → ClassId} {dI : Nat → Nat → Nat} {kA : Nat → ClassId} {ad : Nat → Nat} (hap : jw_ap 57 ad) (j : Nat) (hj : j < 7) (σ : RS) (res : RS) (hf : s_cX4_take j σ = some res) : jm_u l KW NW (dC, dI) vwCl (jtys kA) (jw_A 57 ad) (c_w kA ad) yX4_take cX4_take 2 (rm_cX4_take) [.ref (ad (36 + 3 * j)), .ref (ad 7)] σ res := jm_u_of (by decide) (Nat.le_of_ble_eq_true rfl) (fun p e s m below meth c C hP hS ls hl => p_cX4_take C hap j hj σ hf s.heap [] ls hP hS hl)

def rm_cX4_giveBack : Room := { frames := 1, cells := 0, slots := 0, locals := 18 }
def G_cX4_giveBack (p : Program) (l : Launch) (e : Env) (s : State) (m : MethodId) (args : Array Value) (below : List Frame) (meth : Method) (c : Code) (dC : Nat → ClassId) (dI : Nat → Nat → Nat) (kA : Nat → ClassId) (ad : Nat → Nat) (j : Nat) (res : RS) (F : RS → Option (RS)) : Prop := ∀ (σ : RS), F σ = some res → ∀ (H : Heap) (locs : List Loc) (ls : Array Slot), va_P (dC, dI) vwCl (c_w kA ad σ) H → va_S (jw_A 57 ad) s.heap H locs → lv_has ls 2 [(0, .ref (ad (36 + 3 * j))), (1, .ref (ad 7))] → W p l e rm_cX4_giveBack s m args below meth c H locs 0 0 (c_Qu below dC dI kA ad args s res) (F0 m 0 ls [])
def s_cX4_giveBack (j : Nat) (σ : RS) : Option (RS) := kn_cp 36 36 (0 : Int32) (0 : Int32) (36 : Int32) (rs_B σ 1 (va_cpy (rg_B σ (9 + j)) (rg_B σ 1) (0 : Int32).toNatClampNeg (0 : Int32).toNatClampNeg (36 : Int32).toNatClampNeg)) (fun σ1 => kn_cz (rg_A σ1 (15 + j)) 12 12 (0 : Int32) (0 : Int32) (12 : Int32) (rs_A σ1 4 (va_cpy (rg_A σ1 (15 + j)) (rg_A σ1 4) (0 : Int32).toNatClampNeg (0 : Int32).toNatClampNeg (12 : Int32).toNatClampNeg)) (fun σ2 => kn_v (rs_I σ2 4 (rg_I σ2 (21 + j))) (fun σ3 => kn_v (rs_L σ3 0 (rg_L σ3 (2 + j))) (fun σ4 => some σ4))))
set_option maxRecDepth 100000 in
set_option maxHeartbeats 4000000 in
theorem p_cX4_giveBack {p : Program} {l : Launch} {e : Env} {s : State} {m : MethodId} {args : Array Value} {below : List Frame} {meth : Method} {c : Code} {dC : Nat → ClassId} {dI : Nat → Nat → Nat} {kA : Nat → ClassId} {ad : Nat → Nat} (C : jxc cX4_giveBack none 2 RX4 p s m args meth c dC dI kA) (hap : jw_ap 57 ad) (j : Nat) (hj : j < 7) {res : RS} : G_cX4_giveBack p l e s m args below meth c dC dI kA ad j res (s_cX4_giveBack j) := by
  obtain ⟨hx, hb, hml, hown, hts, hr, hlocks, hK, hN⟩ := id C
  intro σ hf H locs ls hP hS hl
  unfold s_cX4_giveBack at hf
  refine lv_aload_n hx hb dX4_giveBack_0 rfl (lv_at hl 0 rfl) ?_
  refine c_gX4_states hx hb hts hown hK hj hP (hts _ kw_226) dX4_giveBack_1 ?_
  refine lv_iconst (v := 0) hx hb dX4_giveBack_4 (by decide) ?_
  refine lv_aload_n hx hb dX4_giveBack_5 rfl (lv_at hl 1 rfl) ?_
  refine c_gX10_states hx hb hts hown hK hP (hts _ kw_115) dX4_giveBack_6 ?_
  refine lv_iconst (v := 0) hx hb dX4_giveBack_9 (by decide) ?_
  refine lv_aload_n hx hb dX4_giveBack_10 rfl (lv_at hl 0 rfl) ?_
  refine c_gX4_states hx hb hts hown hK hj hP (hts _ kw_226) dX4_giveBack_11 ?_
  refine va_alen hx hb hK hP (36 + 3 * j + 1) 1 (c_lm1 hj) rfl (v := 36) rfl dX4_giveBack_14 ?_
  refine ja_cpl hx hb (hml.trans hl.1.symm) hown (hts _ kw_529) (hts _ kw_531) (hts _ kw_530) (hts _ kw_65) hK (c_D hap σ) hP hS (36 + 3 * j + 1) 8 1 (c_lm1 hj) rfl rfl c_sB1 hf (Nat.le_of_ble_eq_true rfl) (Nat.le_of_ble_eq_true rfl) dX4_giveBack_15 (fun σ1 H locs hP hS hf => ?_)
  refine lv_aload_n hx hb dX4_giveBack_18 rfl (lv_at hl 0 rfl) ?_
  refine c_gX4_awake hx hb hts hown hK hj hP (hts _ kw_227) dX4_giveBack_19 ?_
  refine lv_iconst (v := 0) hx hb dX4_giveBack_22 (by decide) ?_
  refine lv_aload_n hx hb dX4_giveBack_23 rfl (lv_at hl 1 rfl) ?_
  refine c_gX10_awake hx hb hts hown hK hP (hts _ kw_121) dX4_giveBack_24 ?_
  refine lv_iconst (v := 0) hx hb dX4_giveBack_27 (by decide) ?_
  refine lv_aload_n hx hb dX4_giveBack_28 rfl (lv_at hl 0 rfl) ?_
  refine c_gX4_awake hx hb hts hown hK hj hP (hts _ kw_227) dX4_giveBack_29 ?_
  refine va_alen hx hb hK hP (36 + 3 * j + 2) 2 (c_lm2 hj) rfl (v := 12) rfl dX4_giveBack_32 ?_
  refine ja_cpz hx hb (hml.trans hl.1.symm) hown (hts _ kw_529) (hts _ kw_531) (hts _ kw_530) (hts _ kw_65) hK (c_D hap σ1) hP hS (36 + 3 * j + 2) 9 2 (c_lm2 hj) rfl rfl c_sA4 hf (Nat.le_of_ble_eq_true rfl) (Nat.le_of_ble_eq_true rfl) dX4_giveBack_33 (fun σ2 H locs hP hS hf => ?_)
  refine lv_aload_n hx hb dX4_giveBack_36 rfl (lv_at hl 1 rfl) ?_
  refine lv_aload_n hx hb dX4_giveBack_37 rfl (lv_at hl 0 rfl) ?_
  refine c_gX4_rounds hx hb hts hown hK hj hP (hts _ kw_228) dX4_giveBack_38 ?_
  refine c_pX10_rounds hx hb hts hown hK hap hP hS hf (hts _ kw_143) dX4_giveBack_41 (fun σ3 H locs hP hS hf => ?_)
  refine lv_aload_n hx hb dX4_giveBack_44 rfl (lv_at hl 1 rfl) ?_
  refine lv_aload_n hx hb dX4_giveBack_45 rfl (lv_at hl 0 rfl) ?_
  refine c_gX4_sum hx hb hts hown hK hj hP (hts _ kw_229) dX4_giveBack_46 ?_
  refine c_pX10_sum hx hb hts hown hK hap hP hS hf (hts _ kw_149) dX4_giveBack_49 (fun σ4 H locs hP hS hf => ?_)
  exact jr_u hx hb hr hlocks hf hP hS dX4_giveBack_52
theorem c_cX4_giveBack (l : Launch) {dC : Nat → ClassId} {dI : Nat → Nat → Nat} {kA : Nat → ClassId} {ad : Nat → Nat} (hap : jw_ap 57 ad) (j : Nat) (hj : j < 7) (σ : RS) (res : RS) (hf : s_cX4_giveBack j σ = some res) : jm_u l KW NW (dC, dI) vwCl (jtys kA) (jw_A 57 ad) (c_w kA ad) yX4_giveBack cX4_giveBack 2 (rm_cX4_giveBack) [.ref (ad (36 + 3 * j)), .ref (ad 7)] σ res := jm_u_of (by decide) (Nat.le_of_ble_eq_true rfl) (fun p e s m below meth c C hP hS ls hl => p_cX4_giveBack C hap j hj σ hf s.heap [] ls hP hS hl)

def rm_cX5_mark : Room := { frames := 2, cells := 0, slots := 0, locals := 39 }
def G_cX5_mark (p : Program) (l : Launch) (e : Env) (s : State) (m : MethodId) (args : Array Value) (below : List Frame) (meth : Method) (c : Code) (dC : Nat → ClassId) (dI : Nat → Nat → Nat) (kA : Nat → ClassId) (ad : Nat → Nat) (res : RS) (F : RS → Option (RS)) : Prop := ∀ (σ : RS), F σ = some res → ∀ (H : Heap) (locs : List Loc) (ls : Array Slot), va_P (dC, dI) vwCl (c_w kA ad σ) H → va_S (jw_A 57 ad) s.heap H locs → lv_has ls 2 [(0, .ref (ad 17)), (1, .ref (ad 7))] → W p l e rm_cX5_mark s m args below meth c H locs 0 0 (c_Qu below dC dI kA ad args s res) (F0 m 0 ls [])
def s_cX5_mark (σ : RS) : Option (RS) := kn_ld (fun j => j) 7 (rg_I σ 11) (fun j1 => kn_u (s_cX4_take j1 σ) (fun σ3 => some σ3))
set_option maxRecDepth 100000 in
set_option maxHeartbeats 4000000 in
theorem p_cX5_mark {p : Program} {l : Launch} {e : Env} {s : State} {m : MethodId} {args : Array Value} {below : List Frame} {meth : Method} {c : Code} {dC : Nat → ClassId} {dI : Nat → Nat → Nat} {kA : Nat → ClassId} {ad : Nat → Nat} (C : jxc cX5_mark none 2 RX5 p s m args meth c dC dI kA) (hap : jw_ap 57 ad) {res : RS} : G_cX5_mark p l e s m args below meth c dC dI kA ad res (s_cX5_mark) := by
  obtain ⟨hx, hb, hml, hown, hts, hr, hlocks, hK, hN⟩ := id C
  intro σ hf H locs ls hP hS hl
  unfold s_cX5_mark at hf
  refine lv_aload_n hx hb dX5_mark_0 rfl (lv_at hl 0 rfl) ?_
  refine c_gX5_ring hx hb hts hown hK hP (hts _ kw_239) dX5_mark_1 ?_
  refine lv_aload_n hx hb dX5_mark_4 rfl (lv_at hl 0 rfl) ?_
  refine c_gX5_next hx hb hts hown hK hP (hts _ kw_240) dX5_mark_5 ?_
  refine c_rld hx hb hK hP hf dX5_mark_8 (fun j1 hj1 hf => ?_)
  refine lv_aload_n hx hb dX5_mark_9 rfl (lv_at hl 1 rfl) ?_
  refine jk_u hf (fun res hres => jv_run hx hb hml hown hts hK hN c_hG c_hNW hl.1 (n := 1) (As := [.ref (ad 7)]) (rest := []) (c_cX4_take l hap j1 hj1 σ res hres) hP (ci := 4) rfl (c_lmem hj1) rfl kw_528 kw_525 kw_526 kw_527 kw_58 ⟨rfl, rfl⟩ (by decide +kernel) rfl ⟨Nat.le_of_ble_eq_true rfl, Nat.le_of_ble_eq_true rfl⟩ rfl (Nat.le_of_ble_eq_true rfl) dX5_mark_10) hS (fun σ3 H locs hP hS hf => ?_)
  exact jr_u hx hb hr hlocks hf hP hS dX5_mark_13
theorem c_cX5_mark (l : Launch) {dC : Nat → ClassId} {dI : Nat → Nat → Nat} {kA : Nat → ClassId} {ad : Nat → Nat} (hap : jw_ap 57 ad) (σ : RS) (res : RS) (hf : s_cX5_mark σ = some res) : jm_u l KW NW (dC, dI) vwCl (jtys kA) (jw_A 57 ad) (c_w kA ad) yX5_mark cX5_mark 2 (rm_cX5_mark) [.ref (ad 17), .ref (ad 7)] σ res := jm_u_of (by decide) (Nat.le_of_ble_eq_true rfl) (fun p e s m below meth c C hP hS ls hl => p_cX5_mark C hap σ hf s.heap [] ls hP hS hl)

def rm_cX5_backToMark : Room := { frames := 2, cells := 0, slots := 0, locals := 39 }
def G_cX5_backToMark (p : Program) (l : Launch) (e : Env) (s : State) (m : MethodId) (args : Array Value) (below : List Frame) (meth : Method) (c : Code) (dC : Nat → ClassId) (dI : Nat → Nat → Nat) (kA : Nat → ClassId) (ad : Nat → Nat) (res : RS) (F : RS → Option (RS)) : Prop := ∀ (σ : RS), F σ = some res → ∀ (H : Heap) (locs : List Loc) (ls : Array Slot), va_P (dC, dI) vwCl (c_w kA ad σ) H → va_S (jw_A 57 ad) s.heap H locs → lv_has ls 2 [(0, .ref (ad 17)), (1, .ref (ad 7))] → W p l e rm_cX5_backToMark s m args below meth c H locs 0 0 (c_Qu below dC dI kA ad args s res) (F0 m 0 ls [])
def s_cX5_backToMark (σ : RS) : Option (RS) := kn_ld (fun j => j) 7 (rg_I σ 11) (fun j1 => kn_u (s_cX4_giveBack j1 σ) (fun σ3 => some σ3))
set_option maxRecDepth 100000 in
set_option maxHeartbeats 4000000 in
theorem p_cX5_backToMark {p : Program} {l : Launch} {e : Env} {s : State} {m : MethodId} {args : Array Value} {below : List Frame} {meth : Method} {c : Code} {dC : Nat → ClassId} {dI : Nat → Nat → Nat} {kA : Nat → ClassId} {ad : Nat → Nat} (C : jxc cX5_backToMark none 2 RX5 p s m args meth c dC dI kA) (hap : jw_ap 57 ad) {res : RS} : G_cX5_backToMark p l e s m args below meth c dC dI kA ad res (s_cX5_backToMark) := by
  obtain ⟨hx, hb, hml, hown, hts, hr, hlocks, hK, hN⟩ := id C
  intro σ hf H locs ls hP hS hl
  unfold s_cX5_backToMark at hf
  refine lv_aload_n hx hb dX5_backToMark_0 rfl (lv_at hl 0 rfl) ?_
  refine c_gX5_ring hx hb hts hown hK hP (hts _ kw_239) dX5_backToMark_1 ?_
  refine lv_aload_n hx hb dX5_backToMark_4 rfl (lv_at hl 0 rfl) ?_
  refine c_gX5_next hx hb hts hown hK hP (hts _ kw_240) dX5_backToMark_5 ?_
  refine c_rld hx hb hK hP hf dX5_backToMark_8 (fun j1 hj1 hf => ?_)
  refine lv_aload_n hx hb dX5_backToMark_9 rfl (lv_at hl 1 rfl) ?_
  refine jk_u hf (fun res hres => jv_run hx hb hml hown hts hK hN c_hG c_hNW hl.1 (n := 1) (As := [.ref (ad 7)]) (rest := []) (c_cX4_giveBack l hap j1 hj1 σ res hres) hP (ci := 4) rfl (c_lmem hj1) rfl kw_680 kw_677 kw_678 kw_679 kw_58 ⟨rfl, rfl⟩ (by decide +kernel) rfl ⟨Nat.le_of_ble_eq_true rfl, Nat.le_of_ble_eq_true rfl⟩ rfl (Nat.le_of_ble_eq_true rfl) dX5_backToMark_10) hS (fun σ3 H locs hP hS hf => ?_)
  exact jr_u hx hb hr hlocks hf hP hS dX5_backToMark_13
theorem c_cX5_backToMark (l : Launch) {dC : Nat → ClassId} {dI : Nat → Nat → Nat} {kA : Nat → ClassId} {ad : Nat → Nat} (hap : jw_ap 57 ad) (σ : RS) (res : RS) (hf : s_cX5_backToMark σ = some res) : jm_u l KW NW (dC, dI) vwCl (jtys kA) (jw_A 57 ad) (c_w kA ad) yX5_backToMark cX5_backToMark 2 (rm_cX5_backToMark) [.ref (ad 17), .ref (ad 7)] σ res := jm_u_of (by decide) (Nat.le_of_ble_eq_true rfl) (fun p e s m below meth c C hP hS ls hl => p_cX5_backToMark C hap σ hf s.heap [] ls hP hS hl)

def rm_cX5_keepMark : Room := { frames := 0, cells := 0, slots := 0, locals := 0 }
def G_cX5_keepMark (p : Program) (l : Launch) (e : Env) (s : State) (m : MethodId) (args : Array Value) (below : List Frame) (meth : Method) (c : Code) (dC : Nat → ClassId) (dI : Nat → Nat → Nat) (kA : Nat → ClassId) (ad : Nat → Nat) (res : RS) (F : RS → Option (RS)) : Prop := ∀ (σ : RS), F σ = some res → ∀ (H : Heap) (locs : List Loc) (ls : Array Slot), va_P (dC, dI) vwCl (c_w kA ad σ) H → va_S (jw_A 57 ad) s.heap H locs → lv_has ls 1 [(0, .ref (ad 17))] → W p l e rm_cX5_keepMark s m args below meth c H locs 0 0 (c_Qu below dC dI kA ad args s res) (F0 m 0 ls [])
def s_cX5_keepMark (σ : RS) : Option (RS) := kn_v (rs_I σ 11 (((rg_I σ 11) + 1) - ((rg_I σ 11) + 1) / 7 * 7)) (fun σ1 => if 6 ≤ (rg_I σ1 12) then some σ1 else (kn_v (rs_I σ1 12 ((rg_I σ1 12) + 1)) (fun σ2 => some σ2)))
set_option maxRecDepth 100000 in
set_option maxHeartbeats 4000000 in
theorem p_cX5_keepMark {p : Program} {l : Launch} {e : Env} {s : State} {m : MethodId} {args : Array Value} {below : List Frame} {meth : Method} {c : Code} {dC : Nat → ClassId} {dI : Nat → Nat → Nat} {kA : Nat → ClassId} {ad : Nat → Nat} (C : jxc cX5_keepMark none 1 RX5 p s m args meth c dC dI kA) (hap : jw_ap 57 ad) {res : RS} : G_cX5_keepMark p l e s m args below meth c dC dI kA ad res (s_cX5_keepMark) := by
  obtain ⟨hx, hb, hml, hown, hts, hr, hlocks, hK, hN⟩ := id C
  intro σ hf H locs ls hP hS hl
  unfold s_cX5_keepMark at hf
  refine lv_aload_n hx hb dX5_keepMark_0 rfl (lv_at hl 0 rfl) ?_
  refine lv_aload_n hx hb dX5_keepMark_1 rfl (lv_at hl 0 rfl) ?_
  refine c_gX5_next hx hb hts hown hK hP (hts _ kw_240) dX5_keepMark_2 ?_
  refine lv_iconst (v := 1) hx hb dX5_keepMark_5 (by decide) ?_
  refine lv_iadd hx hb dX5_keepMark_6 ?_
  refine lv_bipush (v := 7) hx hb dX5_keepMark_7 (by decide) ?_
  refine lv_irem hx hb dX5_keepMark_9 (by decide) ?_
  refine c_pX5_next hx hb hts hown hK hap hP hS hf (hts _ kw_240) dX5_keepMark_10 (fun σ1 H locs hP hS hf => ?_)
  refine lv_aload_n hx hb dX5_keepMark_13 rfl (lv_at hl 0 rfl) ?_
  refine c_gX5_kept hx hb hts hown hK hP (hts _ kw_241) dX5_keepMark_14 ?_
  refine lv_bipush (v := 6) hx hb dX5_keepMark_17 (by decide) ?_
  refine jc_ge (tgt := 32) hx hb hf dX5_keepMark_19 (by decide) (fun hf => ?_) (fun hf => ?_)
  · exact jr_u hx hb hr hlocks hf hP hS dX5_keepMark_32
  · refine lv_aload_n hx hb dX5_keepMark_22 rfl (lv_at hl 0 rfl) ?_
    refine lv_dup hx hb dX5_keepMark_23 rfl ?_
    refine c_gX5_kept hx hb hts hown hK hP (hts _ kw_241) dX5_keepMark_24 ?_
    refine lv_iconst (v := 1) hx hb dX5_keepMark_27 (by decide) ?_
    refine lv_iadd hx hb dX5_keepMark_28 ?_
    refine c_pX5_kept hx hb hts hown hK hap hP hS hf (hts _ kw_241) dX5_keepMark_29 (fun σ2 H locs hP hS hf => ?_)
    exact jr_u hx hb hr hlocks hf hP hS dX5_keepMark_32
theorem c_cX5_keepMark (l : Launch) {dC : Nat → ClassId} {dI : Nat → Nat → Nat} {kA : Nat → ClassId} {ad : Nat → Nat} (hap : jw_ap 57 ad) (σ : RS) (res : RS) (hf : s_cX5_keepMark σ = some res) : jm_u l KW NW (dC, dI) vwCl (jtys kA) (jw_A 57 ad) (c_w kA ad) yX5_keepMark cX5_keepMark 1 (rm_cX5_keepMark) [.ref (ad 17)] σ res := jm_u_of (by decide) (Nat.le_of_ble_eq_true rfl) (fun p e s m below meth c C hP hS ls hl => p_cX5_keepMark C hap σ hf s.heap [] ls hP hS hl)
end
section
theorem dX5_forget_0 : decode cX5_forget 0 = .ok (.aload_n 0, 1) := by decide +kernel
theorem dX5_forget_1 : decode cX5_forget 1 = .ok (.iconst 0, 1) := by decide +kernel
theorem dX5_forget_2 : decode cX5_forget 2 = .ok (.putfield 29, 3) := by decide +kernel
theorem dX5_forget_5 : decode cX5_forget 5 = .ok (.return_, 1) := by decide +kernel
theorem dX5_undoLatest_0 : decode cX5_undoLatest 0 = .ok (.aload_n 0, 1) := by decide +kernel
theorem dX5_undoLatest_1 : decode cX5_undoLatest 1 = .ok (.getfield 29, 3) := by decide +kernel
theorem dX5_undoLatest_4 : decode cX5_undoLatest 4 = .ok (.ifCond .ne 5, 3) := by decide +kernel
theorem dX5_undoLatest_7 : decode cX5_undoLatest 7 = .ok (.iconst (-1), 1) := by decide +kernel
theorem dX5_undoLatest_8 : decode cX5_undoLatest 8 = .ok (.ireturn, 1) := by decide +kernel
theorem dX5_undoLatest_9 : decode cX5_undoLatest 9 = .ok (.aload_n 0, 1) := by decide +kernel
theorem dX5_undoLatest_10 : decode cX5_undoLatest 10 = .ok (.aload_n 0, 1) := by decide +kernel
theorem dX5_undoLatest_11 : decode cX5_undoLatest 11 = .ok (.getfield 18, 3) := by decide +kernel
theorem dX5_undoLatest_14 : decode cX5_undoLatest 14 = .ok (.bipush 7, 2) := by decide +kernel
theorem dX5_undoLatest_16 : decode cX5_undoLatest 16 = .ok (.iadd, 1) := by decide +kernel
theorem dX5_undoLatest_17 : decode cX5_undoLatest 17 = .ok (.iconst 1, 1) := by decide +kernel
theorem dX5_undoLatest_18 : decode cX5_undoLatest 18 = .ok (.isub, 1) := by decide +kernel
theorem dX5_undoLatest_19 : decode cX5_undoLatest 19 = .ok (.bipush 7, 2) := by decide +kernel
theorem dX5_undoLatest_21 : decode cX5_undoLatest 21 = .ok (.irem, 1) := by decide +kernel
theorem dX5_undoLatest_22 : decode cX5_undoLatest 22 = .ok (.putfield 18, 3) := by decide +kernel
theorem dX5_undoLatest_25 : decode cX5_undoLatest 25 = .ok (.aload_n 0, 1) := by decide +kernel
theorem dX5_undoLatest_26 : decode cX5_undoLatest 26 = .ok (.dup, 1) := by decide +kernel
theorem dX5_undoLatest_27 : decode cX5_undoLatest 27 = .ok (.getfield 29, 3) := by decide +kernel
theorem dX5_undoLatest_30 : decode cX5_undoLatest 30 = .ok (.iconst 1, 1) := by decide +kernel
theorem dX5_undoLatest_31 : decode cX5_undoLatest 31 = .ok (.isub, 1) := by decide +kernel
theorem dX5_undoLatest_32 : decode cX5_undoLatest 32 = .ok (.putfield 29, 3) := by decide +kernel
theorem dX5_undoLatest_35 : decode cX5_undoLatest 35 = .ok (.aload_n 0, 1) := by decide +kernel
theorem dX5_undoLatest_36 : decode cX5_undoLatest 36 = .ok (.getfield 13, 3) := by decide +kernel
theorem dX5_undoLatest_39 : decode cX5_undoLatest 39 = .ok (.aload_n 0, 1) := by decide +kernel
theorem dX5_undoLatest_40 : decode cX5_undoLatest 40 = .ok (.getfield 18, 3) := by decide +kernel
theorem dX5_undoLatest_43 : decode cX5_undoLatest 43 = .ok (.aaload, 1) := by decide +kernel
theorem dX5_undoLatest_44 : decode cX5_undoLatest 44 = .ok (.aload_n 1, 1) := by decide +kernel
theorem dX5_undoLatest_45 : decode cX5_undoLatest 45 = .ok (.invokevirtual 26, 3) := by decide +kernel
theorem dX5_undoLatest_48 : decode cX5_undoLatest 48 = .ok (.aload_n 0, 1) := by decide +kernel
theorem dX5_undoLatest_49 : decode cX5_undoLatest 49 = .ok (.getfield 29, 3) := by decide +kernel
theorem dX5_undoLatest_52 : decode cX5_undoLatest 52 = .ok (.ireturn, 1) := by decide +kernel
theorem dX7_messagesTo_0 : decode cX7_messagesTo 0 = .ok (.iconst 0, 1) := by decide +kernel
theorem dX7_messagesTo_1 : decode cX7_messagesTo 1 = .ok (.istore_n 2, 1) := by decide +kernel
theorem dX7_messagesTo_2 : decode cX7_messagesTo 2 = .ok (.iconst 0, 1) := by decide +kernel
theorem dX7_messagesTo_3 : decode cX7_messagesTo 3 = .ok (.istore_n 3, 1) := by decide +kernel
theorem dX7_messagesTo_4 : decode cX7_messagesTo 4 = .ok (.iload_n 3, 1) := by decide +kernel
theorem dX7_messagesTo_5 : decode cX7_messagesTo 5 = .ok (.aload_n 0, 1) := by decide +kernel
theorem dX7_messagesTo_6 : decode cX7_messagesTo 6 = .ok (.getfield 38, 3) := by decide +kernel
theorem dX7_messagesTo_9 : decode cX7_messagesTo 9 = .ok (.getfield 126, 3) := by decide +kernel
theorem dX7_messagesTo_12 : decode cX7_messagesTo 12 = .ok (.if_icmp .ge 34, 3) := by decide +kernel
theorem dX7_messagesTo_15 : decode cX7_messagesTo 15 = .ok (.aload_n 0, 1) := by decide +kernel
theorem dX7_messagesTo_16 : decode cX7_messagesTo 16 = .ok (.getfield 15, 3) := by decide +kernel
theorem dX7_messagesTo_19 : decode cX7_messagesTo 19 = .ok (.iload_n 3, 1) := by decide +kernel
theorem dX7_messagesTo_20 : decode cX7_messagesTo 20 = .ok (.baload, 1) := by decide +kernel
theorem dX7_messagesTo_21 : decode cX7_messagesTo 21 = .ok (.ifCond .eq 19, 3) := by decide +kernel
theorem dX7_messagesTo_24 : decode cX7_messagesTo 24 = .ok (.aload_n 0, 1) := by decide +kernel
theorem dX7_messagesTo_25 : decode cX7_messagesTo 25 = .ok (.getfield 38, 3) := by decide +kernel
theorem dX7_messagesTo_28 : decode cX7_messagesTo 28 = .ok (.getfield 117, 3) := by decide +kernel
theorem dX7_messagesTo_31 : decode cX7_messagesTo 31 = .ok (.iload_n 3, 1) := by decide +kernel
theorem dX7_messagesTo_32 : decode cX7_messagesTo 32 = .ok (.iaload, 1) := by decide +kernel
theorem dX7_messagesTo_33 : decode cX7_messagesTo 33 = .ok (.iload_n 1, 1) := by decide +kernel
theorem dX7_messagesTo_34 : decode cX7_messagesTo 34 = .ok (.if_icmp .ne 6, 3) := by decide +kernel
theorem dX7_messagesTo_37 : decode cX7_messagesTo 37 = .ok (.iinc 2 1, 3) := by decide +kernel
theorem dX7_messagesTo_40 : decode cX7_messagesTo 40 = .ok (.iinc 3 1, 3) := by decide +kernel
theorem dX7_messagesTo_43 : decode cX7_messagesTo 43 = .ok (.goto (-39), 3) := by decide +kernel
theorem dX7_messagesTo_46 : decode cX7_messagesTo 46 = .ok (.iload_n 2, 1) := by decide +kernel
theorem dX7_messagesTo_47 : decode cX7_messagesTo 47 = .ok (.ireturn, 1) := by decide +kernel
theorem dX7_foldTwo_0 : decode cX7_foldTwo 0 = .ok (.aload_n 0, 1) := by decide +kernel
theorem dX7_foldTwo_1 : decode cX7_foldTwo 1 = .ok (.getfield 39, 3) := by decide +kernel
theorem dX7_foldTwo_4 : decode cX7_foldTwo 4 = .ok (.getfield 163, 3) := by decide +kernel
theorem dX7_foldTwo_7 : decode cX7_foldTwo 7 = .ok (.getfield 167, 3) := by decide +kernel
theorem dX7_foldTwo_10 : decode cX7_foldTwo 10 = .ok (.tableswitch 40 1 3 #[26, 32, 38], 26) := by decide +kernel
theorem dX7_foldTwo_36 : decode cX7_foldTwo 36 = .ok (.lload_n 1, 1) := by decide +kernel
theorem dX7_foldTwo_37 : decode cX7_foldTwo 37 = .ok (.lload_n 3, 1) := by decide +kernel
theorem dX7_foldTwo_38 : decode cX7_foldTwo 38 = .ok (.invokestatic 172, 3) := by decide +kernel
theorem dX7_foldTwo_41 : decode cX7_foldTwo 41 = .ok (.lreturn, 1) := by decide +kernel
theorem dX7_foldTwo_42 : decode cX7_foldTwo 42 = .ok (.lload_n 1, 1) := by decide +kernel
theorem dX7_foldTwo_43 : decode cX7_foldTwo 43 = .ok (.lload_n 3, 1) := by decide +kernel
theorem dX7_foldTwo_44 : decode cX7_foldTwo 44 = .ok (.invokestatic 178, 3) := by decide +kernel
theorem dX7_foldTwo_47 : decode cX7_foldTwo 47 = .ok (.lreturn, 1) := by decide +kernel
theorem dX7_foldTwo_48 : decode cX7_foldTwo 48 = .ok (.lload_n 3, 1) := by decide +kernel
theorem dX7_foldTwo_49 : decode cX7_foldTwo 49 = .ok (.lreturn, 1) := by decide +kernel
theorem dX7_foldTwo_50 : decode cX7_foldTwo 50 = .ok (.lload_n 1, 1) := by decide +kernel
theorem dX7_foldTwo_51 : decode cX7_foldTwo 51 = .ok (.lload_n 3, 1) := by decide +kernel
theorem dX7_foldTwo_52 : decode cX7_foldTwo 52 = .ok (.ladd, 1) := by decide +kernel
theorem dX7_foldTwo_53 : decode cX7_foldTwo 53 = .ok (.lstore 6, 2) := by decide +kernel
theorem dX7_foldTwo_55 : decode cX7_foldTwo 55 = .ok (.lload_n 1, 1) := by decide +kernel
theorem dX7_foldTwo_56 : decode cX7_foldTwo 56 = .ok (.lload 6, 2) := by decide +kernel
theorem dX7_foldTwo_58 : decode cX7_foldTwo 58 = .ok (.lxor, 1) := by decide +kernel
theorem dX7_foldTwo_59 : decode cX7_foldTwo 59 = .ok (.lload_n 3, 1) := by decide +kernel
theorem dX7_foldTwo_60 : decode cX7_foldTwo 60 = .ok (.lload 6, 2) := by decide +kernel
theorem dX7_foldTwo_62 : decode cX7_foldTwo 62 = .ok (.lxor, 1) := by decide +kernel
theorem dX7_foldTwo_63 : decode cX7_foldTwo 63 = .ok (.land, 1) := by decide +kernel
theorem dX7_foldTwo_64 : decode cX7_foldTwo 64 = .ok (.lconst 0, 1) := by decide +kernel
theorem dX7_foldTwo_65 : decode cX7_foldTwo 65 = .ok (.lcmp, 1) := by decide +kernel
theorem dX7_foldTwo_66 : decode cX7_foldTwo 66 = .ok (.ifCond .ge 25, 3) := by decide +kernel
theorem dX7_foldTwo_69 : decode cX7_foldTwo 69 = .ok (.aload_n 0, 1) := by decide +kernel
theorem dX7_foldTwo_70 : decode cX7_foldTwo 70 = .ok (.getfield 47, 3) := by decide +kernel
theorem dX7_foldTwo_73 : decode cX7_foldTwo 73 = .ok (.iconst 3, 1) := by decide +kernel
theorem dX7_foldTwo_74 : decode cX7_foldTwo 74 = .ok (.bipush 7, 2) := by decide +kernel
theorem dX7_foldTwo_76 : decode cX7_foldTwo 76 = .ok (.iload 5, 2) := by decide +kernel
theorem dX7_foldTwo_78 : decode cX7_foldTwo 78 = .ok (.iconst (-1), 1) := by decide +kernel
theorem dX7_foldTwo_79 : decode cX7_foldTwo 79 = .ok (.aload_n 0, 1) := by decide +kernel
theorem dX7_foldTwo_80 : decode cX7_foldTwo 80 = .ok (.getfield 38, 3) := by decide +kernel
theorem dX7_foldTwo_83 : decode cX7_foldTwo 83 = .ok (.getfield 97, 3) := by decide +kernel
theorem dX7_foldTwo_86 : decode cX7_foldTwo 86 = .ok (.iconst 1, 1) := by decide +kernel
theorem dX7_foldTwo_87 : decode cX7_foldTwo 87 = .ok (.iadd, 1) := by decide +kernel
theorem dX7_foldTwo_88 : decode cX7_foldTwo 88 = .ok (.invokevirtual 181, 3) := by decide +kernel
theorem dX7_foldTwo_91 : decode cX7_foldTwo 91 = .ok (.lload 6, 2) := by decide +kernel
theorem dX7_foldTwo_93 : decode cX7_foldTwo 93 = .ok (.lreturn, 1) := by decide +kernel
theorem dX7_changeNodes_0 : decode cX7_changeNodes 0 = .ok (.iconst 0, 1) := by decide +kernel
theorem dX7_changeNodes_1 : decode cX7_changeNodes 1 = .ok (.istore_n 1, 1) := by decide +kernel
theorem dX7_changeNodes_2 : decode cX7_changeNodes 2 = .ok (.iload_n 1, 1) := by decide +kernel
theorem dX7_changeNodes_3 : decode cX7_changeNodes 3 = .ok (.aload_n 0, 1) := by decide +kernel
theorem dX7_changeNodes_4 : decode cX7_changeNodes 4 = .ok (.getfield 38, 3) := by decide +kernel
theorem dX7_changeNodes_7 : decode cX7_changeNodes 7 = .ok (.getfield 123, 3) := by decide +kernel
theorem dX7_changeNodes_10 : decode cX7_changeNodes 10 = .ok (.if_icmp .ge 65, 3) := by decide +kernel
theorem dX7_changeNodes_13 : decode cX7_changeNodes 13 = .ok (.aload_n 0, 1) := by decide +kernel
theorem dX7_changeNodes_14 : decode cX7_changeNodes 14 = .ok (.getfield 23, 3) := by decide +kernel
theorem dX7_changeNodes_17 : decode cX7_changeNodes 17 = .ok (.iload_n 1, 1) := by decide +kernel
theorem dX7_changeNodes_18 : decode cX7_changeNodes 18 = .ok (.baload, 1) := by decide +kernel
theorem dX7_changeNodes_19 : decode cX7_changeNodes 19 = .ok (.ifCond .ne 6, 3) := by decide +kernel
theorem dX7_changeNodes_22 : decode cX7_changeNodes 22 = .ok (.goto 47, 3) := by decide +kernel
theorem dX7_changeNodes_25 : decode cX7_changeNodes 25 = .ok (.aload_n 0, 1) := by decide +kernel
theorem dX7_changeNodes_26 : decode cX7_changeNodes 26 = .ok (.getfield 29, 3) := by decide +kernel
theorem dX7_changeNodes_29 : decode cX7_changeNodes 29 = .ok (.iload_n 1, 1) := by decide +kernel
theorem dX7_changeNodes_30 : decode cX7_changeNodes 30 = .ok (.iconst 3, 1) := by decide +kernel
theorem dX7_changeNodes_31 : decode cX7_changeNodes 31 = .ok (.imul, 1) := by decide +kernel
theorem dX7_changeNodes_32 : decode cX7_changeNodes 32 = .ok (.aload_n 0, 1) := by decide +kernel
theorem dX7_changeNodes_33 : decode cX7_changeNodes 33 = .ok (.getfield 38, 3) := by decide +kernel
theorem dX7_changeNodes_36 : decode cX7_changeNodes 36 = .ok (.getfield 156, 3) := by decide +kernel
theorem dX7_changeNodes_39 : decode cX7_changeNodes 39 = .ok (.iload_n 1, 1) := by decide +kernel
theorem dX7_changeNodes_40 : decode cX7_changeNodes 40 = .ok (.iconst 3, 1) := by decide +kernel
theorem dX7_changeNodes_41 : decode cX7_changeNodes 41 = .ok (.imul, 1) := by decide +kernel
theorem dX7_changeNodes_42 : decode cX7_changeNodes 42 = .ok (.iconst 3, 1) := by decide +kernel
theorem dX7_changeNodes_43 : decode cX7_changeNodes 43 = .ok (.invokestatic 185, 3) := by decide +kernel
theorem dX7_changeNodes_46 : decode cX7_changeNodes 46 = .ok (.aload_n 0, 1) := by decide +kernel
theorem dX7_changeNodes_47 : decode cX7_changeNodes 47 = .ok (.getfield 38, 3) := by decide +kernel
theorem dX7_changeNodes_50 : decode cX7_changeNodes 50 = .ok (.getfield 129, 3) := by decide +kernel
theorem dX7_changeNodes_53 : decode cX7_changeNodes 53 = .ok (.iload_n 1, 1) := by decide +kernel
theorem dX7_changeNodes_54 : decode cX7_changeNodes 54 = .ok (.aload_n 0, 1) := by decide +kernel
theorem dX7_changeNodes_55 : decode cX7_changeNodes 55 = .ok (.getfield 26, 3) := by decide +kernel
theorem dX7_changeNodes_58 : decode cX7_changeNodes 58 = .ok (.iload_n 1, 1) := by decide +kernel
theorem dX7_changeNodes_59 : decode cX7_changeNodes 59 = .ok (.baload, 1) := by decide +kernel
theorem dX7_changeNodes_60 : decode cX7_changeNodes 60 = .ok (.ifCond .ne 7, 3) := by decide +kernel
theorem dX7_changeNodes_63 : decode cX7_changeNodes 63 = .ok (.iconst 1, 1) := by decide +kernel
theorem dX7_changeNodes_64 : decode cX7_changeNodes 64 = .ok (.goto 4, 3) := by decide +kernel
theorem dX7_changeNodes_67 : decode cX7_changeNodes 67 = .ok (.iconst 0, 1) := by decide +kernel
theorem dX7_changeNodes_68 : decode cX7_changeNodes 68 = .ok (.bastore, 1) := by decide +kernel
theorem dX7_changeNodes_69 : decode cX7_changeNodes 69 = .ok (.iinc 1 1, 3) := by decide +kernel
theorem dX7_changeNodes_72 : decode cX7_changeNodes 72 = .ok (.goto (-70), 3) := by decide +kernel
theorem dX7_changeNodes_75 : decode cX7_changeNodes 75 = .ok (.return_, 1) := by decide +kernel
theorem dX8_has_0 : decode cX8_has 0 = .ok (.iload_n 1, 1) := by decide +kernel
theorem dX8_has_1 : decode cX8_has 1 = .ok (.ifCond .lt 15, 3) := by decide +kernel
theorem dX8_has_4 : decode cX8_has 4 = .ok (.iload_n 1, 1) := by decide +kernel
theorem dX8_has_5 : decode cX8_has 5 = .ok (.aload_n 0, 1) := by decide +kernel
theorem dX8_has_6 : decode cX8_has 6 = .ok (.getfield 28, 3) := by decide +kernel
theorem dX8_has_9 : decode cX8_has 9 = .ok (.if_icmp .ge 7, 3) := by decide +kernel
theorem dX8_has_12 : decode cX8_has 12 = .ok (.iconst 1, 1) := by decide +kernel
theorem dX8_has_13 : decode cX8_has 13 = .ok (.goto 4, 3) := by decide +kernel
theorem dX8_has_16 : decode cX8_has 16 = .ok (.iconst 0, 1) := by decide +kernel
theorem dX8_has_17 : decode cX8_has 17 = .ok (.ireturn, 1) := by decide +kernel
theorem dX8_partsOf_0 : decode cX8_partsOf 0 = .ok (.iload_n 0, 1) := by decide +kernel
theorem dX8_partsOf_1 : decode cX8_partsOf 1 = .ok (.bipush 8, 2) := by decide +kernel
theorem dX8_partsOf_3 : decode cX8_partsOf 3 = .ok (.if_icmp .ge 5, 3) := by decide +kernel
theorem dX8_partsOf_6 : decode cX8_partsOf 6 = .ok (.iconst 0, 1) := by decide +kernel
theorem dX8_partsOf_7 : decode cX8_partsOf 7 = .ok (.ireturn, 1) := by decide +kernel
theorem dX8_partsOf_8 : decode cX8_partsOf 8 = .ok (.iload_n 0, 1) := by decide +kernel
theorem dX8_partsOf_9 : decode cX8_partsOf 9 = .ok (.bipush 16, 2) := by decide +kernel
theorem dX8_partsOf_11 : decode cX8_partsOf 11 = .ok (.if_icmp .ne 5, 3) := by decide +kernel
theorem dX8_partsOf_14 : decode cX8_partsOf 14 = .ok (.iconst 3, 1) := by decide +kernel
theorem dX8_partsOf_15 : decode cX8_partsOf 15 = .ok (.ireturn, 1) := by decide +kernel
theorem dX8_partsOf_16 : decode cX8_partsOf 16 = .ok (.iload_n 0, 1) := by decide +kernel
theorem dX8_partsOf_17 : decode cX8_partsOf 17 = .ok (.bipush 17, 2) := by decide +kernel
theorem dX8_partsOf_19 : decode cX8_partsOf 19 = .ok (.if_icmp .ne 7, 3) := by decide +kernel
theorem dX8_partsOf_22 : decode cX8_partsOf 22 = .ok (.iconst 1, 1) := by decide +kernel
theorem dX8_partsOf_23 : decode cX8_partsOf 23 = .ok (.goto 4, 3) := by decide +kernel
theorem dX8_partsOf_26 : decode cX8_partsOf 26 = .ok (.iconst 2, 1) := by decide +kernel
theorem dX8_partsOf_27 : decode cX8_partsOf 27 = .ok (.ireturn, 1) := by decide +kernel
theorem dX9_has_0 : decode cX9_has 0 = .ok (.iload_n 1, 1) := by decide +kernel
theorem dX9_has_1 : decode cX9_has 1 = .ok (.ifCond .lt 15, 3) := by decide +kernel
theorem dX9_has_4 : decode cX9_has 4 = .ok (.iload_n 1, 1) := by decide +kernel
theorem dX9_has_5 : decode cX9_has 5 = .ok (.aload_n 0, 1) := by decide +kernel
theorem dX9_has_6 : decode cX9_has 6 = .ok (.getfield 19, 3) := by decide +kernel
theorem dX9_has_9 : decode cX9_has 9 = .ok (.if_icmp .ge 7, 3) := by decide +kernel
theorem dX9_has_12 : decode cX9_has 12 = .ok (.iconst 1, 1) := by decide +kernel
theorem dX9_has_13 : decode cX9_has 13 = .ok (.goto 4, 3) := by decide +kernel
theorem dX9_has_16 : decode cX9_has 16 = .ok (.iconst 0, 1) := by decide +kernel
theorem dX9_has_17 : decode cX9_has 17 = .ok (.ireturn, 1) := by decide +kernel
theorem dX9_clear_0 : decode cX9_clear 0 = .ok (.aload_n 0, 1) := by decide +kernel
theorem dX9_clear_1 : decode cX9_clear 1 = .ok (.iconst 0, 1) := by decide +kernel
theorem dX9_clear_2 : decode cX9_clear 2 = .ok (.putfield 19, 3) := by decide +kernel
theorem dX9_clear_5 : decode cX9_clear 5 = .ok (.return_, 1) := by decide +kernel
theorem dX9_add_0 : decode cX9_add 0 = .ok (.aload_n 0, 1) := by decide +kernel
theorem dX9_add_1 : decode cX9_add 1 = .ok (.getfield 19, 3) := by decide +kernel
theorem dX9_add_4 : decode cX9_add 4 = .ok (.sipush 200, 3) := by decide +kernel
theorem dX9_add_7 : decode cX9_add 7 = .ok (.if_icmp .lt 4, 3) := by decide +kernel
theorem dX9_add_10 : decode cX9_add 10 = .ok (.return_, 1) := by decide +kernel
theorem dX9_add_11 : decode cX9_add 11 = .ok (.aload_n 0, 1) := by decide +kernel
theorem dX9_add_12 : decode cX9_add 12 = .ok (.getfield 9, 3) := by decide +kernel
theorem dX9_add_15 : decode cX9_add 15 = .ok (.aload_n 0, 1) := by decide +kernel
theorem dX9_add_16 : decode cX9_add 16 = .ok (.getfield 19, 3) := by decide +kernel
theorem dX9_add_19 : decode cX9_add 19 = .ok (.iload_n 1, 1) := by decide +kernel
theorem dX9_add_20 : decode cX9_add 20 = .ok (.iastore, 1) := by decide +kernel
theorem dX9_add_21 : decode cX9_add 21 = .ok (.aload_n 0, 1) := by decide +kernel
theorem dX9_add_22 : decode cX9_add 22 = .ok (.getfield 15, 3) := by decide +kernel
theorem dX9_add_25 : decode cX9_add 25 = .ok (.aload_n 0, 1) := by decide +kernel
theorem dX9_add_26 : decode cX9_add 26 = .ok (.getfield 19, 3) := by decide +kernel
theorem dX9_add_29 : decode cX9_add 29 = .ok (.lload_n 2, 1) := by decide +kernel
theorem dX9_add_30 : decode cX9_add 30 = .ok (.lastore, 1) := by decide +kernel
theorem dX9_add_31 : decode cX9_add 31 = .ok (.aload_n 0, 1) := by decide +kernel
theorem dX9_add_32 : decode cX9_add 32 = .ok (.dup, 1) := by decide +kernel
theorem dX9_add_33 : decode cX9_add 33 = .ok (.getfield 19, 3) := by decide +kernel
theorem dX9_add_36 : decode cX9_add 36 = .ok (.iconst 1, 1) := by decide +kernel
theorem dX9_add_37 : decode cX9_add 37 = .ok (.iadd, 1) := by decide +kernel
theorem dX9_add_38 : decode cX9_add 38 = .ok (.putfield 19, 3) := by decide +kernel
theorem dX9_add_41 : decode cX9_add 41 = .ok (.return_, 1) := by decide +kernel
theorem dX10_hasNode_0 : decode cX10_hasNode 0 = .ok (.iload_n 1, 1) := by decide +kernel
theorem dX10_hasNode_1 : decode cX10_hasNode 1 = .ok (.ifCond .lt 15, 3) := by decide +kernel
theorem dX10_hasNode_4 : decode cX10_hasNode 4 = .ok (.iload_n 1, 1) := by decide +kernel
theorem dX10_hasNode_5 : decode cX10_hasNode 5 = .ok (.aload_n 0, 1) := by decide +kernel
theorem dX10_hasNode_6 : decode cX10_hasNode 6 = .ok (.getfield 32, 3) := by decide +kernel
theorem dX10_hasNode_9 : decode cX10_hasNode 9 = .ok (.if_icmp .ge 7, 3) := by decide +kernel
theorem dX10_hasNode_12 : decode cX10_hasNode 12 = .ok (.iconst 1, 1) := by decide +kernel
theorem dX10_hasNode_13 : decode cX10_hasNode 13 = .ok (.goto 4, 3) := by decide +kernel
theorem dX10_hasNode_16 : decode cX10_hasNode 16 = .ok (.iconst 0, 1) := by decide +kernel
theorem dX10_hasNode_17 : decode cX10_hasNode 17 = .ok (.ireturn, 1) := by decide +kernel
theorem dX10_hasArc_0 : decode cX10_hasArc 0 = .ok (.iload_n 1, 1) := by decide +kernel
theorem dX10_hasArc_1 : decode cX10_hasArc 1 = .ok (.ifCond .lt 15, 3) := by decide +kernel
theorem dX10_hasArc_4 : decode cX10_hasArc 4 = .ok (.iload_n 1, 1) := by decide +kernel
theorem dX10_hasArc_5 : decode cX10_hasArc 5 = .ok (.aload_n 0, 1) := by decide +kernel
theorem dX10_hasArc_6 : decode cX10_hasArc 6 = .ok (.getfield 36, 3) := by decide +kernel
theorem dX10_hasArc_9 : decode cX10_hasArc 9 = .ok (.if_icmp .ge 7, 3) := by decide +kernel
theorem dX10_hasArc_12 : decode cX10_hasArc 12 = .ok (.iconst 1, 1) := by decide +kernel
theorem dX10_hasArc_13 : decode cX10_hasArc 13 = .ok (.goto 4, 3) := by decide +kernel
theorem dX10_hasArc_16 : decode cX10_hasArc 16 = .ok (.iconst 0, 1) := by decide +kernel
theorem dX10_hasArc_17 : decode cX10_hasArc 17 = .ok (.ireturn, 1) := by decide +kernel
theorem dX10_addNode_0 : decode cX10_addNode 0 = .ok (.aload_n 0, 1) := by decide +kernel
theorem dX10_addNode_1 : decode cX10_addNode 1 = .ok (.getfield 32, 3) := by decide +kernel
theorem dX10_addNode_4 : decode cX10_addNode 4 = .ok (.bipush 12, 2) := by decide +kernel
theorem dX10_addNode_6 : decode cX10_addNode 6 = .ok (.if_icmp .lt 6, 3) := by decide +kernel
theorem dX10_addNode_9 : decode cX10_addNode 9 = .ok (.bipush (-103), 2) := by decide +kernel
theorem dX10_addNode_11 : decode cX10_addNode 11 = .ok (.ireturn, 1) := by decide +kernel
theorem dX10_addNode_12 : decode cX10_addNode 12 = .ok (.aload_n 0, 1) := by decide +kernel
theorem dX10_addNode_13 : decode cX10_addNode 13 = .ok (.getfield 15, 3) := by decide +kernel
theorem dX10_addNode_16 : decode cX10_addNode 16 = .ok (.aload_n 0, 1) := by decide +kernel
theorem dX10_addNode_17 : decode cX10_addNode 17 = .ok (.getfield 32, 3) := by decide +kernel
theorem dX10_addNode_20 : decode cX10_addNode 20 = .ok (.iconst 1, 1) := by decide +kernel
theorem dX10_addNode_21 : decode cX10_addNode 21 = .ok (.bastore, 1) := by decide +kernel
theorem dX10_addNode_22 : decode cX10_addNode 22 = .ok (.aload_n 0, 1) := by decide +kernel
theorem dX10_addNode_23 : decode cX10_addNode 23 = .ok (.dup, 1) := by decide +kernel
theorem dX10_addNode_24 : decode cX10_addNode 24 = .ok (.getfield 32, 3) := by decide +kernel
theorem dX10_addNode_27 : decode cX10_addNode 27 = .ok (.iconst 1, 1) := by decide +kernel
theorem dX10_addNode_28 : decode cX10_addNode 28 = .ok (.iadd, 1) := by decide +kernel
theorem dX10_addNode_29 : decode cX10_addNode 29 = .ok (.putfield 32, 3) := by decide +kernel
theorem dX10_addNode_32 : decode cX10_addNode 32 = .ok (.aload_n 0, 1) := by decide +kernel
theorem dX10_addNode_33 : decode cX10_addNode 33 = .ok (.getfield 32, 3) := by decide +kernel
theorem dX10_addNode_36 : decode cX10_addNode 36 = .ok (.iconst 1, 1) := by decide +kernel
theorem dX10_addNode_37 : decode cX10_addNode 37 = .ok (.isub, 1) := by decide +kernel
theorem dX10_addNode_38 : decode cX10_addNode 38 = .ok (.ireturn, 1) := by decide +kernel
theorem dX10_addArc_0 : decode cX10_addArc 0 = .ok (.aload_n 0, 1) := by decide +kernel
theorem dX10_addArc_1 : decode cX10_addArc 1 = .ok (.iload_n 1, 1) := by decide +kernel
theorem dX10_addArc_2 : decode cX10_addArc 2 = .ok (.invokevirtual 39, 3) := by decide +kernel
theorem dX10_addArc_5 : decode cX10_addArc 5 = .ok (.ifCond .eq 11, 3) := by decide +kernel
theorem dX10_addArc_8 : decode cX10_addArc 8 = .ok (.aload_n 0, 1) := by decide +kernel
theorem dX10_addArc_9 : decode cX10_addArc 9 = .ok (.iload_n 2, 1) := by decide +kernel
theorem dX10_addArc_10 : decode cX10_addArc 10 = .ok (.invokevirtual 39, 3) := by decide +kernel
theorem dX10_addArc_13 : decode cX10_addArc 13 = .ok (.ifCond .ne 6, 3) := by decide +kernel
theorem dX10_addArc_16 : decode cX10_addArc 16 = .ok (.bipush (-101), 2) := by decide +kernel
theorem dX10_addArc_18 : decode cX10_addArc 18 = .ok (.ireturn, 1) := by decide +kernel
theorem dX10_addArc_19 : decode cX10_addArc 19 = .ok (.aload_n 0, 1) := by decide +kernel
theorem dX10_addArc_20 : decode cX10_addArc 20 = .ok (.getfield 36, 3) := by decide +kernel
theorem dX10_addArc_23 : decode cX10_addArc 23 = .ok (.bipush 40, 2) := by decide +kernel
theorem dX10_addArc_25 : decode cX10_addArc 25 = .ok (.if_icmp .lt 6, 3) := by decide +kernel
theorem dX10_addArc_28 : decode cX10_addArc 28 = .ok (.bipush (-103), 2) := by decide +kernel
theorem dX10_addArc_30 : decode cX10_addArc 30 = .ok (.ireturn, 1) := by decide +kernel
theorem dX10_addArc_31 : decode cX10_addArc 31 = .ok (.aload_n 0, 1) := by decide +kernel
theorem dX10_addArc_32 : decode cX10_addArc 32 = .ok (.getfield 23, 3) := by decide +kernel
theorem dX10_addArc_35 : decode cX10_addArc 35 = .ok (.aload_n 0, 1) := by decide +kernel
theorem dX10_addArc_36 : decode cX10_addArc 36 = .ok (.getfield 36, 3) := by decide +kernel
theorem dX10_addArc_39 : decode cX10_addArc 39 = .ok (.iload_n 1, 1) := by decide +kernel
theorem dX10_addArc_40 : decode cX10_addArc 40 = .ok (.iastore, 1) := by decide +kernel
theorem dX10_addArc_41 : decode cX10_addArc 41 = .ok (.aload_n 0, 1) := by decide +kernel
theorem dX10_addArc_42 : decode cX10_addArc 42 = .ok (.getfield 26, 3) := by decide +kernel
theorem dX10_addArc_45 : decode cX10_addArc 45 = .ok (.aload_n 0, 1) := by decide +kernel
theorem dX10_addArc_46 : decode cX10_addArc 46 = .ok (.getfield 36, 3) := by decide +kernel
theorem dX10_addArc_49 : decode cX10_addArc 49 = .ok (.iload_n 2, 1) := by decide +kernel
theorem dX10_addArc_50 : decode cX10_addArc 50 = .ok (.iastore, 1) := by decide +kernel
theorem dX10_addArc_51 : decode cX10_addArc 51 = .ok (.aload_n 0, 1) := by decide +kernel
theorem dX10_addArc_52 : decode cX10_addArc 52 = .ok (.getfield 29, 3) := by decide +kernel
theorem dX10_addArc_55 : decode cX10_addArc 55 = .ok (.aload_n 0, 1) := by decide +kernel
theorem dX10_addArc_56 : decode cX10_addArc 56 = .ok (.getfield 36, 3) := by decide +kernel
theorem dX10_addArc_59 : decode cX10_addArc 59 = .ok (.lload_n 3, 1) := by decide +kernel
theorem dX10_addArc_60 : decode cX10_addArc 60 = .ok (.lastore, 1) := by decide +kernel
theorem dX10_addArc_61 : decode cX10_addArc 61 = .ok (.aload_n 0, 1) := by decide +kernel
theorem dX10_addArc_62 : decode cX10_addArc 62 = .ok (.getfield 19, 3) := by decide +kernel
theorem dX10_addArc_65 : decode cX10_addArc 65 = .ok (.iload_n 1, 1) := by decide +kernel
theorem dX10_addArc_66 : decode cX10_addArc 66 = .ok (.dup2, 1) := by decide +kernel
theorem dX10_addArc_67 : decode cX10_addArc 67 = .ok (.iaload, 1) := by decide +kernel
theorem dX10_addArc_68 : decode cX10_addArc 68 = .ok (.iconst 1, 1) := by decide +kernel
theorem dX10_addArc_69 : decode cX10_addArc 69 = .ok (.iadd, 1) := by decide +kernel
theorem dX10_addArc_70 : decode cX10_addArc 70 = .ok (.iastore, 1) := by decide +kernel
theorem dX10_addArc_71 : decode cX10_addArc 71 = .ok (.aload_n 0, 1) := by decide +kernel
theorem dX10_addArc_72 : decode cX10_addArc 72 = .ok (.dup, 1) := by decide +kernel
theorem dX10_addArc_73 : decode cX10_addArc 73 = .ok (.getfield 36, 3) := by decide +kernel
theorem dX10_addArc_76 : decode cX10_addArc 76 = .ok (.iconst 1, 1) := by decide +kernel
theorem dX10_addArc_77 : decode cX10_addArc 77 = .ok (.iadd, 1) := by decide +kernel
theorem dX10_addArc_78 : decode cX10_addArc 78 = .ok (.putfield 36, 3) := by decide +kernel
theorem dX10_addArc_81 : decode cX10_addArc 81 = .ok (.aload_n 0, 1) := by decide +kernel
theorem dX10_addArc_82 : decode cX10_addArc 82 = .ok (.getfield 36, 3) := by decide +kernel
theorem dX10_addArc_85 : decode cX10_addArc 85 = .ok (.iconst 1, 1) := by decide +kernel
theorem dX10_addArc_86 : decode cX10_addArc 86 = .ok (.isub, 1) := by decide +kernel
theorem dX10_addArc_87 : decode cX10_addArc 87 = .ok (.ireturn, 1) := by decide +kernel
def rm_cX5_forget : Room := { frames := 0, cells := 0, slots := 0, locals := 0 }
def G_cX5_forget (p : Program) (l : Launch) (e : Env) (s : State) (m : MethodId) (args : Array Value) (below : List Frame) (meth : Method) (c : Code) (dC : Nat → ClassId) (dI : Nat → Nat → Nat) (kA : Nat → ClassId) (ad : Nat → Nat) (res : RS) (F : RS → Option (RS)) : Prop := ∀ (σ : RS), F σ = some res → ∀ (H : Heap) (locs : List Loc) (ls : Array Slot), va_P (dC, dI) vwCl (c_w kA ad σ) H → va_S (jw_A 57 ad) s.heap H locs → lv_has ls 1 [(0, .ref (ad 17))] → W p l e rm_cX5_forget s m args below meth c H locs 0 0 (c_Qu below dC dI kA ad args s res) (F0 m 0 ls [])
def s_cX5_forget (σ : RS) : Option (RS) := kn_v (rs_I σ 12 0) (fun σ1 => some σ1)
set_option maxRecDepth 100000 in
set_option maxHeartbeats 4000000 in
theorem p_cX5_forget {p : Program} {l : Launch} {e : Env} {s : State} {m : MethodId} {args : Array Value} {below : List Frame} {meth : Method} {c : Code} {dC : Nat → ClassId} {dI : Nat → Nat → Nat} {kA : Nat → ClassId} {ad : Nat → Nat} (C : jxc cX5_forget none 1 RX5 p s m args meth c dC dI kA) (hap : jw_ap 57 ad) {res : RS} : G_cX5_forget p l e s m args below meth c dC dI kA ad res (s_cX5_forget) := by
  obtain ⟨hx, hb, hml, hown, hts, hr, hlocks, hK, hN⟩ := id C
  intro σ hf H locs ls hP hS hl
  unfold s_cX5_forget at hf
  refine lv_aload_n hx hb dX5_forget_0 rfl (lv_at hl 0 rfl) ?_
  refine lv_iconst (v := 0) hx hb dX5_forget_1 (by decide) ?_
  refine c_pX5_kept hx hb hts hown hK hap hP hS hf (hts _ kw_241) dX5_forget_2 (fun σ1 H locs hP hS hf => ?_)
  exact jr_u hx hb hr hlocks hf hP hS dX5_forget_5
theorem c_cX5_forget (l : Launch) {dC : Nat → ClassId} {dI : Nat → Nat → Nat} {kA : Nat → ClassId} {ad : Nat → Nat} (hap : jw_ap 57 ad) (σ : RS) (res : RS) (hf : s_cX5_forget σ = some res) : jm_u l KW NW (dC, dI) vwCl (jtys kA) (jw_A 57 ad) (c_w kA ad) yX5_forget cX5_forget 1 (rm_cX5_forget) [.ref (ad 17)] σ res := jm_u_of (by decide) (Nat.le_of_ble_eq_true rfl) (fun p e s m below meth c C hP hS ls hl => p_cX5_forget C hap σ hf s.heap [] ls hP hS hl)

def rm_cX5_undoLatest : Room := { frames := 2, cells := 0, slots := 0, locals := 39 }
def G_cX5_undoLatest (p : Program) (l : Launch) (e : Env) (s : State) (m : MethodId) (args : Array Value) (below : List Frame) (meth : Method) (c : Code) (dC : Nat → ClassId) (dI : Nat → Nat → Nat) (kA : Nat → ClassId) (ad : Nat → Nat) (res : Int32 × RS) (F : RS → Option (Int32 × RS)) : Prop := ∀ (σ : RS), F σ = some res → ∀ (H : Heap) (locs : List Loc) (ls : Array Slot), va_P (dC, dI) vwCl (c_w kA ad σ) H → va_S (jw_A 57 ad) s.heap H locs → lv_has ls 2 [(0, .ref (ad 17)), (1, .ref (ad 7))] → W p l e rm_cX5_undoLatest s m args below meth c H locs 0 0 (c_Qi below dC dI kA ad args s res) (F0 m 0 ls [])
def s_cX5_undoLatest (σ : RS) : Option (Int32 × RS) := if (rg_I σ 12) = 0 then (some ((-1), σ)) else (kn_v (rs_I σ 11 ((((rg_I σ 11) + 7) - 1) - (((rg_I σ 11) + 7) - 1) / 7 * 7)) (fun σ1 => kn_v (rs_I σ1 12 ((rg_I σ1 12) - 1)) (fun σ2 => kn_ld (fun j => j) 7 (rg_I σ2 11) (fun j3 => kn_u (s_cX4_giveBack j3 σ2) (fun σ5 => some (rg_I σ5 12, σ5))))))
set_option maxRecDepth 100000 in
set_option maxHeartbeats 4000000 in
theorem p_cX5_undoLatest {p : Program} {l : Launch} {e : Env} {s : State} {m : MethodId} {args : Array Value} {below : List Frame} {meth : Method} {c : Code} {dC : Nat → ClassId} {dI : Nat → Nat → Nat} {kA : Nat → ClassId} {ad : Nat → Nat} (C : jxc cX5_undoLatest (some .int) 2 RX5 p s m args meth c dC dI kA) (hap : jw_ap 57 ad) {res : Int32 × RS} : G_cX5_undoLatest p l e s m args below meth c dC dI kA ad res (s_cX5_undoLatest) := by
  obtain ⟨hx, hb, hml, hown, hts, hr, hlocks, hK, hN⟩ := id C
  intro σ hf H locs ls hP hS hl
  unfold s_cX5_undoLatest at hf
  refine lv_aload_n hx hb dX5_undoLatest_0 rfl (lv_at hl 0 rfl) ?_
  refine c_gX5_kept hx hb hts hown hK hP (hts _ kw_241) dX5_undoLatest_1 ?_
  refine jb_ne (tgt := 9) hx hb hf dX5_undoLatest_4 (by decide) (fun hf => ?_) (fun hf => ?_)
  · refine lv_aload_n hx hb dX5_undoLatest_9 rfl (lv_at hl 0 rfl) ?_
    refine lv_aload_n hx hb dX5_undoLatest_10 rfl (lv_at hl 0 rfl) ?_
    refine c_gX5_next hx hb hts hown hK hP (hts _ kw_240) dX5_undoLatest_11 ?_
    refine lv_bipush (v := 7) hx hb dX5_undoLatest_14 (by decide) ?_
    refine lv_iadd hx hb dX5_undoLatest_16 ?_
    refine lv_iconst (v := 1) hx hb dX5_undoLatest_17 (by decide) ?_
    refine lv_isub hx hb dX5_undoLatest_18 ?_
    refine lv_bipush (v := 7) hx hb dX5_undoLatest_19 (by decide) ?_
    refine lv_irem hx hb dX5_undoLatest_21 (by decide) ?_
    refine c_pX5_next hx hb hts hown hK hap hP hS hf (hts _ kw_240) dX5_undoLatest_22 (fun σ1 H locs hP hS hf => ?_)
    refine lv_aload_n hx hb dX5_undoLatest_25 rfl (lv_at hl 0 rfl) ?_
    refine lv_dup hx hb dX5_undoLatest_26 rfl ?_
    refine c_gX5_kept hx hb hts hown hK hP (hts _ kw_241) dX5_undoLatest_27 ?_
    refine lv_iconst (v := 1) hx hb dX5_undoLatest_30 (by decide) ?_
    refine lv_isub hx hb dX5_undoLatest_31 ?_
    refine c_pX5_kept hx hb hts hown hK hap hP hS hf (hts _ kw_241) dX5_undoLatest_32 (fun σ2 H locs hP hS hf => ?_)
    refine lv_aload_n hx hb dX5_undoLatest_35 rfl (lv_at hl 0 rfl) ?_
    refine c_gX5_ring hx hb hts hown hK hP (hts _ kw_239) dX5_undoLatest_36 ?_
    refine lv_aload_n hx hb dX5_undoLatest_39 rfl (lv_at hl 0 rfl) ?_
    refine c_gX5_next hx hb hts hown hK hP (hts _ kw_240) dX5_undoLatest_40 ?_
    refine c_rld hx hb hK hP hf dX5_undoLatest_43 (fun j3 hj3 hf => ?_)
    refine lv_aload_n hx hb dX5_undoLatest_44 rfl (lv_at hl 1 rfl) ?_
    refine jk_u hf (fun res hres => jv_run hx hb hml hown hts hK hN c_hG c_hNW hl.1 (n := 1) (As := [.ref (ad 7)]) (rest := []) (c_cX4_giveBack l hap j3 hj3 σ2 res hres) hP (ci := 4) rfl (c_lmem hj3) rfl kw_680 kw_677 kw_678 kw_679 kw_58 ⟨rfl, rfl⟩ (by decide +kernel) rfl ⟨Nat.le_of_ble_eq_true rfl, Nat.le_of_ble_eq_true rfl⟩ rfl (Nat.le_of_ble_eq_true rfl) dX5_undoLatest_45) hS (fun σ5 H locs hP hS hf => ?_)
    refine lv_aload_n hx hb dX5_undoLatest_48 rfl (lv_at hl 0 rfl) ?_
    refine c_gX5_kept hx hb hts hown hK hP (hts _ kw_241) dX5_undoLatest_49 ?_
    exact jr_i hx hb hr hlocks hf rfl hP hS dX5_undoLatest_52
  · refine lv_iconst (v := (-1)) hx hb dX5_undoLatest_7 (by decide) ?_
    exact jr_i hx hb hr hlocks hf rfl hP hS dX5_undoLatest_8
theorem c_cX5_undoLatest (l : Launch) {dC : Nat → ClassId} {dI : Nat → Nat → Nat} {kA : Nat → ClassId} {ad : Nat → Nat} (hap : jw_ap 57 ad) (σ : RS) (res : Int32 × RS) (hf : s_cX5_undoLatest σ = some res) : jm_i l KW NW (dC, dI) vwCl (jtys kA) (jw_A 57 ad) (c_w kA ad) yX5_undoLatest cX5_undoLatest 2 .int (rm_cX5_undoLatest) [.ref (ad 17), .ref (ad 7)] σ res := jm_i_of (by decide) (Nat.le_of_ble_eq_true rfl) (fun p e s m below meth c C hP hS ls hl => p_cX5_undoLatest C hap σ hf s.heap [] ls hP hS hl)

def rm_cX7_messagesTo : Room := { frames := 0, cells := 0, slots := 0, locals := 0 }
def G_cX7_messagesTo_b40 (p : Program) (l : Launch) (e : Env) (s : State) (m : MethodId) (args : Array Value) (below : List Frame) (meth : Method) (c : Code) (dC : Nat → ClassId) (dI : Nat → Nat → Nat) (kA : Nat → ClassId) (ad : Nat → Nat) (res : Int32 × RS) (F : RS → Int32 → Int32 → Int32 → Option (Int32 × RS)) : Prop := ∀ (σ : RS) (x1 : Int32) (x2 : Int32) (x3 : Int32), F σ x1 x2 x3 = some res → ∀ (H : Heap) (locs : List Loc) (ls : Array Slot), va_P (dC, dI) vwCl (c_w kA ad σ) H → va_S (jw_A 57 ad) s.heap H locs → lv_has ls 4 [(0, .ref (ad 24)), (1, .int x1), (2, .int x2), (3, .int x3)] → W p l e rm_cX7_messagesTo s m args below meth c H locs 0 0 (c_Qi below dC dI kA ad args s res) (F0 m 40 ls [])
def G_cX7_messagesTo_b4 (p : Program) (l : Launch) (e : Env) (s : State) (m : MethodId) (args : Array Value) (below : List Frame) (meth : Method) (c : Code) (dC : Nat → ClassId) (dI : Nat → Nat → Nat) (kA : Nat → ClassId) (ad : Nat → Nat) (res : Int32 × RS) (F : RS → Int32 → Int32 → Int32 → Option (Int32 × RS)) : Prop := ∀ (σ : RS) (x1 : Int32) (x2 : Int32) (x3 : Int32), F σ x1 x2 x3 = some res → ∀ (H : Heap) (locs : List Loc) (ls : Array Slot), va_P (dC, dI) vwCl (c_w kA ad σ) H → va_S (jw_A 57 ad) s.heap H locs → lv_has ls 4 [(0, .ref (ad 24)), (1, .int x1), (2, .int x2), (3, .int x3)] → W p l e rm_cX7_messagesTo s m args below meth c H locs 0 0 (c_Qi below dC dI kA ad args s res) (F0 m 4 ls [])
def G_cX7_messagesTo (p : Program) (l : Launch) (e : Env) (s : State) (m : MethodId) (args : Array Value) (below : List Frame) (meth : Method) (c : Code) (dC : Nat → ClassId) (dI : Nat → Nat → Nat) (kA : Nat → ClassId) (ad : Nat → Nat) (res : Int32 × RS) (F : RS → Int32 → Option (Int32 × RS)) : Prop := ∀ (σ : RS) (x1 : Int32), F σ x1 = some res → ∀ (H : Heap) (locs : List Loc) (ls : Array Slot), va_P (dC, dI) vwCl (c_w kA ad σ) H → va_S (jw_A 57 ad) s.heap H locs → lv_has ls 4 [(0, .ref (ad 24)), (1, .int x1)] → W p l e rm_cX7_messagesTo s m args below meth c H locs 0 0 (c_Qi below dC dI kA ad args s res) (F0 m 0 ls [])
def s_cX7_messagesTo_b40 (k4 : RS → Int32 → Int32 → Int32 → Option (Int32 × RS)) (σ : RS) (x1 : Int32) (x2 : Int32) (x3 : Int32) : Option (Int32 × RS) := kn_v (x3 + 1) (fun v1 => k4 σ x1 x2 v1)
set_option maxRecDepth 100000 in
set_option maxHeartbeats 4000000 in
theorem p_cX7_messagesTo_b40 {p : Program} {l : Launch} {e : Env} {s : State} {m : MethodId} {args : Array Value} {below : List Frame} {meth : Method} {c : Code} {dC : Nat → ClassId} {dI : Nat → Nat → Nat} {kA : Nat → ClassId} {ad : Nat → Nat} (C : jxc cX7_messagesTo (some .int) 4 RX7 p s m args meth c dC dI kA) (hap : jw_ap 57 ad) {res : Int32 × RS} {k4 : RS → Int32 → Int32 → Int32 → Option (Int32 × RS)} (hk4 : G_cX7_messagesTo_b4 p l e s m args below meth c dC dI kA ad res k4) : G_cX7_messagesTo_b40 p l e s m args below meth c dC dI kA ad res (s_cX7_messagesTo_b40 k4) := by
  obtain ⟨hx, hb, hml, hown, hts, hr, hlocks, hK, hN⟩ := id C
  intro σ x1 x2 x3 hf H locs ls hP hS hl
  unfold s_cX7_messagesTo_b40 at hf
  obtain ⟨v1, e_v1, hf⟩ := kn_v_e hf
  refine lv_iinc (v := v1) (lv' := [(3, .int v1), (0, .ref (ad 24)), (1, .int x1), (2, .int x2)]) hx hb dX7_messagesTo_40 hl (k := 3) rfl e_v1 (by decide) rfl (fun ls hl => ?_)
  refine lv_goto (tgt := 4) hx hb dX7_messagesTo_43 (by decide) ?_
  exact hk4 σ x1 x2 v1 hf H locs ls hP hS (lv_sub hl [1, 2, 3, 0] rfl)
def s_cX7_messagesTo_b4 (k4 : RS → Int32 → Int32 → Int32 → Option (Int32 × RS)) (σ : RS) (x1 : Int32) (x2 : Int32) (x3 : Int32) : Option (Int32 × RS) := if (rg_I σ 3) ≤ x3 then (some (x2, σ)) else (kn_ld (rg_A σ 11) 40 x3 (fun v1 => if v1 = 0 then (s_cX7_messagesTo_b40 k4 σ x1 x2 x3) else (kn_ld (rg_A σ 7) 40 x3 (fun v2 => if v2 = x1 then (kn_v (x2 + 1) (fun v3 => s_cX7_messagesTo_b40 k4 σ x1 v3 x3)) else (s_cX7_messagesTo_b40 k4 σ x1 x2 x3)))))
set_option maxRecDepth 100000 in
set_option maxHeartbeats 4000000 in
theorem p_cX7_messagesTo_b4 {p : Program} {l : Launch} {e : Env} {s : State} {m : MethodId} {args : Array Value} {below : List Frame} {meth : Method} {c : Code} {dC : Nat → ClassId} {dI : Nat → Nat → Nat} {kA : Nat → ClassId} {ad : Nat → Nat} (C : jxc cX7_messagesTo (some .int) 4 RX7 p s m args meth c dC dI kA) (hap : jw_ap 57 ad) {res : Int32 × RS} {k4 : RS → Int32 → Int32 → Int32 → Option (Int32 × RS)} (hk4 : G_cX7_messagesTo_b4 p l e s m args below meth c dC dI kA ad res k4) : G_cX7_messagesTo_b4 p l e s m args below meth c dC dI kA ad res (s_cX7_messagesTo_b4 k4) := by
  obtain ⟨hx, hb, hml, hown, hts, hr, hlocks, hK, hN⟩ := id C
  intro σ x1 x2 x3 hf H locs ls hP hS hl
  unfold s_cX7_messagesTo_b4 at hf
  refine lv_iload_n hx hb dX7_messagesTo_4 rfl (lv_at hl 3 rfl) ?_
  refine lv_aload_n hx hb dX7_messagesTo_5 rfl (lv_at hl 0 rfl) ?_
  refine c_gX7_web hx hb hts hown hK hP (hts _ kw_332) dX7_messagesTo_6 ?_
  refine c_gX10_arcs hx hb hts hown hK hP (hts _ kw_141) dX7_messagesTo_9 ?_
  refine jc_ge (tgt := 46) hx hb hf dX7_messagesTo_12 (by decide) (fun hf => ?_) (fun hf => ?_)
  · refine lv_iload_n hx hb dX7_messagesTo_46 rfl (lv_at hl 2 rfl) ?_
    exact jr_i hx hb hr hlocks hf rfl hP hS dX7_messagesTo_47
  · refine lv_aload_n hx hb dX7_messagesTo_15 rfl (lv_at hl 0 rfl) ?_
    refine c_gX7_carries hx hb hts hown hK hP (hts _ kw_338) dX7_messagesTo_16 ?_
    refine lv_iload_n hx hb dX7_messagesTo_19 rfl (lv_at hl 3 rfl) ?_
    refine ja_zld hx hb hK hP 26 2 rfl rfl hf dX7_messagesTo_20 (fun v1 hf => ?_)
    refine jb_eq (tgt := 40) hx hb hf dX7_messagesTo_21 (by decide) (fun hf => ?_) (fun hf => ?_)
    · exact (p_cX7_messagesTo_b40 C hap hk4) σ x1 x2 x3 hf H locs ls hP hS (lv_sub hl [0, 1, 2, 3] rfl)
    · refine lv_aload_n hx hb dX7_messagesTo_24 rfl (lv_at hl 0 rfl) ?_
      refine c_gX7_web hx hb hts hown hK hP (hts _ kw_332) dX7_messagesTo_25 ?_
      refine c_gX10_to hx hb hts hown hK hP (hts _ kw_131) dX7_messagesTo_28 ?_
      refine lv_iload_n hx hb dX7_messagesTo_31 rfl (lv_at hl 3 rfl) ?_
      refine ja_ild hx hb hK hP 12 0 rfl rfl hf dX7_messagesTo_32 (fun v2 hf => ?_)
      refine lv_iload_n hx hb dX7_messagesTo_33 rfl (lv_at hl 1 rfl) ?_
      refine jc_ne (tgt := 40) hx hb hf dX7_messagesTo_34 (by decide) (fun hf => ?_) (fun hf => ?_)
      · exact (p_cX7_messagesTo_b40 C hap hk4) σ x1 x2 x3 hf H locs ls hP hS (lv_sub hl [0, 1, 2, 3] rfl)
      · obtain ⟨v3, e_v3, hf⟩ := kn_v_e hf
        refine lv_iinc (v := v3) (lv' := [(2, .int v3), (0, .ref (ad 24)), (1, .int x1), (3, .int x3)]) hx hb dX7_messagesTo_37 hl (k := 2) rfl e_v3 (by decide) rfl (fun ls hl => ?_)
        exact (p_cX7_messagesTo_b40 C hap hk4) σ x1 v3 x3 hf H locs ls hP hS (lv_sub hl [1, 2, 0, 3] rfl)
def f_cX7_messagesTo_b4 : RS → Int32 → Int32 → Int32 → Option (Int32 × RS) := kn_fix (fun _ _ _ _ => none) (s_cX7_messagesTo_b4) FU
theorem q_cX7_messagesTo_b4 {p : Program} {l : Launch} {e : Env} {s : State} {m : MethodId} {args : Array Value} {below : List Frame} {meth : Method} {c : Code} {dC : Nat → ClassId} {dI : Nat → Nat → Nat} {kA : Nat → ClassId} {ad : Nat → Nat} (C : jxc cX7_messagesTo (some .int) 4 RX7 p s m args meth c dC dI kA) (hap : jw_ap 57 ad) {res : Int32 × RS} : G_cX7_messagesTo_b4 p l e s m args below meth c dC dI kA ad res (f_cX7_messagesTo_b4) := kn_fix_ind (G := fun F => G_cX7_messagesTo_b4 p l e s m args below meth c dC dI kA ad res F) (fun _ _ _ _ hf => by cases hf) (fun k4 hk4 => p_cX7_messagesTo_b4 C hap hk4) FU
def s_cX7_messagesTo (σ : RS) (x1 : Int32) : Option (Int32 × RS) := f_cX7_messagesTo_b4 σ x1 0 0
set_option maxRecDepth 100000 in
set_option maxHeartbeats 4000000 in
theorem p_cX7_messagesTo {p : Program} {l : Launch} {e : Env} {s : State} {m : MethodId} {args : Array Value} {below : List Frame} {meth : Method} {c : Code} {dC : Nat → ClassId} {dI : Nat → Nat → Nat} {kA : Nat → ClassId} {ad : Nat → Nat} (C : jxc cX7_messagesTo (some .int) 4 RX7 p s m args meth c dC dI kA) (hap : jw_ap 57 ad) {res : Int32 × RS} : G_cX7_messagesTo p l e s m args below meth c dC dI kA ad res (s_cX7_messagesTo) := by
  obtain ⟨hx, hb, hml, hown, hts, hr, hlocks, hK, hN⟩ := id C
  intro σ x1 hf H locs ls hP hS hl
  unfold s_cX7_messagesTo at hf
  refine lv_iconst (v := 0) hx hb dX7_messagesTo_0 (by decide) ?_
  refine lv_istore_n (lv' := [(2, .int 0), (0, .ref (ad 24)), (1, .int x1)]) hx hb dX7_messagesTo_1 rfl hl (by decide) rfl (fun ls hl => ?_)
  refine lv_iconst (v := 0) hx hb dX7_messagesTo_2 (by decide) ?_
  refine lv_istore_n (lv' := [(3, .int 0), (2, .int 0), (0, .ref (ad 24)), (1, .int x1)]) hx hb dX7_messagesTo_3 rfl hl (by decide) rfl (fun ls hl => ?_)
  exact (q_cX7_messagesTo_b4 C hap) σ x1 0 0 hf H locs ls hP hS (lv_sub hl [2, 3, 1, 0] rfl)
theorem c_cX7_messagesTo (l : Launch) {dC : Nat → ClassId} {dI : Nat → Nat → Nat} {kA : Nat → ClassId} {ad : Nat → Nat} (hap : jw_ap 57 ad) (σ : RS) (x1 : Int32) (res : Int32 × RS) (hf : s_cX7_messagesTo σ x1 = some res) : jm_i l KW NW (dC, dI) vwCl (jtys kA) (jw_A 57 ad) (c_w kA ad) yX7_messagesTo cX7_messagesTo 4 .int (rm_cX7_messagesTo) [.ref (ad 24), .int x1] σ res := jm_i_of (by decide) (Nat.le_of_ble_eq_true rfl) (fun p e s m below meth c C hP hS ls hl => p_cX7_messagesTo C hap σ x1 hf s.heap [] ls hP hS hl)

def rm_cX7_foldTwo : Room := { frames := 1, cells := 0, slots := 0, locals := 25 }
def G_cX7_foldTwo (p : Program) (l : Launch) (e : Env) (s : State) (m : MethodId) (args : Array Value) (below : List Frame) (meth : Method) (c : Code) (dC : Nat → ClassId) (dI : Nat → Nat → Nat) (kA : Nat → ClassId) (ad : Nat → Nat) (res : Int64 × RS) (F : RS → Int64 → Int64 → Int32 → Option (Int64 × RS)) : Prop := ∀ (σ : RS) (x1 : Int64) (x3 : Int64) (x5 : Int32), F σ x1 x3 x5 = some res → ∀ (H : Heap) (locs : List Loc) (ls : Array Slot), va_P (dC, dI) vwCl (c_w kA ad σ) H → va_S (jw_A 57 ad) s.heap H locs → lv_has ls 8 [(0, .ref (ad 24)), (1, .long x1), (3, .long x3), (5, .int x5)] → W p l e rm_cX7_foldTwo s m args below meth c H locs 0 0 (c_Ql below dC dI kA ad args s res) (F0 m 0 ls [])
def s_cX7_foldTwo (σ : RS) (x1 : Int64) (x3 : Int64) (x5 : Int32) : Option (Int64 × RS) := if (rg_I σ 5) = 1 then (some (if x3 < x1 then x3 else x1, σ)) else (if (rg_I σ 5) = 2 then (some (if x3 < x1 then x1 else x3, σ)) else (if (rg_I σ 5) = 3 then (some (x3, σ)) else (kn_v (x1 + x3) (fun v4 => if 0 ≤ ((x1 ^^^ v4) &&& (x3 ^^^ v4)) then (some (v4, σ)) else (kn_u (s_cX2_keep σ 3 7 x5 (-1) ((rg_I σ 4) + 1)) (fun σ6 => some (v4, σ6)))))))
set_option maxRecDepth 100000 in
set_option maxHeartbeats 4000000 in
theorem p_cX7_foldTwo {p : Program} {l : Launch} {e : Env} {s : State} {m : MethodId} {args : Array Value} {below : List Frame} {meth : Method} {c : Code} {dC : Nat → ClassId} {dI : Nat → Nat → Nat} {kA : Nat → ClassId} {ad : Nat → Nat} (C : jxc cX7_foldTwo (some .long) 8 RX7 p s m args meth c dC dI kA) (hap : jw_ap 57 ad) {res : Int64 × RS} : G_cX7_foldTwo p l e s m args below meth c dC dI kA ad res (s_cX7_foldTwo) := by
  obtain ⟨hx, hb, hml, hown, hts, hr, hlocks, hK, hN⟩ := id C
  intro σ x1 x3 x5 hf H locs ls hP hS hl
  unfold s_cX7_foldTwo at hf
  refine lv_aload_n hx hb dX7_foldTwo_0 rfl (lv_at hl 0 rfl) ?_
  refine c_gX7_actor hx hb hts hown hK hP (hts _ kw_333) dX7_foldTwo_1 ?_
  refine c_gX0_program hx hb hts hown hK hP (hts _ kw_310) dX7_foldTwo_4 ?_
  refine c_gX6_foldSort hx hb hts hown hK hP (hts _ kw_185) dX7_foldTwo_7 ?_
  by_cases c1 : (rg_I σ 5) = 1
  · have hf := kn_t hf c1
    refine lv_tableIn (tgt := 36) hx hb dX7_foldTwo_10 (by rw [c1]; decide) (by rw [c1]; decide) (by rw [c1]; rfl) (by decide) ?_
    refine lv_lload_n hx hb dX7_foldTwo_36 rfl (lv_at hl 1 rfl) ?_
    refine lv_lload_n hx hb dX7_foldTwo_37 rfl (lv_at hl 2 rfl) ?_
    refine va_mmin_long hx hb (hml.trans hl.1.symm) hown (hts _ kw_656) (hts _ kw_657) (hts _ kw_66) (hts _ kw_658) (Nat.le_of_ble_eq_true rfl) (Nat.le_of_ble_eq_true rfl) (Nat.zero_le _) (Nat.zero_le _) dX7_foldTwo_38 ?_
    exact jr_l hx hb hr hlocks hf hP hS dX7_foldTwo_41
  · have hf := kn_f hf c1
    by_cases c2 : (rg_I σ 5) = 2
    · have hf := kn_t hf c2
      refine lv_tableIn (tgt := 42) hx hb dX7_foldTwo_10 (by rw [c2]; decide) (by rw [c2]; decide) (by rw [c2]; rfl) (by decide) ?_
      refine lv_lload_n hx hb dX7_foldTwo_42 rfl (lv_at hl 1 rfl) ?_
      refine lv_lload_n hx hb dX7_foldTwo_43 rfl (lv_at hl 2 rfl) ?_
      refine va_mmax_long hx hb (hml.trans hl.1.symm) hown (hts _ kw_659) (hts _ kw_660) (hts _ kw_66) (hts _ kw_661) (Nat.le_of_ble_eq_true rfl) (Nat.le_of_ble_eq_true rfl) (Nat.zero_le _) (Nat.zero_le _) dX7_foldTwo_44 ?_
      exact jr_l hx hb hr hlocks hf hP hS dX7_foldTwo_47
    · have hf := kn_f hf c2
      by_cases c3 : (rg_I σ 5) = 3
      · have hf := kn_t hf c3
        refine lv_tableIn (tgt := 48) hx hb dX7_foldTwo_10 (by rw [c3]; decide) (by rw [c3]; decide) (by rw [c3]; rfl) (by decide) ?_
        refine lv_lload_n hx hb dX7_foldTwo_48 rfl (lv_at hl 2 rfl) ?_
        exact jr_l hx hb hr hlocks hf hP hS dX7_foldTwo_49
      · have hf := kn_f hf c3
        refine lv_tableOut (tgt := 50) hx hb dX7_foldTwo_10 (by have t0 := lv_neT c1 (a := 1) (by decide); have t1 := lv_neT c2 (a := 2) (by decide); have t2 := lv_neT c3 (a := 3) (by decide); omega) (by decide) ?_
        refine lv_lload_n hx hb dX7_foldTwo_50 rfl (lv_at hl 1 rfl) ?_
        refine lv_lload_n hx hb dX7_foldTwo_51 rfl (lv_at hl 2 rfl) ?_
        refine lv_ladd hx hb dX7_foldTwo_52 ?_
        refine jn_l hf (fun v4 hf => ?_)
        refine lv_lstore (lv' := [(6, .long v4), (0, .ref (ad 24)), (1, .long x1), (3, .long x3), (5, .int x5)]) hx hb dX7_foldTwo_53 hl (by decide) rfl (fun ls hl => ?_)
        refine lv_lload_n hx hb dX7_foldTwo_55 rfl (lv_at hl 2 rfl) ?_
        refine lv_lload hx hb dX7_foldTwo_56 (lv_at hl 0 rfl) ?_
        refine lv_lxor hx hb dX7_foldTwo_58 ?_
        refine lv_lload_n hx hb dX7_foldTwo_59 rfl (lv_at hl 3 rfl) ?_
        refine lv_lload hx hb dX7_foldTwo_60 (lv_at hl 0 rfl) ?_
        refine lv_lxor hx hb dX7_foldTwo_62 ?_
        refine lv_land hx hb dX7_foldTwo_63 ?_
        refine lv_lconst (v := 0) hx hb dX7_foldTwo_64 (by decide) ?_
        refine jl_ge (tgt := 91) hx hb hf dX7_foldTwo_65 dX7_foldTwo_66 (by decide) (fun hf => ?_) (fun hf => ?_)
        · refine lv_lload hx hb dX7_foldTwo_91 (lv_at hl 0 rfl) ?_
          exact jr_l hx hb hr hlocks hf hP hS dX7_foldTwo_93
        · refine lv_aload_n hx hb dX7_foldTwo_69 rfl (lv_at hl 1 rfl) ?_
          refine c_gX7_failure hx hb hts hown hK hP (hts _ kw_334) dX7_foldTwo_70 ?_
          refine lv_iconst (v := 3) hx hb dX7_foldTwo_73 (by decide) ?_
          refine lv_bipush (v := 7) hx hb dX7_foldTwo_74 (by decide) ?_
          refine lv_iload hx hb dX7_foldTwo_76 (lv_at hl 4 rfl) ?_
          refine lv_iconst (v := (-1)) hx hb dX7_foldTwo_78 (by decide) ?_
          refine lv_aload_n hx hb dX7_foldTwo_79 rfl (lv_at hl 1 rfl) ?_
          refine c_gX7_web hx hb hts hown hK hP (hts _ kw_332) dX7_foldTwo_80 ?_
          refine c_gX10_rounds hx hb hts hown hK hP (hts _ kw_145) dX7_foldTwo_83 ?_
          refine lv_iconst (v := 1) hx hb dX7_foldTwo_86 (by decide) ?_
          refine lv_iadd hx hb dX7_foldTwo_87 ?_
          refine jk_u hf (fun res hres => jv_run hx hb hml hown hts hK hN c_hG c_hNW hl.1 (n := 5) (As := [.int 3, .int 7, .int x5, .int (-1), .int ((rg_I σ 4) + 1)]) (rest := []) (c_cX2_keep l hap σ 3 7 x5 (-1) ((rg_I σ 4) + 1) res hres) hP (ci := 2) (q0 := 16) rfl rfl rfl kw_580 kw_662 kw_578 kw_579 kw_56 ⟨rfl, rfl⟩ (by decide +kernel) rfl ⟨Nat.le_of_ble_eq_true rfl, Nat.le_of_ble_eq_true rfl⟩ rfl (Nat.le_of_ble_eq_true rfl) dX7_foldTwo_88) hS (fun σ6 H locs hP hS hf => ?_)
          refine lv_lload hx hb dX7_foldTwo_91 (lv_at hl 0 rfl) ?_
          exact jr_l hx hb hr hlocks hf hP hS dX7_foldTwo_93
theorem c_cX7_foldTwo (l : Launch) {dC : Nat → ClassId} {dI : Nat → Nat → Nat} {kA : Nat → ClassId} {ad : Nat → Nat} (hap : jw_ap 57 ad) (σ : RS) (x1 : Int64) (x3 : Int64) (x5 : Int32) (res : Int64 × RS) (hf : s_cX7_foldTwo σ x1 x3 x5 = some res) : jm_l l KW NW (dC, dI) vwCl (jtys kA) (jw_A 57 ad) (c_w kA ad) yX7_foldTwo cX7_foldTwo 8 (rm_cX7_foldTwo) [.ref (ad 24), .long x1, .long x3, .int x5] σ res := jm_l_of (by decide) (Nat.le_of_ble_eq_true rfl) (fun p e s m below meth c C hP hS ls hl => p_cX7_foldTwo C hap σ x1 x3 x5 hf s.heap [] ls hP hS hl)

def rm_cX7_changeNodes : Room := { frames := 1, cells := 0, slots := 0, locals := 18 }
def G_cX7_changeNodes_b69 (p : Program) (l : Launch) (e : Env) (s : State) (m : MethodId) (args : Array Value) (below : List Frame) (meth : Method) (c : Code) (dC : Nat → ClassId) (dI : Nat → Nat → Nat) (kA : Nat → ClassId) (ad : Nat → Nat) (res : RS) (F : RS → Int32 → Option (RS)) : Prop := ∀ (σ : RS) (x1 : Int32), F σ x1 = some res → ∀ (H : Heap) (locs : List Loc) (ls : Array Slot), va_P (dC, dI) vwCl (c_w kA ad σ) H → va_S (jw_A 57 ad) s.heap H locs → lv_has ls 2 [(0, .ref (ad 24)), (1, .int x1)] → W p l e rm_cX7_changeNodes s m args below meth c H locs 0 0 (c_Qu below dC dI kA ad args s res) (F0 m 69 ls [])
def G_cX7_changeNodes_b68 (p : Program) (l : Launch) (e : Env) (s : State) (m : MethodId) (args : Array Value) (below : List Frame) (meth : Method) (c : Code) (dC : Nat → ClassId) (dI : Nat → Nat → Nat) (kA : Nat → ClassId) (ad : Nat → Nat) (res : RS) (F : RS → Int32 → Int32 → Int32 → Option (RS)) : Prop := ∀ (σ : RS) (x1 : Int32) (s0 : Int32) (s1 : Int32), F σ x1 s0 s1 = some res → ∀ (H : Heap) (locs : List Loc) (ls : Array Slot), va_P (dC, dI) vwCl (c_w kA ad σ) H → va_S (jw_A 57 ad) s.heap H locs → lv_has ls 2 [(0, .ref (ad 24)), (1, .int x1)] → W p l e rm_cX7_changeNodes s m args below meth c H locs 0 0 (c_Qu below dC dI kA ad args s res) (F0 m 68 ls [.int s0, .int s1, .ref (ad 9)])
def G_cX7_changeNodes_b2 (p : Program) (l : Launch) (e : Env) (s : State) (m : MethodId) (args : Array Value) (below : List Frame) (meth : Method) (c : Code) (dC : Nat → ClassId) (dI : Nat → Nat → Nat) (kA : Nat → ClassId) (ad : Nat → Nat) (res : RS) (F : RS → Int32 → Option (RS)) : Prop := ∀ (σ : RS) (x1 : Int32), F σ x1 = some res → ∀ (H : Heap) (locs : List Loc) (ls : Array Slot), va_P (dC, dI) vwCl (c_w kA ad σ) H → va_S (jw_A 57 ad) s.heap H locs → lv_has ls 2 [(0, .ref (ad 24)), (1, .int x1)] → W p l e rm_cX7_changeNodes s m args below meth c H locs 0 0 (c_Qu below dC dI kA ad args s res) (F0 m 2 ls [])
def G_cX7_changeNodes (p : Program) (l : Launch) (e : Env) (s : State) (m : MethodId) (args : Array Value) (below : List Frame) (meth : Method) (c : Code) (dC : Nat → ClassId) (dI : Nat → Nat → Nat) (kA : Nat → ClassId) (ad : Nat → Nat) (res : RS) (F : RS → Option (RS)) : Prop := ∀ (σ : RS), F σ = some res → ∀ (H : Heap) (locs : List Loc) (ls : Array Slot), va_P (dC, dI) vwCl (c_w kA ad σ) H → va_S (jw_A 57 ad) s.heap H locs → lv_has ls 2 [(0, .ref (ad 24))] → W p l e rm_cX7_changeNodes s m args below meth c H locs 0 0 (c_Qu below dC dI kA ad args s res) (F0 m 0 ls [])
def s_cX7_changeNodes_b69 (k2 : RS → Int32 → Option (RS)) (σ : RS) (x1 : Int32) : Option (RS) := kn_v (x1 + 1) (fun v1 => k2 σ v1)
set_option maxRecDepth 100000 in
set_option maxHeartbeats 4000000 in
theorem p_cX7_changeNodes_b69 {p : Program} {l : Launch} {e : Env} {s : State} {m : MethodId} {args : Array Value} {below : List Frame} {meth : Method} {c : Code} {dC : Nat → ClassId} {dI : Nat → Nat → Nat} {kA : Nat → ClassId} {ad : Nat → Nat} (C : jxc cX7_changeNodes none 2 RX7 p s m args meth c dC dI kA) (hap : jw_ap 57 ad) {res : RS} {k2 : RS → Int32 → Option (RS)} (hk2 : G_cX7_changeNodes_b2 p l e s m args below meth c dC dI kA ad res k2) : G_cX7_changeNodes_b69 p l e s m args below meth c dC dI kA ad res (s_cX7_changeNodes_b69 k2) := by
  obtain ⟨hx, hb, hml, hown, hts, hr, hlocks, hK, hN⟩ := id C
  intro σ x1 hf H locs ls hP hS hl
  unfold s_cX7_changeNodes_b69 at hf
  obtain ⟨v1, e_v1, hf⟩ := kn_v_e hf
  refine lv_iinc (v := v1) (lv' := [(1, .int v1), (0, .ref (ad 24))]) hx hb dX7_changeNodes_69 hl (k := 1) rfl e_v1 (by decide) rfl (fun ls hl => ?_)
  refine lv_goto (tgt := 2) hx hb dX7_changeNodes_72 (by decide) ?_
  exact hk2 σ v1 hf H locs ls hP hS (lv_sub hl [1, 0] rfl)
def s_cX7_changeNodes_b68 (k2 : RS → Int32 → Option (RS)) (σ : RS) (x1 : Int32) (s0 : Int32) (s1 : Int32) : Option (RS) := kn_st (rs_A σ 4 (upd (rg_A σ 4) s1.toNatClampNeg (vp_nar .boolean s0))) 12 s1 (fun σ1 => s_cX7_changeNodes_b69 k2 σ1 x1)
set_option maxRecDepth 100000 in
set_option maxHeartbeats 4000000 in
theorem p_cX7_changeNodes_b68 {p : Program} {l : Launch} {e : Env} {s : State} {m : MethodId} {args : Array Value} {below : List Frame} {meth : Method} {c : Code} {dC : Nat → ClassId} {dI : Nat → Nat → Nat} {kA : Nat → ClassId} {ad : Nat → Nat} (C : jxc cX7_changeNodes none 2 RX7 p s m args meth c dC dI kA) (hap : jw_ap 57 ad) {res : RS} {k2 : RS → Int32 → Option (RS)} (hk2 : G_cX7_changeNodes_b2 p l e s m args below meth c dC dI kA ad res k2) : G_cX7_changeNodes_b68 p l e s m args below meth c dC dI kA ad res (s_cX7_changeNodes_b68 k2) := by
  obtain ⟨hx, hb, hml, hown, hts, hr, hlocks, hK, hN⟩ := id C
  intro σ x1 s0 s1 hf H locs ls hP hS hl
  unfold s_cX7_changeNodes_b68 at hf
  refine ja_zst hx hb hK (c_D hap σ) hP hS 9 2 rfl rfl rfl c_sA4 hf dX7_changeNodes_68 (fun σ1 H locs hP hS hf => ?_)
  exact (p_cX7_changeNodes_b69 C hap hk2) σ1 x1 hf H locs ls hP hS (lv_sub hl [0, 1] rfl)
def s_cX7_changeNodes_b2 (k2 : RS → Int32 → Option (RS)) (σ : RS) (x1 : Int32) : Option (RS) := if (rg_I σ 2) ≤ x1 then some σ else (kn_ld (rg_A σ 12) 12 x1 (fun v1 => if v1 = 0 then (s_cX7_changeNodes_b69 k2 σ x1) else (kn_cp 36 36 (x1 * 3) (x1 * 3) (3 : Int32) (rs_B σ 1 (va_cpy (rg_B σ 5) (rg_B σ 1) (x1 * 3).toNatClampNeg (x1 * 3).toNatClampNeg (3 : Int32).toNatClampNeg)) (fun σ2 => kn_ld (rg_A σ2 13) 12 x1 (fun v3 => if v3 = 0 then (s_cX7_changeNodes_b68 k2 σ2 x1 1 x1) else (s_cX7_changeNodes_b68 k2 σ2 x1 0 x1))))))
set_option maxRecDepth 100000 in
set_option maxHeartbeats 4000000 in
theorem p_cX7_changeNodes_b2 {p : Program} {l : Launch} {e : Env} {s : State} {m : MethodId} {args : Array Value} {below : List Frame} {meth : Method} {c : Code} {dC : Nat → ClassId} {dI : Nat → Nat → Nat} {kA : Nat → ClassId} {ad : Nat → Nat} (C : jxc cX7_changeNodes none 2 RX7 p s m args meth c dC dI kA) (hap : jw_ap 57 ad) {res : RS} {k2 : RS → Int32 → Option (RS)} (hk2 : G_cX7_changeNodes_b2 p l e s m args below meth c dC dI kA ad res k2) : G_cX7_changeNodes_b2 p l e s m args below meth c dC dI kA ad res (s_cX7_changeNodes_b2 k2) := by
  obtain ⟨hx, hb, hml, hown, hts, hr, hlocks, hK, hN⟩ := id C
  intro σ x1 hf H locs ls hP hS hl
  unfold s_cX7_changeNodes_b2 at hf
  refine lv_iload_n hx hb dX7_changeNodes_2 rfl (lv_at hl 1 rfl) ?_
  refine lv_aload_n hx hb dX7_changeNodes_3 rfl (lv_at hl 0 rfl) ?_
  refine c_gX7_web hx hb hts hown hK hP (hts _ kw_332) dX7_changeNodes_4 ?_
  refine c_gX10_nodes hx hb hts hown hK hP (hts _ kw_137) dX7_changeNodes_7 ?_
  refine jc_ge (tgt := 75) hx hb hf dX7_changeNodes_10 (by decide) (fun hf => ?_) (fun hf => ?_)
  · exact jr_u hx hb hr hlocks hf hP hS dX7_changeNodes_75
  · refine lv_aload_n hx hb dX7_changeNodes_13 rfl (lv_at hl 0 rfl) ?_
    refine c_gX7_reached hx hb hts hown hK hP (hts _ kw_340) dX7_changeNodes_14 ?_
    refine lv_iload_n hx hb dX7_changeNodes_17 rfl (lv_at hl 1 rfl) ?_
    refine ja_zld hx hb hK hP 28 2 rfl rfl hf dX7_changeNodes_18 (fun v1 hf => ?_)
    refine jb_ne (tgt := 25) hx hb hf dX7_changeNodes_19 (by decide) (fun hf => ?_) (fun hf => ?_)
    · refine lv_aload_n hx hb dX7_changeNodes_25 rfl (lv_at hl 0 rfl) ?_
      refine c_gX7_newStates hx hb hts hown hK hP (hts _ kw_342) dX7_changeNodes_26 ?_
      refine lv_iload_n hx hb dX7_changeNodes_29 rfl (lv_at hl 1 rfl) ?_
      refine lv_iconst (v := 3) hx hb dX7_changeNodes_30 (by decide) ?_
      refine lv_imul hx hb dX7_changeNodes_31 ?_
      refine lv_aload_n hx hb dX7_changeNodes_32 rfl (lv_at hl 0 rfl) ?_
      refine c_gX7_web hx hb hts hown hK hP (hts _ kw_332) dX7_changeNodes_33 ?_
      refine c_gX10_states hx hb hts hown hK hP (hts _ kw_119) dX7_changeNodes_36 ?_
      refine lv_iload_n hx hb dX7_changeNodes_39 rfl (lv_at hl 1 rfl) ?_
      refine lv_iconst (v := 3) hx hb dX7_changeNodes_40 (by decide) ?_
      refine lv_imul hx hb dX7_changeNodes_41 ?_
      refine lv_iconst (v := 3) hx hb dX7_changeNodes_42 (by decide) ?_
      refine ja_cpl hx hb (hml.trans hl.1.symm) hown (hts _ kw_668) (hts _ kw_531) (hts _ kw_530) (hts _ kw_65) hK (c_D hap σ) hP hS 30 8 1 rfl rfl rfl c_sB1 hf (Nat.le_of_ble_eq_true rfl) (Nat.le_of_ble_eq_true rfl) dX7_changeNodes_43 (fun σ2 H locs hP hS hf => ?_)
      refine lv_aload_n hx hb dX7_changeNodes_46 rfl (lv_at hl 0 rfl) ?_
      refine c_gX7_web hx hb hts hown hK hP (hts _ kw_332) dX7_changeNodes_47 ?_
      refine c_gX10_awake hx hb hts hown hK hP (hts _ kw_123) dX7_changeNodes_50 ?_
      refine lv_iload_n hx hb dX7_changeNodes_53 rfl (lv_at hl 1 rfl) ?_
      refine lv_aload_n hx hb dX7_changeNodes_54 rfl (lv_at hl 0 rfl) ?_
      refine c_gX7_halting hx hb hts hown hK hP (hts _ kw_341) dX7_changeNodes_55 ?_
      refine lv_iload_n hx hb dX7_changeNodes_58 rfl (lv_at hl 1 rfl) ?_
      refine ja_zld hx hb hK hP 29 2 rfl rfl hf dX7_changeNodes_59 (fun v3 hf => ?_)
      refine jb_ne (tgt := 67) hx hb hf dX7_changeNodes_60 (by decide) (fun hf => ?_) (fun hf => ?_)
      · refine lv_iconst (v := 0) hx hb dX7_changeNodes_67 (by decide) ?_
        exact (p_cX7_changeNodes_b68 C hap hk2) σ2 x1 0 x1 hf H locs ls hP hS (lv_sub hl [0, 1] rfl)
      · refine lv_iconst (v := 1) hx hb dX7_changeNodes_63 (by decide) ?_
        refine lv_goto (tgt := 68) hx hb dX7_changeNodes_64 (by decide) ?_
        exact (p_cX7_changeNodes_b68 C hap hk2) σ2 x1 1 x1 hf H locs ls hP hS (lv_sub hl [0, 1] rfl)
    · refine lv_goto (tgt := 69) hx hb dX7_changeNodes_22 (by decide) ?_
      exact (p_cX7_changeNodes_b69 C hap hk2) σ x1 hf H locs ls hP hS (lv_sub hl [0, 1] rfl)
def f_cX7_changeNodes_b2 : RS → Int32 → Option (RS) := kn_fix (fun _ _ => none) (s_cX7_changeNodes_b2) FU
theorem q_cX7_changeNodes_b2 {p : Program} {l : Launch} {e : Env} {s : State} {m : MethodId} {args : Array Value} {below : List Frame} {meth : Method} {c : Code} {dC : Nat → ClassId} {dI : Nat → Nat → Nat} {kA : Nat → ClassId} {ad : Nat → Nat} (C : jxc cX7_changeNodes none 2 RX7 p s m args meth c dC dI kA) (hap : jw_ap 57 ad) {res : RS} : G_cX7_changeNodes_b2 p l e s m args below meth c dC dI kA ad res (f_cX7_changeNodes_b2) := kn_fix_ind (G := fun F => G_cX7_changeNodes_b2 p l e s m args below meth c dC dI kA ad res F) (fun _ _ hf => by cases hf) (fun k2 hk2 => p_cX7_changeNodes_b2 C hap hk2) FU
def s_cX7_changeNodes (σ : RS) : Option (RS) := f_cX7_changeNodes_b2 σ 0
set_option maxRecDepth 100000 in
set_option maxHeartbeats 4000000 in
theorem p_cX7_changeNodes {p : Program} {l : Launch} {e : Env} {s : State} {m : MethodId} {args : Array Value} {below : List Frame} {meth : Method} {c : Code} {dC : Nat → ClassId} {dI : Nat → Nat → Nat} {kA : Nat → ClassId} {ad : Nat → Nat} (C : jxc cX7_changeNodes none 2 RX7 p s m args meth c dC dI kA) (hap : jw_ap 57 ad) {res : RS} : G_cX7_changeNodes p l e s m args below meth c dC dI kA ad res (s_cX7_changeNodes) := by
  obtain ⟨hx, hb, hml, hown, hts, hr, hlocks, hK, hN⟩ := id C
  intro σ hf H locs ls hP hS hl
  unfold s_cX7_changeNodes at hf
  refine lv_iconst (v := 0) hx hb dX7_changeNodes_0 (by decide) ?_
  refine lv_istore_n (lv' := [(1, .int 0), (0, .ref (ad 24))]) hx hb dX7_changeNodes_1 rfl hl (by decide) rfl (fun ls hl => ?_)
  exact (q_cX7_changeNodes_b2 C hap) σ 0 hf H locs ls hP hS (lv_sub hl [1, 0] rfl)
theorem c_cX7_changeNodes (l : Launch) {dC : Nat → ClassId} {dI : Nat → Nat → Nat} {kA : Nat → ClassId} {ad : Nat → Nat} (hap : jw_ap 57 ad) (σ : RS) (res : RS) (hf : s_cX7_changeNodes σ = some res) : jm_u l KW NW (dC, dI) vwCl (jtys kA) (jw_A 57 ad) (c_w kA ad) yX7_changeNodes cX7_changeNodes 2 (rm_cX7_changeNodes) [.ref (ad 24)] σ res := jm_u_of (by decide) (Nat.le_of_ble_eq_true rfl) (fun p e s m below meth c C hP hS ls hl => p_cX7_changeNodes C hap σ hf s.heap [] ls hP hS hl)

def rm_cX8_has : Room := { frames := 0, cells := 0, slots := 0, locals := 0 }
def G_cX8_has (p : Program) (l : Launch) (e : Env) (s : State) (m : MethodId) (args : Array Value) (below : List Frame) (meth : Method) (c : Code) (dC : Nat → ClassId) (dI : Nat → Nat → Nat) (kA : Nat → ClassId) (ad : Nat → Nat) (res : Int32 × RS) (F : RS → Int32 → Option (Int32 × RS)) : Prop := ∀ (σ : RS) (x1 : Int32), F σ x1 = some res → ∀ (H : Heap) (locs : List Loc) (ls : Array Slot), va_P (dC, dI) vwCl (c_w kA ad σ) H → va_S (jw_A 57 ad) s.heap H locs → lv_has ls 2 [(0, .ref (ad 1)), (1, .int x1)] → W p l e rm_cX8_has s m args below meth c H locs 0 0 (c_Qi below dC dI kA ad args s res) (F0 m 0 ls [])
def s_cX8_has (σ : RS) (x1 : Int32) : Option (Int32 × RS) := if x1 < 0 then (some (0, σ)) else (if (rg_I σ 1) ≤ x1 then (some (0, σ)) else (some (1, σ)))
set_option maxRecDepth 100000 in
set_option maxHeartbeats 4000000 in
theorem p_cX8_has {p : Program} {l : Launch} {e : Env} {s : State} {m : MethodId} {args : Array Value} {below : List Frame} {meth : Method} {c : Code} {dC : Nat → ClassId} {dI : Nat → Nat → Nat} {kA : Nat → ClassId} {ad : Nat → Nat} (C : jxc cX8_has (some .boolean) 2 RX8 p s m args meth c dC dI kA) (hap : jw_ap 57 ad) {res : Int32 × RS} : G_cX8_has p l e s m args below meth c dC dI kA ad res (s_cX8_has) := by
  obtain ⟨hx, hb, hml, hown, hts, hr, hlocks, hK, hN⟩ := id C
  intro σ x1 hf H locs ls hP hS hl
  unfold s_cX8_has at hf
  refine lv_iload_n hx hb dX8_has_0 rfl (lv_at hl 1 rfl) ?_
  refine jb_lt (tgt := 16) hx hb hf dX8_has_1 (by decide) (fun hf => ?_) (fun hf => ?_)
  · refine lv_iconst (v := 0) hx hb dX8_has_16 (by decide) ?_
    exact jr_i hx hb hr hlocks hf (by decide) hP hS dX8_has_17
  · refine lv_iload_n hx hb dX8_has_4 rfl (lv_at hl 1 rfl) ?_
    refine lv_aload_n hx hb dX8_has_5 rfl (lv_at hl 0 rfl) ?_
    refine c_gX8_size hx hb hts hown hK hP (hts _ kw_91) dX8_has_6 ?_
    refine jc_ge (tgt := 16) hx hb hf dX8_has_9 (by decide) (fun hf => ?_) (fun hf => ?_)
    · refine lv_iconst (v := 0) hx hb dX8_has_16 (by decide) ?_
      exact jr_i hx hb hr hlocks hf (by decide) hP hS dX8_has_17
    · refine lv_iconst (v := 1) hx hb dX8_has_12 (by decide) ?_
      refine lv_goto (tgt := 17) hx hb dX8_has_13 (by decide) ?_
      exact jr_i hx hb hr hlocks hf (by decide) hP hS dX8_has_17
theorem c_cX8_has (l : Launch) {dC : Nat → ClassId} {dI : Nat → Nat → Nat} {kA : Nat → ClassId} {ad : Nat → Nat} (hap : jw_ap 57 ad) (σ : RS) (x1 : Int32) (res : Int32 × RS) (hf : s_cX8_has σ x1 = some res) : jm_i l KW NW (dC, dI) vwCl (jtys kA) (jw_A 57 ad) (c_w kA ad) yX8_has cX8_has 2 .boolean (rm_cX8_has) [.ref (ad 1), .int x1] σ res := jm_i_of (by decide) (Nat.le_of_ble_eq_true rfl) (fun p e s m below meth c C hP hS ls hl => p_cX8_has C hap σ x1 hf s.heap [] ls hP hS hl)

def rm_cX8_partsOf : Room := { frames := 0, cells := 0, slots := 0, locals := 0 }
def G_cX8_partsOf (p : Program) (l : Launch) (e : Env) (s : State) (m : MethodId) (args : Array Value) (below : List Frame) (meth : Method) (c : Code) (dC : Nat → ClassId) (dI : Nat → Nat → Nat) (kA : Nat → ClassId) (ad : Nat → Nat) (res : Int32 × RS) (F : RS → Int32 → Option (Int32 × RS)) : Prop := ∀ (σ : RS) (x0 : Int32), F σ x0 = some res → ∀ (H : Heap) (locs : List Loc) (ls : Array Slot), va_P (dC, dI) vwCl (c_w kA ad σ) H → va_S (jw_A 57 ad) s.heap H locs → lv_has ls 1 [(0, .int x0)] → W p l e rm_cX8_partsOf s m args below meth c H locs 0 0 (c_Qi below dC dI kA ad args s res) (F0 m 0 ls [])
def s_cX8_partsOf (σ : RS) (x0 : Int32) : Option (Int32 × RS) := if 8 ≤ x0 then (if x0 = 16 then (some (3, σ)) else (if x0 = 17 then (some (1, σ)) else (some (2, σ)))) else (some (0, σ))
set_option maxRecDepth 100000 in
set_option maxHeartbeats 4000000 in
theorem p_cX8_partsOf {p : Program} {l : Launch} {e : Env} {s : State} {m : MethodId} {args : Array Value} {below : List Frame} {meth : Method} {c : Code} {dC : Nat → ClassId} {dI : Nat → Nat → Nat} {kA : Nat → ClassId} {ad : Nat → Nat} (C : jxc cX8_partsOf (some .int) 1 RX8 p s m args meth c dC dI kA) (hap : jw_ap 57 ad) {res : Int32 × RS} : G_cX8_partsOf p l e s m args below meth c dC dI kA ad res (s_cX8_partsOf) := by
  obtain ⟨hx, hb, hml, hown, hts, hr, hlocks, hK, hN⟩ := id C
  intro σ x0 hf H locs ls hP hS hl
  unfold s_cX8_partsOf at hf
  refine lv_iload_n hx hb dX8_partsOf_0 rfl (lv_at hl 0 rfl) ?_
  refine lv_bipush (v := 8) hx hb dX8_partsOf_1 (by decide) ?_
  refine jc_ge (tgt := 8) hx hb hf dX8_partsOf_3 (by decide) (fun hf => ?_) (fun hf => ?_)
  · refine lv_iload_n hx hb dX8_partsOf_8 rfl (lv_at hl 0 rfl) ?_
    refine lv_bipush (v := 16) hx hb dX8_partsOf_9 (by decide) ?_
    refine jc_ne (tgt := 16) hx hb hf dX8_partsOf_11 (by decide) (fun hf => ?_) (fun hf => ?_)
    · refine lv_iload_n hx hb dX8_partsOf_16 rfl (lv_at hl 0 rfl) ?_
      refine lv_bipush (v := 17) hx hb dX8_partsOf_17 (by decide) ?_
      refine jc_ne (tgt := 26) hx hb hf dX8_partsOf_19 (by decide) (fun hf => ?_) (fun hf => ?_)
      · refine lv_iconst (v := 2) hx hb dX8_partsOf_26 (by decide) ?_
        exact jr_i hx hb hr hlocks hf rfl hP hS dX8_partsOf_27
      · refine lv_iconst (v := 1) hx hb dX8_partsOf_22 (by decide) ?_
        refine lv_goto (tgt := 27) hx hb dX8_partsOf_23 (by decide) ?_
        exact jr_i hx hb hr hlocks hf rfl hP hS dX8_partsOf_27
    · refine lv_iconst (v := 3) hx hb dX8_partsOf_14 (by decide) ?_
      exact jr_i hx hb hr hlocks hf rfl hP hS dX8_partsOf_15
  · refine lv_iconst (v := 0) hx hb dX8_partsOf_6 (by decide) ?_
    exact jr_i hx hb hr hlocks hf rfl hP hS dX8_partsOf_7
theorem c_cX8_partsOf (l : Launch) {dC : Nat → ClassId} {dI : Nat → Nat → Nat} {kA : Nat → ClassId} {ad : Nat → Nat} (hap : jw_ap 57 ad) (σ : RS) (x0 : Int32) (res : Int32 × RS) (hf : s_cX8_partsOf σ x0 = some res) : jm_i l KW NW (dC, dI) vwCl (jtys kA) (jw_A 57 ad) (c_w kA ad) yX8_partsOf cX8_partsOf 1 .int (rm_cX8_partsOf) [.int x0] σ res := jm_i_of (by decide) (Nat.le_of_ble_eq_true rfl) (fun p e s m below meth c C hP hS ls hl => p_cX8_partsOf C hap σ x0 hf s.heap [] ls hP hS hl)

def rm_cX9_has : Room := { frames := 0, cells := 0, slots := 0, locals := 0 }
def G_cX9_has (p : Program) (l : Launch) (e : Env) (s : State) (m : MethodId) (args : Array Value) (below : List Frame) (meth : Method) (c : Code) (dC : Nat → ClassId) (dI : Nat → Nat → Nat) (kA : Nat → ClassId) (ad : Nat → Nat) (res : Int32 × RS) (F : RS → Int32 → Option (Int32 × RS)) : Prop := ∀ (σ : RS) (x1 : Int32), F σ x1 = some res → ∀ (H : Heap) (locs : List Loc) (ls : Array Slot), va_P (dC, dI) vwCl (c_w kA ad σ) H → va_S (jw_A 57 ad) s.heap H locs → lv_has ls 2 [(0, .ref (ad 19)), (1, .int x1)] → W p l e rm_cX9_has s m args below meth c H locs 0 0 (c_Qi below dC dI kA ad args s res) (F0 m 0 ls [])
def s_cX9_has (σ : RS) (x1 : Int32) : Option (Int32 × RS) := if x1 < 0 then (some (0, σ)) else (if (rg_I σ 13) ≤ x1 then (some (0, σ)) else (some (1, σ)))
set_option maxRecDepth 100000 in
set_option maxHeartbeats 4000000 in
theorem p_cX9_has {p : Program} {l : Launch} {e : Env} {s : State} {m : MethodId} {args : Array Value} {below : List Frame} {meth : Method} {c : Code} {dC : Nat → ClassId} {dI : Nat → Nat → Nat} {kA : Nat → ClassId} {ad : Nat → Nat} (C : jxc cX9_has (some .boolean) 2 RX9 p s m args meth c dC dI kA) (hap : jw_ap 57 ad) {res : Int32 × RS} : G_cX9_has p l e s m args below meth c dC dI kA ad res (s_cX9_has) := by
  obtain ⟨hx, hb, hml, hown, hts, hr, hlocks, hK, hN⟩ := id C
  intro σ x1 hf H locs ls hP hS hl
  unfold s_cX9_has at hf
  refine lv_iload_n hx hb dX9_has_0 rfl (lv_at hl 1 rfl) ?_
  refine jb_lt (tgt := 16) hx hb hf dX9_has_1 (by decide) (fun hf => ?_) (fun hf => ?_)
  · refine lv_iconst (v := 0) hx hb dX9_has_16 (by decide) ?_
    exact jr_i hx hb hr hlocks hf (by decide) hP hS dX9_has_17
  · refine lv_iload_n hx hb dX9_has_4 rfl (lv_at hl 1 rfl) ?_
    refine lv_aload_n hx hb dX9_has_5 rfl (lv_at hl 0 rfl) ?_
    refine c_gX9_size hx hb hts hown hK hP (hts _ kw_260) dX9_has_6 ?_
    refine jc_ge (tgt := 16) hx hb hf dX9_has_9 (by decide) (fun hf => ?_) (fun hf => ?_)
    · refine lv_iconst (v := 0) hx hb dX9_has_16 (by decide) ?_
      exact jr_i hx hb hr hlocks hf (by decide) hP hS dX9_has_17
    · refine lv_iconst (v := 1) hx hb dX9_has_12 (by decide) ?_
      refine lv_goto (tgt := 17) hx hb dX9_has_13 (by decide) ?_
      exact jr_i hx hb hr hlocks hf (by decide) hP hS dX9_has_17
theorem c_cX9_has (l : Launch) {dC : Nat → ClassId} {dI : Nat → Nat → Nat} {kA : Nat → ClassId} {ad : Nat → Nat} (hap : jw_ap 57 ad) (σ : RS) (x1 : Int32) (res : Int32 × RS) (hf : s_cX9_has σ x1 = some res) : jm_i l KW NW (dC, dI) vwCl (jtys kA) (jw_A 57 ad) (c_w kA ad) yX9_has cX9_has 2 .boolean (rm_cX9_has) [.ref (ad 19), .int x1] σ res := jm_i_of (by decide) (Nat.le_of_ble_eq_true rfl) (fun p e s m below meth c C hP hS ls hl => p_cX9_has C hap σ x1 hf s.heap [] ls hP hS hl)

def rm_cX9_clear : Room := { frames := 0, cells := 0, slots := 0, locals := 0 }
def G_cX9_clear (p : Program) (l : Launch) (e : Env) (s : State) (m : MethodId) (args : Array Value) (below : List Frame) (meth : Method) (c : Code) (dC : Nat → ClassId) (dI : Nat → Nat → Nat) (kA : Nat → ClassId) (ad : Nat → Nat) (res : RS) (F : RS → Option (RS)) : Prop := ∀ (σ : RS), F σ = some res → ∀ (H : Heap) (locs : List Loc) (ls : Array Slot), va_P (dC, dI) vwCl (c_w kA ad σ) H → va_S (jw_A 57 ad) s.heap H locs → lv_has ls 1 [(0, .ref (ad 19))] → W p l e rm_cX9_clear s m args below meth c H locs 0 0 (c_Qu below dC dI kA ad args s res) (F0 m 0 ls [])
def s_cX9_clear (σ : RS) : Option (RS) := kn_v (rs_I σ 13 0) (fun σ1 => some σ1)
set_option maxRecDepth 100000 in
set_option maxHeartbeats 4000000 in
theorem p_cX9_clear {p : Program} {l : Launch} {e : Env} {s : State} {m : MethodId} {args : Array Value} {below : List Frame} {meth : Method} {c : Code} {dC : Nat → ClassId} {dI : Nat → Nat → Nat} {kA : Nat → ClassId} {ad : Nat → Nat} (C : jxc cX9_clear none 1 RX9 p s m args meth c dC dI kA) (hap : jw_ap 57 ad) {res : RS} : G_cX9_clear p l e s m args below meth c dC dI kA ad res (s_cX9_clear) := by
  obtain ⟨hx, hb, hml, hown, hts, hr, hlocks, hK, hN⟩ := id C
  intro σ hf H locs ls hP hS hl
  unfold s_cX9_clear at hf
  refine lv_aload_n hx hb dX9_clear_0 rfl (lv_at hl 0 rfl) ?_
  refine lv_iconst (v := 0) hx hb dX9_clear_1 (by decide) ?_
  refine c_pX9_size hx hb hts hown hK hap hP hS hf (hts _ kw_260) dX9_clear_2 (fun σ1 H locs hP hS hf => ?_)
  exact jr_u hx hb hr hlocks hf hP hS dX9_clear_5
theorem c_cX9_clear (l : Launch) {dC : Nat → ClassId} {dI : Nat → Nat → Nat} {kA : Nat → ClassId} {ad : Nat → Nat} (hap : jw_ap 57 ad) (σ : RS) (res : RS) (hf : s_cX9_clear σ = some res) : jm_u l KW NW (dC, dI) vwCl (jtys kA) (jw_A 57 ad) (c_w kA ad) yX9_clear cX9_clear 1 (rm_cX9_clear) [.ref (ad 19)] σ res := jm_u_of (by decide) (Nat.le_of_ble_eq_true rfl) (fun p e s m below meth c C hP hS ls hl => p_cX9_clear C hap σ hf s.heap [] ls hP hS hl)

def rm_cX9_add : Room := { frames := 0, cells := 0, slots := 0, locals := 0 }
def G_cX9_add (p : Program) (l : Launch) (e : Env) (s : State) (m : MethodId) (args : Array Value) (below : List Frame) (meth : Method) (c : Code) (dC : Nat → ClassId) (dI : Nat → Nat → Nat) (kA : Nat → ClassId) (ad : Nat → Nat) (res : RS) (F : RS → Int32 → Int64 → Option (RS)) : Prop := ∀ (σ : RS) (x1 : Int32) (x2 : Int64), F σ x1 x2 = some res → ∀ (H : Heap) (locs : List Loc) (ls : Array Slot), va_P (dC, dI) vwCl (c_w kA ad σ) H → va_S (jw_A 57 ad) s.heap H locs → lv_has ls 4 [(0, .ref (ad 19)), (1, .int x1), (2, .long x2)] → W p l e rm_cX9_add s m args below meth c H locs 0 0 (c_Qu below dC dI kA ad args s res) (F0 m 0 ls [])
def s_cX9_add (σ : RS) (x1 : Int32) (x2 : Int64) : Option (RS) := if (rg_I σ 13) < 200 then (kn_st (rs_A σ 9 (upd (rg_A σ 9) (rg_I σ 13).toNatClampNeg x1)) 200 (rg_I σ 13) (fun σ1 => kn_st (rs_B σ1 3 (vp_updL (rg_B σ1 3) (rg_I σ1 13).toNatClampNeg x2)) 200 (rg_I σ1 13) (fun σ2 => kn_v (rs_I σ2 13 ((rg_I σ2 13) + 1)) (fun σ3 => some σ3)))) else some σ
set_option maxRecDepth 100000 in
set_option maxHeartbeats 4000000 in
theorem p_cX9_add {p : Program} {l : Launch} {e : Env} {s : State} {m : MethodId} {args : Array Value} {below : List Frame} {meth : Method} {c : Code} {dC : Nat → ClassId} {dI : Nat → Nat → Nat} {kA : Nat → ClassId} {ad : Nat → Nat} (C : jxc cX9_add none 4 RX9 p s m args meth c dC dI kA) (hap : jw_ap 57 ad) {res : RS} : G_cX9_add p l e s m args below meth c dC dI kA ad res (s_cX9_add) := by
  obtain ⟨hx, hb, hml, hown, hts, hr, hlocks, hK, hN⟩ := id C
  intro σ x1 x2 hf H locs ls hP hS hl
  unfold s_cX9_add at hf
  refine lv_aload_n hx hb dX9_add_0 rfl (lv_at hl 0 rfl) ?_
  refine c_gX9_size hx hb hts hown hK hP (hts _ kw_260) dX9_add_1 ?_
  refine lv_sipush (v := 200) hx hb dX9_add_4 (by decide) ?_
  refine jc_lt (tgt := 11) hx hb hf dX9_add_7 (by decide) (fun hf => ?_) (fun hf => ?_)
  · refine lv_aload_n hx hb dX9_add_11 rfl (lv_at hl 0 rfl) ?_
    refine c_gX9_arcs hx hb hts hown hK hP (hts _ kw_256) dX9_add_12 ?_
    refine lv_aload_n hx hb dX9_add_15 rfl (lv_at hl 0 rfl) ?_
    refine c_gX9_size hx hb hts hown hK hP (hts _ kw_260) dX9_add_16 ?_
    refine lv_iload_n hx hb dX9_add_19 rfl (lv_at hl 1 rfl) ?_
    refine ja_ist hx hb hK (c_D hap σ) hP hS 20 0 rfl rfl c_sA9 hf dX9_add_20 (fun σ1 H locs hP hS hf => ?_)
    refine lv_aload_n hx hb dX9_add_21 rfl (lv_at hl 0 rfl) ?_
    refine c_gX9_values hx hb hts hown hK hP (hts _ kw_258) dX9_add_22 ?_
    refine lv_aload_n hx hb dX9_add_25 rfl (lv_at hl 0 rfl) ?_
    refine c_gX9_size hx hb hts hown hK hP (hts _ kw_260) dX9_add_26 ?_
    refine lv_lload_n hx hb dX9_add_29 rfl (lv_at hl 2 rfl) ?_
    refine ja_lst hx hb hK (c_D hap σ1) hP hS 21 1 rfl rfl c_sB3 hf dX9_add_30 (fun σ2 H locs hP hS hf => ?_)
    refine lv_aload_n hx hb dX9_add_31 rfl (lv_at hl 0 rfl) ?_
    refine lv_dup hx hb dX9_add_32 rfl ?_
    refine c_gX9_size hx hb hts hown hK hP (hts _ kw_260) dX9_add_33 ?_
    refine lv_iconst (v := 1) hx hb dX9_add_36 (by decide) ?_
    refine lv_iadd hx hb dX9_add_37 ?_
    refine c_pX9_size hx hb hts hown hK hap hP hS hf (hts _ kw_260) dX9_add_38 (fun σ3 H locs hP hS hf => ?_)
    exact jr_u hx hb hr hlocks hf hP hS dX9_add_41
  · exact jr_u hx hb hr hlocks hf hP hS dX9_add_10
theorem c_cX9_add (l : Launch) {dC : Nat → ClassId} {dI : Nat → Nat → Nat} {kA : Nat → ClassId} {ad : Nat → Nat} (hap : jw_ap 57 ad) (σ : RS) (x1 : Int32) (x2 : Int64) (res : RS) (hf : s_cX9_add σ x1 x2 = some res) : jm_u l KW NW (dC, dI) vwCl (jtys kA) (jw_A 57 ad) (c_w kA ad) yX9_add cX9_add 4 (rm_cX9_add) [.ref (ad 19), .int x1, .long x2] σ res := jm_u_of (by decide) (Nat.le_of_ble_eq_true rfl) (fun p e s m below meth c C hP hS ls hl => p_cX9_add C hap σ x1 x2 hf s.heap [] ls hP hS hl)

def rm_cX10_hasNode : Room := { frames := 0, cells := 0, slots := 0, locals := 0 }
def G_cX10_hasNode (p : Program) (l : Launch) (e : Env) (s : State) (m : MethodId) (args : Array Value) (below : List Frame) (meth : Method) (c : Code) (dC : Nat → ClassId) (dI : Nat → Nat → Nat) (kA : Nat → ClassId) (ad : Nat → Nat) (res : Int32 × RS) (F : RS → Int32 → Option (Int32 × RS)) : Prop := ∀ (σ : RS) (x1 : Int32), F σ x1 = some res → ∀ (H : Heap) (locs : List Loc) (ls : Array Slot), va_P (dC, dI) vwCl (c_w kA ad σ) H → va_S (jw_A 57 ad) s.heap H locs → lv_has ls 2 [(0, .ref (ad 7)), (1, .int x1)] → W p l e rm_cX10_hasNode s m args below meth c H locs 0 0 (c_Qi below dC dI kA ad args s res) (F0 m 0 ls [])
def s_cX10_hasNode (σ : RS) (x1 : Int32) : Option (Int32 × RS) := if x1 < 0 then (some (0, σ)) else (if (rg_I σ 2) ≤ x1 then (some (0, σ)) else (some (1, σ)))
set_option maxRecDepth 100000 in
set_option maxHeartbeats 4000000 in
theorem p_cX10_hasNode {p : Program} {l : Launch} {e : Env} {s : State} {m : MethodId} {args : Array Value} {below : List Frame} {meth : Method} {c : Code} {dC : Nat → ClassId} {dI : Nat → Nat → Nat} {kA : Nat → ClassId} {ad : Nat → Nat} (C : jxc cX10_hasNode (some .boolean) 2 RX10 p s m args meth c dC dI kA) (hap : jw_ap 57 ad) {res : Int32 × RS} : G_cX10_hasNode p l e s m args below meth c dC dI kA ad res (s_cX10_hasNode) := by
  obtain ⟨hx, hb, hml, hown, hts, hr, hlocks, hK, hN⟩ := id C
  intro σ x1 hf H locs ls hP hS hl
  unfold s_cX10_hasNode at hf
  refine lv_iload_n hx hb dX10_hasNode_0 rfl (lv_at hl 1 rfl) ?_
  refine jb_lt (tgt := 16) hx hb hf dX10_hasNode_1 (by decide) (fun hf => ?_) (fun hf => ?_)
  · refine lv_iconst (v := 0) hx hb dX10_hasNode_16 (by decide) ?_
    exact jr_i hx hb hr hlocks hf (by decide) hP hS dX10_hasNode_17
  · refine lv_iload_n hx hb dX10_hasNode_4 rfl (lv_at hl 1 rfl) ?_
    refine lv_aload_n hx hb dX10_hasNode_5 rfl (lv_at hl 0 rfl) ?_
    refine c_gX10_nodes hx hb hts hown hK hP (hts _ kw_135) dX10_hasNode_6 ?_
    refine jc_ge (tgt := 16) hx hb hf dX10_hasNode_9 (by decide) (fun hf => ?_) (fun hf => ?_)
    · refine lv_iconst (v := 0) hx hb dX10_hasNode_16 (by decide) ?_
      exact jr_i hx hb hr hlocks hf (by decide) hP hS dX10_hasNode_17
    · refine lv_iconst (v := 1) hx hb dX10_hasNode_12 (by decide) ?_
      refine lv_goto (tgt := 17) hx hb dX10_hasNode_13 (by decide) ?_
      exact jr_i hx hb hr hlocks hf (by decide) hP hS dX10_hasNode_17
theorem c_cX10_hasNode (l : Launch) {dC : Nat → ClassId} {dI : Nat → Nat → Nat} {kA : Nat → ClassId} {ad : Nat → Nat} (hap : jw_ap 57 ad) (σ : RS) (x1 : Int32) (res : Int32 × RS) (hf : s_cX10_hasNode σ x1 = some res) : jm_i l KW NW (dC, dI) vwCl (jtys kA) (jw_A 57 ad) (c_w kA ad) yX10_hasNode cX10_hasNode 2 .boolean (rm_cX10_hasNode) [.ref (ad 7), .int x1] σ res := jm_i_of (by decide) (Nat.le_of_ble_eq_true rfl) (fun p e s m below meth c C hP hS ls hl => p_cX10_hasNode C hap σ x1 hf s.heap [] ls hP hS hl)

def rm_cX10_hasArc : Room := { frames := 0, cells := 0, slots := 0, locals := 0 }
def G_cX10_hasArc (p : Program) (l : Launch) (e : Env) (s : State) (m : MethodId) (args : Array Value) (below : List Frame) (meth : Method) (c : Code) (dC : Nat → ClassId) (dI : Nat → Nat → Nat) (kA : Nat → ClassId) (ad : Nat → Nat) (res : Int32 × RS) (F : RS → Int32 → Option (Int32 × RS)) : Prop := ∀ (σ : RS) (x1 : Int32), F σ x1 = some res → ∀ (H : Heap) (locs : List Loc) (ls : Array Slot), va_P (dC, dI) vwCl (c_w kA ad σ) H → va_S (jw_A 57 ad) s.heap H locs → lv_has ls 2 [(0, .ref (ad 7)), (1, .int x1)] → W p l e rm_cX10_hasArc s m args below meth c H locs 0 0 (c_Qi below dC dI kA ad args s res) (F0 m 0 ls [])
def s_cX10_hasArc (σ : RS) (x1 : Int32) : Option (Int32 × RS) := if x1 < 0 then (some (0, σ)) else (if (rg_I σ 3) ≤ x1 then (some (0, σ)) else (some (1, σ)))
set_option maxRecDepth 100000 in
set_option maxHeartbeats 4000000 in
theorem p_cX10_hasArc {p : Program} {l : Launch} {e : Env} {s : State} {m : MethodId} {args : Array Value} {below : List Frame} {meth : Method} {c : Code} {dC : Nat → ClassId} {dI : Nat → Nat → Nat} {kA : Nat → ClassId} {ad : Nat → Nat} (C : jxc cX10_hasArc (some .boolean) 2 RX10 p s m args meth c dC dI kA) (hap : jw_ap 57 ad) {res : Int32 × RS} : G_cX10_hasArc p l e s m args below meth c dC dI kA ad res (s_cX10_hasArc) := by
  obtain ⟨hx, hb, hml, hown, hts, hr, hlocks, hK, hN⟩ := id C
  intro σ x1 hf H locs ls hP hS hl
  unfold s_cX10_hasArc at hf
  refine lv_iload_n hx hb dX10_hasArc_0 rfl (lv_at hl 1 rfl) ?_
  refine jb_lt (tgt := 16) hx hb hf dX10_hasArc_1 (by decide) (fun hf => ?_) (fun hf => ?_)
  · refine lv_iconst (v := 0) hx hb dX10_hasArc_16 (by decide) ?_
    exact jr_i hx hb hr hlocks hf (by decide) hP hS dX10_hasArc_17
  · refine lv_iload_n hx hb dX10_hasArc_4 rfl (lv_at hl 1 rfl) ?_
    refine lv_aload_n hx hb dX10_hasArc_5 rfl (lv_at hl 0 rfl) ?_
    refine c_gX10_arcs hx hb hts hown hK hP (hts _ kw_139) dX10_hasArc_6 ?_
    refine jc_ge (tgt := 16) hx hb hf dX10_hasArc_9 (by decide) (fun hf => ?_) (fun hf => ?_)
    · refine lv_iconst (v := 0) hx hb dX10_hasArc_16 (by decide) ?_
      exact jr_i hx hb hr hlocks hf (by decide) hP hS dX10_hasArc_17
    · refine lv_iconst (v := 1) hx hb dX10_hasArc_12 (by decide) ?_
      refine lv_goto (tgt := 17) hx hb dX10_hasArc_13 (by decide) ?_
      exact jr_i hx hb hr hlocks hf (by decide) hP hS dX10_hasArc_17
theorem c_cX10_hasArc (l : Launch) {dC : Nat → ClassId} {dI : Nat → Nat → Nat} {kA : Nat → ClassId} {ad : Nat → Nat} (hap : jw_ap 57 ad) (σ : RS) (x1 : Int32) (res : Int32 × RS) (hf : s_cX10_hasArc σ x1 = some res) : jm_i l KW NW (dC, dI) vwCl (jtys kA) (jw_A 57 ad) (c_w kA ad) yX10_hasArc cX10_hasArc 2 .boolean (rm_cX10_hasArc) [.ref (ad 7), .int x1] σ res := jm_i_of (by decide) (Nat.le_of_ble_eq_true rfl) (fun p e s m below meth c C hP hS ls hl => p_cX10_hasArc C hap σ x1 hf s.heap [] ls hP hS hl)

def rm_cX10_addNode : Room := { frames := 0, cells := 0, slots := 0, locals := 0 }
def G_cX10_addNode (p : Program) (l : Launch) (e : Env) (s : State) (m : MethodId) (args : Array Value) (below : List Frame) (meth : Method) (c : Code) (dC : Nat → ClassId) (dI : Nat → Nat → Nat) (kA : Nat → ClassId) (ad : Nat → Nat) (res : Int32 × RS) (F : RS → Option (Int32 × RS)) : Prop := ∀ (σ : RS), F σ = some res → ∀ (H : Heap) (locs : List Loc) (ls : Array Slot), va_P (dC, dI) vwCl (c_w kA ad σ) H → va_S (jw_A 57 ad) s.heap H locs → lv_has ls 1 [(0, .ref (ad 7))] → W p l e rm_cX10_addNode s m args below meth c H locs 0 0 (c_Qi below dC dI kA ad args s res) (F0 m 0 ls [])
def s_cX10_addNode (σ : RS) : Option (Int32 × RS) := if (rg_I σ 2) < 12 then (kn_st (rs_A σ 4 (upd (rg_A σ 4) (rg_I σ 2).toNatClampNeg 1)) 12 (rg_I σ 2) (fun σ1 => kn_v (rs_I σ1 2 ((rg_I σ1 2) + 1)) (fun σ2 => some ((rg_I σ2 2) - 1, σ2)))) else (some ((-103), σ))
set_option maxRecDepth 100000 in
set_option maxHeartbeats 4000000 in
theorem p_cX10_addNode {p : Program} {l : Launch} {e : Env} {s : State} {m : MethodId} {args : Array Value} {below : List Frame} {meth : Method} {c : Code} {dC : Nat → ClassId} {dI : Nat → Nat → Nat} {kA : Nat → ClassId} {ad : Nat → Nat} (C : jxc cX10_addNode (some .int) 1 RX10 p s m args meth c dC dI kA) (hap : jw_ap 57 ad) {res : Int32 × RS} : G_cX10_addNode p l e s m args below meth c dC dI kA ad res (s_cX10_addNode) := by
  obtain ⟨hx, hb, hml, hown, hts, hr, hlocks, hK, hN⟩ := id C
  intro σ hf H locs ls hP hS hl
  unfold s_cX10_addNode at hf
  refine lv_aload_n hx hb dX10_addNode_0 rfl (lv_at hl 0 rfl) ?_
  refine c_gX10_nodes hx hb hts hown hK hP (hts _ kw_135) dX10_addNode_1 ?_
  refine lv_bipush (v := 12) hx hb dX10_addNode_4 (by decide) ?_
  refine jc_lt (tgt := 12) hx hb hf dX10_addNode_6 (by decide) (fun hf => ?_) (fun hf => ?_)
  · refine lv_aload_n hx hb dX10_addNode_12 rfl (lv_at hl 0 rfl) ?_
    refine c_gX10_awake hx hb hts hown hK hP (hts _ kw_120) dX10_addNode_13 ?_
    refine lv_aload_n hx hb dX10_addNode_16 rfl (lv_at hl 0 rfl) ?_
    refine c_gX10_nodes hx hb hts hown hK hP (hts _ kw_135) dX10_addNode_17 ?_
    refine lv_iconst (v := 1) hx hb dX10_addNode_20 (by decide) ?_
    refine ja_zst hx hb hK (c_D hap σ) hP hS 9 2 rfl rfl (by decide) c_sA4 hf dX10_addNode_21 (fun σ1 H locs hP hS hf => ?_)
    refine lv_aload_n hx hb dX10_addNode_22 rfl (lv_at hl 0 rfl) ?_
    refine lv_dup hx hb dX10_addNode_23 rfl ?_
    refine c_gX10_nodes hx hb hts hown hK hP (hts _ kw_135) dX10_addNode_24 ?_
    refine lv_iconst (v := 1) hx hb dX10_addNode_27 (by decide) ?_
    refine lv_iadd hx hb dX10_addNode_28 ?_
    refine c_pX10_nodes hx hb hts hown hK hap hP hS hf (hts _ kw_135) dX10_addNode_29 (fun σ2 H locs hP hS hf => ?_)
    refine lv_aload_n hx hb dX10_addNode_32 rfl (lv_at hl 0 rfl) ?_
    refine c_gX10_nodes hx hb hts hown hK hP (hts _ kw_135) dX10_addNode_33 ?_
    refine lv_iconst (v := 1) hx hb dX10_addNode_36 (by decide) ?_
    refine lv_isub hx hb dX10_addNode_37 ?_
    exact jr_i hx hb hr hlocks hf rfl hP hS dX10_addNode_38
  · refine lv_bipush (v := (-103)) hx hb dX10_addNode_9 (by decide) ?_
    exact jr_i hx hb hr hlocks hf rfl hP hS dX10_addNode_11
theorem c_cX10_addNode (l : Launch) {dC : Nat → ClassId} {dI : Nat → Nat → Nat} {kA : Nat → ClassId} {ad : Nat → Nat} (hap : jw_ap 57 ad) (σ : RS) (res : Int32 × RS) (hf : s_cX10_addNode σ = some res) : jm_i l KW NW (dC, dI) vwCl (jtys kA) (jw_A 57 ad) (c_w kA ad) yX10_addNode cX10_addNode 1 .int (rm_cX10_addNode) [.ref (ad 7)] σ res := jm_i_of (by decide) (Nat.le_of_ble_eq_true rfl) (fun p e s m below meth c C hP hS ls hl => p_cX10_addNode C hap σ hf s.heap [] ls hP hS hl)

def rm_cX10_addArc : Room := { frames := 1, cells := 0, slots := 0, locals := 21 }
def G_cX10_addArc (p : Program) (l : Launch) (e : Env) (s : State) (m : MethodId) (args : Array Value) (below : List Frame) (meth : Method) (c : Code) (dC : Nat → ClassId) (dI : Nat → Nat → Nat) (kA : Nat → ClassId) (ad : Nat → Nat) (res : Int32 × RS) (F : RS → Int32 → Int32 → Int64 → Option (Int32 × RS)) : Prop := ∀ (σ : RS) (x1 : Int32) (x2 : Int32) (x3 : Int64), F σ x1 x2 x3 = some res → ∀ (H : Heap) (locs : List Loc) (ls : Array Slot), va_P (dC, dI) vwCl (c_w kA ad σ) H → va_S (jw_A 57 ad) s.heap H locs → lv_has ls 5 [(0, .ref (ad 7)), (1, .int x1), (2, .int x2), (3, .long x3)] → W p l e rm_cX10_addArc s m args below meth c H locs 0 0 (c_Qi below dC dI kA ad args s res) (F0 m 0 ls [])
def s_cX10_addArc (σ : RS) (x1 : Int32) (x2 : Int32) (x3 : Int64) : Option (Int32 × RS) := kn_i (s_cX10_hasNode σ x1) (fun v1 σ2 => if v1 = 0 then (some ((-101), σ2)) else (kn_i (s_cX10_hasNode σ2 x2) (fun v3 σ4 => if v3 = 0 then (some ((-101), σ4)) else (if (rg_I σ4 3) < 40 then (kn_st (rs_A σ4 6 (upd (rg_A σ4 6) (rg_I σ4 3).toNatClampNeg x1)) 40 (rg_I σ4 3) (fun σ5 => kn_st (rs_A σ5 7 (upd (rg_A σ5 7) (rg_I σ5 3).toNatClampNeg x2)) 40 (rg_I σ5 3) (fun σ6 => kn_st (rs_B σ6 2 (vp_updL (rg_B σ6 2) (rg_I σ6 3).toNatClampNeg x3)) 40 (rg_I σ6 3) (fun σ7 => kn_ld (rg_A σ7 5) 12 x1 (fun v8 => kn_st (rs_A σ7 5 (upd (rg_A σ7 5) x1.toNatClampNeg (v8 + 1))) 12 x1 (fun σ9 => kn_v (rs_I σ9 3 ((rg_I σ9 3) + 1)) (fun σ10 => some ((rg_I σ10 3) - 1, σ10)))))))) else (some ((-103), σ4))))))
set_option maxRecDepth 100000 in
set_option maxHeartbeats 4000000 in
theorem p_cX10_addArc {p : Program} {l : Launch} {e : Env} {s : State} {m : MethodId} {args : Array Value} {below : List Frame} {meth : Method} {c : Code} {dC : Nat → ClassId} {dI : Nat → Nat → Nat} {kA : Nat → ClassId} {ad : Nat → Nat} (C : jxc cX10_addArc (some .int) 5 RX10 p s m args meth c dC dI kA) (hap : jw_ap 57 ad) {res : Int32 × RS} : G_cX10_addArc p l e s m args below meth c dC dI kA ad res (s_cX10_addArc) := by
  obtain ⟨hx, hb, hml, hown, hts, hr, hlocks, hK, hN⟩ := id C
  intro σ x1 x2 x3 hf H locs ls hP hS hl
  unfold s_cX10_addArc at hf
  refine lv_aload_n hx hb dX10_addArc_0 rfl (lv_at hl 0 rfl) ?_
  refine lv_iload_n hx hb dX10_addArc_1 rfl (lv_at hl 1 rfl) ?_
  refine jk_i hf (fun res hres => jv_run hx hb hml hown hts hK hN c_hG c_hNW hl.1 (n := 1) (As := [.int x1]) (rest := []) (c_cX10_hasNode l hap σ x1 res hres) hP (ci := 10) (q0 := 7) rfl rfl rfl kw_489 kw_486 kw_487 kw_488 kw_54 ⟨rfl, rfl⟩ (by decide +kernel) rfl ⟨Nat.le_of_ble_eq_true rfl, Nat.le_of_ble_eq_true rfl⟩ rfl (Nat.le_of_ble_eq_true rfl) dX10_addArc_2) hS (fun v1 σ2 H locs hP hS hf => ?_)
  refine jb_eq (tgt := 16) hx hb hf dX10_addArc_5 (by decide) (fun hf => ?_) (fun hf => ?_)
  · refine lv_bipush (v := (-101)) hx hb dX10_addArc_16 (by decide) ?_
    exact jr_i hx hb hr hlocks hf rfl hP hS dX10_addArc_18
  · refine lv_aload_n hx hb dX10_addArc_8 rfl (lv_at hl 0 rfl) ?_
    refine lv_iload_n hx hb dX10_addArc_9 rfl (lv_at hl 2 rfl) ?_
    refine jk_i hf (fun res hres => jv_run hx hb hml hown hts hK hN c_hG c_hNW hl.1 (n := 1) (As := [.int x2]) (rest := []) (c_cX10_hasNode l hap σ2 x2 res hres) hP (ci := 10) (q0 := 7) rfl rfl rfl kw_489 kw_486 kw_487 kw_488 kw_54 ⟨rfl, rfl⟩ (by decide +kernel) rfl ⟨Nat.le_of_ble_eq_true rfl, Nat.le_of_ble_eq_true rfl⟩ rfl (Nat.le_of_ble_eq_true rfl) dX10_addArc_10) hS (fun v3 σ4 H locs hP hS hf => ?_)
    refine jb_ne (tgt := 19) hx hb hf dX10_addArc_13 (by decide) (fun hf => ?_) (fun hf => ?_)
    · refine lv_aload_n hx hb dX10_addArc_19 rfl (lv_at hl 0 rfl) ?_
      refine c_gX10_arcs hx hb hts hown hK hP (hts _ kw_139) dX10_addArc_20 ?_
      refine lv_bipush (v := 40) hx hb dX10_addArc_23 (by decide) ?_
      refine jc_lt (tgt := 31) hx hb hf dX10_addArc_25 (by decide) (fun hf => ?_) (fun hf => ?_)
      · refine lv_aload_n hx hb dX10_addArc_31 rfl (lv_at hl 0 rfl) ?_
        refine c_gX10_from hx hb hts hown hK hP (hts _ kw_127) dX10_addArc_32 ?_
        refine lv_aload_n hx hb dX10_addArc_35 rfl (lv_at hl 0 rfl) ?_
        refine c_gX10_arcs hx hb hts hown hK hP (hts _ kw_139) dX10_addArc_36 ?_
        refine lv_iload_n hx hb dX10_addArc_39 rfl (lv_at hl 1 rfl) ?_
        refine ja_ist hx hb hK (c_D hap σ4) hP hS 11 0 rfl rfl c_sA6 hf dX10_addArc_40 (fun σ5 H locs hP hS hf => ?_)
        refine lv_aload_n hx hb dX10_addArc_41 rfl (lv_at hl 0 rfl) ?_
        refine c_gX10_to hx hb hts hown hK hP (hts _ kw_130) dX10_addArc_42 ?_
        refine lv_aload_n hx hb dX10_addArc_45 rfl (lv_at hl 0 rfl) ?_
        refine c_gX10_arcs hx hb hts hown hK hP (hts _ kw_139) dX10_addArc_46 ?_
        refine lv_iload_n hx hb dX10_addArc_49 rfl (lv_at hl 2 rfl) ?_
        refine ja_ist hx hb hK (c_D hap σ5) hP hS 12 0 rfl rfl c_sA7 hf dX10_addArc_50 (fun σ6 H locs hP hS hf => ?_)
        refine lv_aload_n hx hb dX10_addArc_51 rfl (lv_at hl 0 rfl) ?_
        refine c_gX10_weights hx hb hts hown hK hP (hts _ kw_133) dX10_addArc_52 ?_
        refine lv_aload_n hx hb dX10_addArc_55 rfl (lv_at hl 0 rfl) ?_
        refine c_gX10_arcs hx hb hts hown hK hP (hts _ kw_139) dX10_addArc_56 ?_
        refine lv_lload_n hx hb dX10_addArc_59 rfl (lv_at hl 3 rfl) ?_
        refine ja_lst hx hb hK (c_D hap σ6) hP hS 13 1 rfl rfl c_sB2 hf dX10_addArc_60 (fun σ7 H locs hP hS hf => ?_)
        refine lv_aload_n hx hb dX10_addArc_61 rfl (lv_at hl 0 rfl) ?_
        refine c_gX10_degrees hx hb hts hown hK hP (hts _ kw_125) dX10_addArc_62 ?_
        refine lv_iload_n hx hb dX10_addArc_65 rfl (lv_at hl 1 rfl) ?_
        refine lv_dup2_11 hx hb dX10_addArc_66 rfl rfl ?_
        refine ja_ild hx hb hK hP 10 0 rfl rfl hf dX10_addArc_67 (fun v8 hf => ?_)
        refine lv_iconst (v := 1) hx hb dX10_addArc_68 (by decide) ?_
        refine lv_iadd hx hb dX10_addArc_69 ?_
        refine ja_ist hx hb hK (c_D hap σ7) hP hS 10 0 rfl rfl c_sA5 hf dX10_addArc_70 (fun σ9 H locs hP hS hf => ?_)
        refine lv_aload_n hx hb dX10_addArc_71 rfl (lv_at hl 0 rfl) ?_
        refine lv_dup hx hb dX10_addArc_72 rfl ?_
        refine c_gX10_arcs hx hb hts hown hK hP (hts _ kw_139) dX10_addArc_73 ?_
        refine lv_iconst (v := 1) hx hb dX10_addArc_76 (by decide) ?_
        refine lv_iadd hx hb dX10_addArc_77 ?_
        refine c_pX10_arcs hx hb hts hown hK hap hP hS hf (hts _ kw_139) dX10_addArc_78 (fun σ10 H locs hP hS hf => ?_)
        refine lv_aload_n hx hb dX10_addArc_81 rfl (lv_at hl 0 rfl) ?_
        refine c_gX10_arcs hx hb hts hown hK hP (hts _ kw_139) dX10_addArc_82 ?_
        refine lv_iconst (v := 1) hx hb dX10_addArc_85 (by decide) ?_
        refine lv_isub hx hb dX10_addArc_86 ?_
        exact jr_i hx hb hr hlocks hf rfl hP hS dX10_addArc_87
      · refine lv_bipush (v := (-103)) hx hb dX10_addArc_28 (by decide) ?_
        exact jr_i hx hb hr hlocks hf rfl hP hS dX10_addArc_30
    · refine lv_bipush (v := (-101)) hx hb dX10_addArc_16 (by decide) ?_
      exact jr_i hx hb hr hlocks hf rfl hP hS dX10_addArc_18
theorem c_cX10_addArc (l : Launch) {dC : Nat → ClassId} {dI : Nat → Nat → Nat} {kA : Nat → ClassId} {ad : Nat → Nat} (hap : jw_ap 57 ad) (σ : RS) (x1 : Int32) (x2 : Int32) (x3 : Int64) (res : Int32 × RS) (hf : s_cX10_addArc σ x1 x2 x3 = some res) : jm_i l KW NW (dC, dI) vwCl (jtys kA) (jw_A 57 ad) (c_w kA ad) yX10_addArc cX10_addArc 5 .int (rm_cX10_addArc) [.ref (ad 7), .int x1, .int x2, .long x3] σ res := jm_i_of (by decide) (Nat.le_of_ble_eq_true rfl) (fun p e s m below meth c C hP hS ls hl => p_cX10_addArc C hap σ x1 x2 x3 hf s.heap [] ls hP hS hl)
end
section
theorem dX10_awakeNodes_0 : decode cX10_awakeNodes 0 = .ok (.iconst 0, 1) := by decide +kernel
theorem dX10_awakeNodes_1 : decode cX10_awakeNodes 1 = .ok (.istore_n 1, 1) := by decide +kernel
theorem dX10_awakeNodes_2 : decode cX10_awakeNodes 2 = .ok (.iconst 0, 1) := by decide +kernel
theorem dX10_awakeNodes_3 : decode cX10_awakeNodes 3 = .ok (.istore_n 2, 1) := by decide +kernel
theorem dX10_awakeNodes_4 : decode cX10_awakeNodes 4 = .ok (.iload_n 2, 1) := by decide +kernel
theorem dX10_awakeNodes_5 : decode cX10_awakeNodes 5 = .ok (.aload_n 0, 1) := by decide +kernel
theorem dX10_awakeNodes_6 : decode cX10_awakeNodes 6 = .ok (.getfield 32, 3) := by decide +kernel
theorem dX10_awakeNodes_9 : decode cX10_awakeNodes 9 = .ok (.if_icmp .ge 21, 3) := by decide +kernel
theorem dX10_awakeNodes_12 : decode cX10_awakeNodes 12 = .ok (.aload_n 0, 1) := by decide +kernel
theorem dX10_awakeNodes_13 : decode cX10_awakeNodes 13 = .ok (.getfield 15, 3) := by decide +kernel
theorem dX10_awakeNodes_16 : decode cX10_awakeNodes 16 = .ok (.iload_n 2, 1) := by decide +kernel
theorem dX10_awakeNodes_17 : decode cX10_awakeNodes 17 = .ok (.baload, 1) := by decide +kernel
theorem dX10_awakeNodes_18 : decode cX10_awakeNodes 18 = .ok (.ifCond .eq 6, 3) := by decide +kernel
theorem dX10_awakeNodes_21 : decode cX10_awakeNodes 21 = .ok (.iinc 1 1, 3) := by decide +kernel
theorem dX10_awakeNodes_24 : decode cX10_awakeNodes 24 = .ok (.iinc 2 1, 3) := by decide +kernel
theorem dX10_awakeNodes_27 : decode cX10_awakeNodes 27 = .ok (.goto (-23), 3) := by decide +kernel
theorem dX10_awakeNodes_30 : decode cX10_awakeNodes 30 = .ok (.iload_n 1, 1) := by decide +kernel
theorem dX10_awakeNodes_31 : decode cX10_awakeNodes 31 = .ok (.ireturn, 1) := by decide +kernel
theorem dX11_undo_0 : decode cX11_undo 0 = .ok (.aload_n 0, 1) := by decide +kernel
theorem dX11_undo_1 : decode cX11_undo 1 = .ok (.getfield 40, 3) := by decide +kernel
theorem dX11_undo_4 : decode cX11_undo 4 = .ok (.aload_n 0, 1) := by decide +kernel
theorem dX11_undo_5 : decode cX11_undo 5 = .ok (.getfield 19, 3) := by decide +kernel
theorem dX11_undo_8 : decode cX11_undo 8 = .ok (.invokevirtual 137, 3) := by decide +kernel
theorem dX11_undo_11 : decode cX11_undo 11 = .ok (.ireturn, 1) := by decide +kernel
theorem dX11_failed_0 : decode cX11_failed 0 = .ok (.aload_n 0, 1) := by decide +kernel
theorem dX11_failed_1 : decode cX11_failed 1 = .ok (.getfield 33, 3) := by decide +kernel
theorem dX11_failed_4 : decode cX11_failed 4 = .ok (.iload_n 1, 1) := by decide +kernel
theorem dX11_failed_5 : decode cX11_failed 5 = .ok (.invokevirtual 141, 3) := by decide +kernel
theorem dX11_failed_8 : decode cX11_failed 8 = .ok (.ireturn, 1) := by decide +kernel
theorem dX11_why_0 : decode cX11_why 0 = .ok (.aload_n 0, 1) := by decide +kernel
theorem dX11_why_1 : decode cX11_why 1 = .ok (.getfield 144, 3) := by decide +kernel
theorem dX11_why_4 : decode cX11_why 4 = .ok (.ireturn, 1) := by decide +kernel
theorem dX11_whole_0 : decode cX11_whole 0 = .ok (.aload_n 0, 1) := by decide +kernel
theorem dX11_whole_1 : decode cX11_whole 1 = .ok (.getfield 19, 3) := by decide +kernel
theorem dX11_whole_4 : decode cX11_whole 4 = .ok (.getfield 164, 3) := by decide +kernel
theorem dX11_whole_7 : decode cX11_whole 7 = .ok (.lreturn, 1) := by decide +kernel
theorem dX11_awake_0 : decode cX11_awake 0 = .ok (.aload_n 0, 1) := by decide +kernel
theorem dX11_awake_1 : decode cX11_awake 1 = .ok (.getfield 19, 3) := by decide +kernel
theorem dX11_awake_4 : decode cX11_awake 4 = .ok (.iload_n 1, 1) := by decide +kernel
theorem dX11_awake_5 : decode cX11_awake 5 = .ok (.invokevirtual 101, 3) := by decide +kernel
theorem dX11_awake_8 : decode cX11_awake 8 = .ok (.ifCond .ne 6, 3) := by decide +kernel
theorem dX11_awake_11 : decode cX11_awake 11 = .ok (.bipush (-101), 2) := by decide +kernel
theorem dX11_awake_13 : decode cX11_awake 13 = .ok (.ireturn, 1) := by decide +kernel
theorem dX11_awake_14 : decode cX11_awake 14 = .ok (.aload_n 0, 1) := by decide +kernel
theorem dX11_awake_15 : decode cX11_awake 15 = .ok (.getfield 19, 3) := by decide +kernel
theorem dX11_awake_18 : decode cX11_awake 18 = .ok (.getfield 113, 3) := by decide +kernel
theorem dX11_awake_21 : decode cX11_awake 21 = .ok (.iload_n 1, 1) := by decide +kernel
theorem dX11_awake_22 : decode cX11_awake 22 = .ok (.baload, 1) := by decide +kernel
theorem dX11_awake_23 : decode cX11_awake 23 = .ok (.ifCond .eq 7, 3) := by decide +kernel
theorem dX11_awake_26 : decode cX11_awake 26 = .ok (.iconst 1, 1) := by decide +kernel
theorem dX11_awake_27 : decode cX11_awake 27 = .ok (.goto 4, 3) := by decide +kernel
theorem dX11_awake_30 : decode cX11_awake 30 = .ok (.iconst 0, 1) := by decide +kernel
theorem dX11_awake_31 : decode cX11_awake 31 = .ok (.ireturn, 1) := by decide +kernel
theorem dX11_along_0 : decode cX11_along 0 = .ok (.aload_n 0, 1) := by decide +kernel
theorem dX11_along_1 : decode cX11_along 1 = .ok (.getfield 47, 3) := by decide +kernel
theorem dX11_along_4 : decode cX11_along 4 = .ok (.iload_n 1, 1) := by decide +kernel
theorem dX11_along_5 : decode cX11_along 5 = .ok (.invokevirtual 168, 3) := by decide +kernel
theorem dX11_along_8 : decode cX11_along 8 = .ok (.ifCond .eq 15, 3) := by decide +kernel
theorem dX11_along_11 : decode cX11_along 11 = .ok (.aload_n 0, 1) := by decide +kernel
theorem dX11_along_12 : decode cX11_along 12 = .ok (.getfield 47, 3) := by decide +kernel
theorem dX11_along_15 : decode cX11_along 15 = .ok (.getfield 169, 3) := by decide +kernel
theorem dX11_along_18 : decode cX11_along 18 = .ok (.iload_n 1, 1) := by decide +kernel
theorem dX11_along_19 : decode cX11_along 19 = .ok (.iaload, 1) := by decide +kernel
theorem dX11_along_20 : decode cX11_along 20 = .ok (.goto 5, 3) := by decide +kernel
theorem dX11_along_23 : decode cX11_along 23 = .ok (.bipush (-102), 2) := by decide +kernel
theorem dX11_along_25 : decode cX11_along 25 = .ok (.ireturn, 1) := by decide +kernel
theorem dX11_message_0 : decode cX11_message 0 = .ok (.aload_n 0, 1) := by decide +kernel
theorem dX11_message_1 : decode cX11_message 1 = .ok (.getfield 47, 3) := by decide +kernel
theorem dX11_message_4 : decode cX11_message 4 = .ok (.iload_n 1, 1) := by decide +kernel
theorem dX11_message_5 : decode cX11_message 5 = .ok (.invokevirtual 168, 3) := by decide +kernel
theorem dX11_message_8 : decode cX11_message 8 = .ok (.ifCond .eq 15, 3) := by decide +kernel
theorem dX11_message_11 : decode cX11_message 11 = .ok (.aload_n 0, 1) := by decide +kernel
theorem dX11_message_12 : decode cX11_message 12 = .ok (.getfield 47, 3) := by decide +kernel
theorem dX11_message_15 : decode cX11_message 15 = .ok (.getfield 172, 3) := by decide +kernel
theorem dX11_message_18 : decode cX11_message 18 = .ok (.iload_n 1, 1) := by decide +kernel
theorem dX11_message_19 : decode cX11_message 19 = .ok (.laload, 1) := by decide +kernel
theorem dX11_message_20 : decode cX11_message 20 = .ok (.goto 6, 3) := by decide +kernel
theorem dX11_message_23 : decode cX11_message 23 = .ok (.ldc2_w 162, 3) := by decide +kernel
theorem dX11_message_26 : decode cX11_message 26 = .ok (.lreturn, 1) := by decide +kernel
theorem dX11_count_0 : decode cX11_count 0 = .ok (.iload_n 1, 1) := by decide +kernel
theorem dX11_count_1 : decode cX11_count 1 = .ok (.tableswitch 111 0 7 #[47, 55, 63, 71, 79, 87, 95, 103], 47) := by decide +kernel
theorem dX11_count_48 : decode cX11_count 48 = .ok (.aload_n 0, 1) := by decide +kernel
theorem dX11_count_49 : decode cX11_count 49 = .ok (.getfield 10, 3) := by decide +kernel
theorem dX11_count_52 : decode cX11_count 52 = .ok (.getfield 175, 3) := by decide +kernel
theorem dX11_count_55 : decode cX11_count 55 = .ok (.ireturn, 1) := by decide +kernel
theorem dX11_count_56 : decode cX11_count 56 = .ok (.aload_n 0, 1) := by decide +kernel
theorem dX11_count_57 : decode cX11_count 57 = .ok (.getfield 19, 3) := by decide +kernel
theorem dX11_count_60 : decode cX11_count 60 = .ok (.getfield 178, 3) := by decide +kernel
theorem dX11_count_63 : decode cX11_count 63 = .ok (.ireturn, 1) := by decide +kernel
theorem dX11_count_64 : decode cX11_count 64 = .ok (.aload_n 0, 1) := by decide +kernel
theorem dX11_count_65 : decode cX11_count 65 = .ok (.getfield 19, 3) := by decide +kernel
theorem dX11_count_68 : decode cX11_count 68 = .ok (.getfield 181, 3) := by decide +kernel
theorem dX11_count_71 : decode cX11_count 71 = .ok (.ireturn, 1) := by decide +kernel
theorem dX11_count_72 : decode cX11_count 72 = .ok (.aload_n 0, 1) := by decide +kernel
theorem dX11_count_73 : decode cX11_count 73 = .ok (.getfield 19, 3) := by decide +kernel
theorem dX11_count_76 : decode cX11_count 76 = .ok (.getfield 183, 3) := by decide +kernel
theorem dX11_count_79 : decode cX11_count 79 = .ok (.ireturn, 1) := by decide +kernel
theorem dX11_count_80 : decode cX11_count 80 = .ok (.aload_n 0, 1) := by decide +kernel
theorem dX11_count_81 : decode cX11_count 81 = .ok (.getfield 19, 3) := by decide +kernel
theorem dX11_count_84 : decode cX11_count 84 = .ok (.invokevirtual 186, 3) := by decide +kernel
theorem dX11_count_87 : decode cX11_count 87 = .ok (.ireturn, 1) := by decide +kernel
theorem dX11_count_88 : decode cX11_count 88 = .ok (.aload_n 0, 1) := by decide +kernel
theorem dX11_count_89 : decode cX11_count 89 = .ok (.getfield 56, 3) := by decide +kernel
theorem dX11_count_92 : decode cX11_count 92 = .ok (.getfield 189, 3) := by decide +kernel
theorem dX11_count_95 : decode cX11_count 95 = .ok (.ireturn, 1) := by decide +kernel
theorem dX11_count_96 : decode cX11_count 96 = .ok (.aload_n 0, 1) := by decide +kernel
theorem dX11_count_97 : decode cX11_count 97 = .ok (.getfield 47, 3) := by decide +kernel
theorem dX11_count_100 : decode cX11_count 100 = .ok (.getfield 192, 3) := by decide +kernel
theorem dX11_count_103 : decode cX11_count 103 = .ok (.ireturn, 1) := by decide +kernel
theorem dX11_count_104 : decode cX11_count 104 = .ok (.aload_n 0, 1) := by decide +kernel
theorem dX11_count_105 : decode cX11_count 105 = .ok (.getfield 40, 3) := by decide +kernel
theorem dX11_count_108 : decode cX11_count 108 = .ok (.getfield 193, 3) := by decide +kernel
theorem dX11_count_111 : decode cX11_count 111 = .ok (.ireturn, 1) := by decide +kernel
theorem dX11_count_112 : decode cX11_count 112 = .ok (.bipush (-102), 2) := by decide +kernel
theorem dX11_count_114 : decode cX11_count 114 = .ok (.ireturn, 1) := by decide +kernel
theorem dX11_isState_0 : decode cX11_isState 0 = .ok (.lload_n 0, 1) := by decide +kernel
theorem dX11_isState_1 : decode cX11_isState 1 = .ok (.lconst 0, 1) := by decide +kernel
theorem dX11_isState_2 : decode cX11_isState 2 = .ok (.lcmp, 1) := by decide +kernel
theorem dX11_isState_3 : decode cX11_isState 3 = .ok (.ifCond .lt 15, 3) := by decide +kernel
theorem dX11_isState_6 : decode cX11_isState 6 = .ok (.lload_n 0, 1) := by decide +kernel
theorem dX11_isState_7 : decode cX11_isState 7 = .ok (.ldc2_w 196, 3) := by decide +kernel
theorem dX11_isState_10 : decode cX11_isState 10 = .ok (.lcmp, 1) := by decide +kernel
theorem dX11_isState_11 : decode cX11_isState 11 = .ok (.ifCond .ge 7, 3) := by decide +kernel
theorem dX11_isState_14 : decode cX11_isState 14 = .ok (.iconst 1, 1) := by decide +kernel
theorem dX11_isState_15 : decode cX11_isState 15 = .ok (.goto 4, 3) := by decide +kernel
theorem dX11_isState_18 : decode cX11_isState 18 = .ok (.iconst 0, 1) := by decide +kernel
theorem dX11_isState_19 : decode cX11_isState 19 = .ok (.ireturn, 1) := by decide +kernel
theorem dX11_changed_0 : decode cX11_changed 0 = .ok (.iload_n 1, 1) := by decide +kernel
theorem dX11_changed_1 : decode cX11_changed 1 = .ok (.iconst (-1), 1) := by decide +kernel
theorem dX11_changed_2 : decode cX11_changed 2 = .ok (.if_icmp .lt 10, 3) := by decide +kernel
theorem dX11_changed_5 : decode cX11_changed 5 = .ok (.aload_n 0, 1) := by decide +kernel
theorem dX11_changed_6 : decode cX11_changed 6 = .ok (.getfield 40, 3) := by decide +kernel
theorem dX11_changed_9 : decode cX11_changed 9 = .ok (.invokevirtual 198, 3) := by decide +kernel
theorem dX11_changed_12 : decode cX11_changed 12 = .ok (.iload_n 1, 1) := by decide +kernel
theorem dX11_changed_13 : decode cX11_changed 13 = .ok (.ireturn, 1) := by decide +kernel
theorem dX1_begin_0 : decode cX1_begin 0 = .ok (.aload_n 0, 1) := by decide +kernel
theorem dX1_begin_1 : decode cX1_begin 1 = .ok (.iconst 0, 1) := by decide +kernel
theorem dX1_begin_2 : decode cX1_begin 2 = .ok (.putfield 19, 3) := by decide +kernel
theorem dX1_begin_5 : decode cX1_begin 5 = .ok (.aload_n 0, 1) := by decide +kernel
theorem dX1_begin_6 : decode cX1_begin 6 = .ok (.iconst 0, 1) := by decide +kernel
theorem dX1_begin_7 : decode cX1_begin 7 = .ok (.putfield 23, 3) := by decide +kernel
theorem dX1_begin_10 : decode cX1_begin 10 = .ok (.aload_n 0, 1) := by decide +kernel
theorem dX1_begin_11 : decode cX1_begin 11 = .ok (.lconst 0, 1) := by decide +kernel
theorem dX1_begin_12 : decode cX1_begin 12 = .ok (.iconst 0, 1) := by decide +kernel
theorem dX1_begin_13 : decode cX1_begin 13 = .ok (.invokevirtual 26, 3) := by decide +kernel
theorem dX1_begin_16 : decode cX1_begin 16 = .ok (.return_, 1) := by decide +kernel
theorem dX1_valueOf_0 : decode cX1_valueOf 0 = .ok (.aload_n 0, 1) := by decide +kernel
theorem dX1_valueOf_1 : decode cX1_valueOf 1 = .ok (.getfield 19, 3) := by decide +kernel
theorem dX1_valueOf_4 : decode cX1_valueOf 4 = .ok (.sipush 3000, 3) := by decide +kernel
theorem dX1_valueOf_7 : decode cX1_valueOf 7 = .ok (.if_icmp .ge 10, 3) := by decide +kernel
theorem dX1_valueOf_10 : decode cX1_valueOf 10 = .ok (.iload 4, 2) := by decide +kernel
theorem dX1_valueOf_12 : decode cX1_valueOf 12 = .ok (.bipush 40, 2) := by decide +kernel
theorem dX1_valueOf_14 : decode cX1_valueOf 14 = .ok (.if_icmp .lt 9, 3) := by decide +kernel
theorem dX1_valueOf_17 : decode cX1_valueOf 17 = .ok (.aload_n 0, 1) := by decide +kernel
theorem dX1_valueOf_18 : decode cX1_valueOf 18 = .ok (.iconst 4, 1) := by decide +kernel
theorem dX1_valueOf_19 : decode cX1_valueOf 19 = .ok (.invokevirtual 37, 3) := by decide +kernel
theorem dX1_valueOf_22 : decode cX1_valueOf 22 = .ok (.lreturn, 1) := by decide +kernel
theorem dX1_valueOf_23 : decode cX1_valueOf 23 = .ok (.aload_n 0, 1) := by decide +kernel
theorem dX1_valueOf_24 : decode cX1_valueOf 24 = .ok (.dup, 1) := by decide +kernel
theorem dX1_valueOf_25 : decode cX1_valueOf 25 = .ok (.getfield 19, 3) := by decide +kernel
theorem dX1_valueOf_28 : decode cX1_valueOf 28 = .ok (.iconst 1, 1) := by decide +kernel
theorem dX1_valueOf_29 : decode cX1_valueOf 29 = .ok (.iadd, 1) := by decide +kernel
theorem dX1_valueOf_30 : decode cX1_valueOf 30 = .ok (.putfield 19, 3) := by decide +kernel
theorem dX1_valueOf_33 : decode cX1_valueOf 33 = .ok (.aload_n 0, 1) := by decide +kernel
theorem dX1_valueOf_34 : decode cX1_valueOf 34 = .ok (.dup, 1) := by decide +kernel
theorem dX1_valueOf_35 : decode cX1_valueOf 35 = .ok (.getfield 41, 3) := by decide +kernel
theorem dX1_valueOf_38 : decode cX1_valueOf 38 = .ok (.iconst 1, 1) := by decide +kernel
theorem dX1_valueOf_39 : decode cX1_valueOf 39 = .ok (.iadd, 1) := by decide +kernel
theorem dX1_valueOf_40 : decode cX1_valueOf 40 = .ok (.putfield 41, 3) := by decide +kernel
theorem dX1_valueOf_43 : decode cX1_valueOf 43 = .ok (.aload_n 0, 1) := by decide +kernel
theorem dX1_valueOf_44 : decode cX1_valueOf 44 = .ok (.getfield 9, 3) := by decide +kernel
theorem dX1_valueOf_47 : decode cX1_valueOf 47 = .ok (.getfield 44, 3) := by decide +kernel
theorem dX1_valueOf_50 : decode cX1_valueOf 50 = .ok (.iload_n 1, 1) := by decide +kernel
theorem dX1_valueOf_51 : decode cX1_valueOf 51 = .ok (.iaload, 1) := by decide +kernel
theorem dX1_valueOf_52 : decode cX1_valueOf 52 = .ok (.istore 5, 2) := by decide +kernel
theorem dX1_valueOf_54 : decode cX1_valueOf 54 = .ok (.iload 5, 2) := by decide +kernel
theorem dX1_valueOf_56 : decode cX1_valueOf 56 = .ok (.bipush 8, 2) := by decide +kernel
theorem dX1_valueOf_58 : decode cX1_valueOf 58 = .ok (.if_icmp .ge 11, 3) := by decide +kernel
theorem dX1_valueOf_61 : decode cX1_valueOf 61 = .ok (.aload_n 0, 1) := by decide +kernel
theorem dX1_valueOf_62 : decode cX1_valueOf 62 = .ok (.iload_n 1, 1) := by decide +kernel
theorem dX1_valueOf_63 : decode cX1_valueOf 63 = .ok (.iload_n 2, 1) := by decide +kernel
theorem dX1_valueOf_64 : decode cX1_valueOf 64 = .ok (.iload_n 3, 1) := by decide +kernel
theorem dX1_valueOf_65 : decode cX1_valueOf 65 = .ok (.invokevirtual 50, 3) := by decide +kernel
theorem dX1_valueOf_68 : decode cX1_valueOf 68 = .ok (.lreturn, 1) := by decide +kernel
theorem dX1_valueOf_69 : decode cX1_valueOf 69 = .ok (.aload_n 0, 1) := by decide +kernel
theorem dX1_valueOf_70 : decode cX1_valueOf 70 = .ok (.aload_n 0, 1) := by decide +kernel
theorem dX1_valueOf_71 : decode cX1_valueOf 71 = .ok (.getfield 9, 3) := by decide +kernel
theorem dX1_valueOf_74 : decode cX1_valueOf 74 = .ok (.getfield 54, 3) := by decide +kernel
theorem dX1_valueOf_77 : decode cX1_valueOf 77 = .ok (.iload_n 1, 1) := by decide +kernel
theorem dX1_valueOf_78 : decode cX1_valueOf 78 = .ok (.iaload, 1) := by decide +kernel
theorem dX1_valueOf_79 : decode cX1_valueOf 79 = .ok (.iload_n 2, 1) := by decide +kernel
theorem dX1_valueOf_80 : decode cX1_valueOf 80 = .ok (.iload_n 3, 1) := by decide +kernel
theorem dX1_valueOf_81 : decode cX1_valueOf 81 = .ok (.iload 4, 2) := by decide +kernel
theorem dX1_valueOf_83 : decode cX1_valueOf 83 = .ok (.iconst 1, 1) := by decide +kernel
theorem dX1_valueOf_84 : decode cX1_valueOf 84 = .ok (.iadd, 1) := by decide +kernel
theorem dX1_valueOf_85 : decode cX1_valueOf 85 = .ok (.invokevirtual 57, 3) := by decide +kernel
theorem dX1_valueOf_88 : decode cX1_valueOf 88 = .ok (.lstore 6, 2) := by decide +kernel
theorem dX1_valueOf_90 : decode cX1_valueOf 90 = .ok (.aload_n 0, 1) := by decide +kernel
theorem dX1_valueOf_91 : decode cX1_valueOf 91 = .ok (.getfield 23, 3) := by decide +kernel
theorem dX1_valueOf_94 : decode cX1_valueOf 94 = .ok (.ifCond .eq 5, 3) := by decide +kernel
theorem dX1_valueOf_97 : decode cX1_valueOf 97 = .ok (.lconst 0, 1) := by decide +kernel
theorem dX1_valueOf_98 : decode cX1_valueOf 98 = .ok (.lreturn, 1) := by decide +kernel
theorem dX1_valueOf_99 : decode cX1_valueOf 99 = .ok (.iload 5, 2) := by decide +kernel
theorem dX1_valueOf_101 : decode cX1_valueOf 101 = .ok (.bipush 17, 2) := by decide +kernel
theorem dX1_valueOf_103 : decode cX1_valueOf 103 = .ok (.if_icmp .ne 12, 3) := by decide +kernel
theorem dX1_valueOf_106 : decode cX1_valueOf 106 = .ok (.aload_n 0, 1) := by decide +kernel
theorem dX1_valueOf_107 : decode cX1_valueOf 107 = .ok (.iload_n 2, 1) := by decide +kernel
theorem dX1_valueOf_108 : decode cX1_valueOf 108 = .ok (.lload 6, 2) := by decide +kernel
theorem dX1_valueOf_110 : decode cX1_valueOf 110 = .ok (.l2i, 1) := by decide +kernel
theorem dX1_valueOf_111 : decode cX1_valueOf 111 = .ok (.invokevirtual 61, 3) := by decide +kernel
theorem dX1_valueOf_114 : decode cX1_valueOf 114 = .ok (.lreturn, 1) := by decide +kernel
theorem dX1_valueOf_115 : decode cX1_valueOf 115 = .ok (.iload 5, 2) := by decide +kernel
theorem dX1_valueOf_117 : decode cX1_valueOf 117 = .ok (.bipush 16, 2) := by decide +kernel
theorem dX1_valueOf_119 : decode cX1_valueOf 119 = .ok (.if_icmp .ne 42, 3) := by decide +kernel
theorem dX1_valueOf_122 : decode cX1_valueOf 122 = .ok (.aload_n 0, 1) := by decide +kernel
theorem dX1_valueOf_123 : decode cX1_valueOf 123 = .ok (.lload 6, 2) := by decide +kernel
theorem dX1_valueOf_125 : decode cX1_valueOf 125 = .ok (.lconst 0, 1) := by decide +kernel
theorem dX1_valueOf_126 : decode cX1_valueOf 126 = .ok (.lcmp, 1) := by decide +kernel
theorem dX1_valueOf_127 : decode cX1_valueOf 127 = .ok (.ifCond .eq 15, 3) := by decide +kernel
theorem dX1_valueOf_130 : decode cX1_valueOf 130 = .ok (.aload_n 0, 1) := by decide +kernel
theorem dX1_valueOf_131 : decode cX1_valueOf 131 = .ok (.getfield 9, 3) := by decide +kernel
theorem dX1_valueOf_134 : decode cX1_valueOf 134 = .ok (.getfield 65, 3) := by decide +kernel
theorem dX1_valueOf_137 : decode cX1_valueOf 137 = .ok (.iload_n 1, 1) := by decide +kernel
theorem dX1_valueOf_138 : decode cX1_valueOf 138 = .ok (.iaload, 1) := by decide +kernel
theorem dX1_valueOf_139 : decode cX1_valueOf 139 = .ok (.goto 12, 3) := by decide +kernel
theorem dX1_valueOf_142 : decode cX1_valueOf 142 = .ok (.aload_n 0, 1) := by decide +kernel
theorem dX1_valueOf_143 : decode cX1_valueOf 143 = .ok (.getfield 9, 3) := by decide +kernel
theorem dX1_valueOf_146 : decode cX1_valueOf 146 = .ok (.getfield 68, 3) := by decide +kernel
theorem dX1_valueOf_149 : decode cX1_valueOf 149 = .ok (.iload_n 1, 1) := by decide +kernel
theorem dX1_valueOf_150 : decode cX1_valueOf 150 = .ok (.iaload, 1) := by decide +kernel
theorem dX1_valueOf_151 : decode cX1_valueOf 151 = .ok (.iload_n 2, 1) := by decide +kernel
theorem dX1_valueOf_152 : decode cX1_valueOf 152 = .ok (.iload_n 3, 1) := by decide +kernel
theorem dX1_valueOf_153 : decode cX1_valueOf 153 = .ok (.iload 4, 2) := by decide +kernel
theorem dX1_valueOf_155 : decode cX1_valueOf 155 = .ok (.iconst 1, 1) := by decide +kernel
theorem dX1_valueOf_156 : decode cX1_valueOf 156 = .ok (.iadd, 1) := by decide +kernel
theorem dX1_valueOf_157 : decode cX1_valueOf 157 = .ok (.invokevirtual 57, 3) := by decide +kernel
theorem dX1_valueOf_160 : decode cX1_valueOf 160 = .ok (.lreturn, 1) := by decide +kernel
theorem dX1_valueOf_161 : decode cX1_valueOf 161 = .ok (.aload_n 0, 1) := by decide +kernel
theorem dX1_valueOf_162 : decode cX1_valueOf 162 = .ok (.aload_n 0, 1) := by decide +kernel
theorem dX1_valueOf_163 : decode cX1_valueOf 163 = .ok (.getfield 9, 3) := by decide +kernel
theorem dX1_valueOf_166 : decode cX1_valueOf 166 = .ok (.getfield 65, 3) := by decide +kernel
theorem dX1_valueOf_169 : decode cX1_valueOf 169 = .ok (.iload_n 1, 1) := by decide +kernel
theorem dX1_valueOf_170 : decode cX1_valueOf 170 = .ok (.iaload, 1) := by decide +kernel
theorem dX1_valueOf_171 : decode cX1_valueOf 171 = .ok (.iload_n 2, 1) := by decide +kernel
theorem dX1_valueOf_172 : decode cX1_valueOf 172 = .ok (.iload_n 3, 1) := by decide +kernel
theorem dX1_valueOf_173 : decode cX1_valueOf 173 = .ok (.iload 4, 2) := by decide +kernel
theorem dX1_valueOf_175 : decode cX1_valueOf 175 = .ok (.iconst 1, 1) := by decide +kernel
theorem dX1_valueOf_176 : decode cX1_valueOf 176 = .ok (.iadd, 1) := by decide +kernel
theorem dX1_valueOf_177 : decode cX1_valueOf 177 = .ok (.invokevirtual 57, 3) := by decide +kernel
theorem dX1_valueOf_180 : decode cX1_valueOf 180 = .ok (.lstore 8, 2) := by decide +kernel
theorem dX1_valueOf_182 : decode cX1_valueOf 182 = .ok (.aload_n 0, 1) := by decide +kernel
theorem dX1_valueOf_183 : decode cX1_valueOf 183 = .ok (.getfield 23, 3) := by decide +kernel
theorem dX1_valueOf_186 : decode cX1_valueOf 186 = .ok (.ifCond .eq 5, 3) := by decide +kernel
theorem dX1_valueOf_189 : decode cX1_valueOf 189 = .ok (.lconst 0, 1) := by decide +kernel
theorem dX1_valueOf_190 : decode cX1_valueOf 190 = .ok (.lreturn, 1) := by decide +kernel
theorem dX1_valueOf_191 : decode cX1_valueOf 191 = .ok (.aload_n 0, 1) := by decide +kernel
theorem dX1_valueOf_192 : decode cX1_valueOf 192 = .ok (.iload 5, 2) := by decide +kernel
theorem dX1_valueOf_194 : decode cX1_valueOf 194 = .ok (.lload 6, 2) := by decide +kernel
theorem dX1_valueOf_196 : decode cX1_valueOf 196 = .ok (.lload 8, 2) := by decide +kernel
theorem dX1_valueOf_198 : decode cX1_valueOf 198 = .ok (.invokevirtual 71, 3) := by decide +kernel
theorem dX1_valueOf_201 : decode cX1_valueOf 201 = .ok (.lreturn, 1) := by decide +kernel
def rm_cX10_awakeNodes : Room := { frames := 0, cells := 0, slots := 0, locals := 0 }
def G_cX10_awakeNodes_b24 (p : Program) (l : Launch) (e : Env) (s : State) (m : MethodId) (args : Array Value) (below : List Frame) (meth : Method) (c : Code) (dC : Nat → ClassId) (dI : Nat → Nat → Nat) (kA : Nat → ClassId) (ad : Nat → Nat) (res : Int32 × RS) (F : RS → Int32 → Int32 → Option (Int32 × RS)) : Prop := ∀ (σ : RS) (x1 : Int32) (x2 : Int32), F σ x1 x2 = some res → ∀ (H : Heap) (locs : List Loc) (ls : Array Slot), va_P (dC, dI) vwCl (c_w kA ad σ) H → va_S (jw_A 57 ad) s.heap H locs → lv_has ls 3 [(0, .ref (ad 7)), (1, .int x1), (2, .int x2)] → W p l e rm_cX10_awakeNodes s m args below meth c H locs 0 0 (c_Qi below dC dI kA ad args s res) (F0 m 24 ls [])
def G_cX10_awakeNodes_b4 (p : Program) (l : Launch) (e : Env) (s : State) (m : MethodId) (args : Array Value) (below : List Frame) (meth : Method) (c : Code) (dC : Nat → ClassId) (dI : Nat → Nat → Nat) (kA : Nat → ClassId) (ad : Nat → Nat) (res : Int32 × RS) (F : RS → Int32 → Int32 → Option (Int32 × RS)) : Prop := ∀ (σ : RS) (x1 : Int32) (x2 : Int32), F σ x1 x2 = some res → ∀ (H : Heap) (locs : List Loc) (ls : Array Slot), va_P (dC, dI) vwCl (c_w kA ad σ) H → va_S (jw_A 57 ad) s.heap H locs → lv_has ls 3 [(0, .ref (ad 7)), (1, .int x1), (2, .int x2)] → W p l e rm_cX10_awakeNodes s m args below meth c H locs 0 0 (c_Qi below dC dI kA ad args s res) (F0 m 4 ls [])
def G_cX10_awakeNodes (p : Program) (l : Launch) (e : Env) (s : State) (m : MethodId) (args : Array Value) (below : List Frame) (meth : Method) (c : Code) (dC : Nat → ClassId) (dI : Nat → Nat → Nat) (kA : Nat → ClassId) (ad : Nat → Nat) (res : Int32 × RS) (F : RS → Option (Int32 × RS)) : Prop := ∀ (σ : RS), F σ = some res → ∀ (H : Heap) (locs : List Loc) (ls : Array Slot), va_P (dC, dI) vwCl (c_w kA ad σ) H → va_S (jw_A 57 ad) s.heap H locs → lv_has ls 3 [(0, .ref (ad 7))] → W p l e rm_cX10_awakeNodes s m args below meth c H locs 0 0 (c_Qi below dC dI kA ad args s res) (F0 m 0 ls [])
def s_cX10_awakeNodes_b24 (k4 : RS → Int32 → Int32 → Option (Int32 × RS)) (σ : RS) (x1 : Int32) (x2 : Int32) : Option (Int32 × RS) := kn_v (x2 + 1) (fun v1 => k4 σ x1 v1)
set_option maxRecDepth 100000 in
set_option maxHeartbeats 4000000 in
theorem p_cX10_awakeNodes_b24 {p : Program} {l : Launch} {e : Env} {s : State} {m : MethodId} {args : Array Value} {below : List Frame} {meth : Method} {c : Code} {dC : Nat → ClassId} {dI : Nat → Nat → Nat} {kA : Nat → ClassId} {ad : Nat → Nat} (C : jxc cX10_awakeNodes (some .int) 3 RX10 p s m args meth c dC dI kA) (hap : jw_ap 57 ad) {res : Int32 × RS} {k4 : RS → Int32 → Int32 → Option (Int32 × RS)} (hk4 : G_cX10_awakeNodes_b4 p l e s m args below meth c dC dI kA ad res k4) : G_cX10_awakeNodes_b24 p l e s m args below meth c dC dI kA ad res (s_cX10_awakeNodes_b24 k4) := by
  obtain ⟨hx, hb, hml, hown, hts, hr, hlocks, hK, hN⟩ := id C
  intro σ x1 x2 hf H locs ls hP hS hl
  unfold s_cX10_awakeNodes_b24 at hf
  obtain ⟨v1, e_v1, hf⟩ := kn_v_e hf
  refine lv_iinc (v := v1) (lv' := [(2, .int v1), (0, .ref (ad 7)), (1, .int x1)]) hx hb dX10_awakeNodes_24 hl (k := 2) rfl e_v1 (by decide) rfl (fun ls hl => ?_)
  refine lv_goto (tgt := 4) hx hb dX10_awakeNodes_27 (by decide) ?_
  exact hk4 σ x1 v1 hf H locs ls hP hS (lv_sub hl [1, 2, 0] rfl)
def s_cX10_awakeNodes_b4 (k4 : RS → Int32 → Int32 → Option (Int32 × RS)) (σ : RS) (x1 : Int32) (x2 : Int32) : Option (Int32 × RS) := if (rg_I σ 2) ≤ x2 then (some (x1, σ)) else (kn_ld (rg_A σ 4) 12 x2 (fun v1 => if v1 = 0 then (s_cX10_awakeNodes_b24 k4 σ x1 x2) else (kn_v (x1 + 1) (fun v2 => s_cX10_awakeNodes_b24 k4 σ v2 x2))))
set_option maxRecDepth 100000 in
set_option maxHeartbeats 4000000 in
theorem p_cX10_awakeNodes_b4 {p : Program} {l : Launch} {e : Env} {s : State} {m : MethodId} {args : Array Value} {below : List Frame} {meth : Method} {c : Code} {dC : Nat → ClassId} {dI : Nat → Nat → Nat} {kA : Nat → ClassId} {ad : Nat → Nat} (C : jxc cX10_awakeNodes (some .int) 3 RX10 p s m args meth c dC dI kA) (hap : jw_ap 57 ad) {res : Int32 × RS} {k4 : RS → Int32 → Int32 → Option (Int32 × RS)} (hk4 : G_cX10_awakeNodes_b4 p l e s m args below meth c dC dI kA ad res k4) : G_cX10_awakeNodes_b4 p l e s m args below meth c dC dI kA ad res (s_cX10_awakeNodes_b4 k4) := by
  obtain ⟨hx, hb, hml, hown, hts, hr, hlocks, hK, hN⟩ := id C
  intro σ x1 x2 hf H locs ls hP hS hl
  unfold s_cX10_awakeNodes_b4 at hf
  refine lv_iload_n hx hb dX10_awakeNodes_4 rfl (lv_at hl 2 rfl) ?_
  refine lv_aload_n hx hb dX10_awakeNodes_5 rfl (lv_at hl 0 rfl) ?_
  refine c_gX10_nodes hx hb hts hown hK hP (hts _ kw_135) dX10_awakeNodes_6 ?_
  refine jc_ge (tgt := 30) hx hb hf dX10_awakeNodes_9 (by decide) (fun hf => ?_) (fun hf => ?_)
  · refine lv_iload_n hx hb dX10_awakeNodes_30 rfl (lv_at hl 1 rfl) ?_
    exact jr_i hx hb hr hlocks hf rfl hP hS dX10_awakeNodes_31
  · refine lv_aload_n hx hb dX10_awakeNodes_12 rfl (lv_at hl 0 rfl) ?_
    refine c_gX10_awake hx hb hts hown hK hP (hts _ kw_120) dX10_awakeNodes_13 ?_
    refine lv_iload_n hx hb dX10_awakeNodes_16 rfl (lv_at hl 2 rfl) ?_
    refine ja_zld hx hb hK hP 9 2 rfl rfl hf dX10_awakeNodes_17 (fun v1 hf => ?_)
    refine jb_eq (tgt := 24) hx hb hf dX10_awakeNodes_18 (by decide) (fun hf => ?_) (fun hf => ?_)
    · exact (p_cX10_awakeNodes_b24 C hap hk4) σ x1 x2 hf H locs ls hP hS (lv_sub hl [0, 1, 2] rfl)
    · obtain ⟨v2, e_v2, hf⟩ := kn_v_e hf
      refine lv_iinc (v := v2) (lv' := [(1, .int v2), (0, .ref (ad 7)), (2, .int x2)]) hx hb dX10_awakeNodes_21 hl (k := 1) rfl e_v2 (by decide) rfl (fun ls hl => ?_)
      exact (p_cX10_awakeNodes_b24 C hap hk4) σ v2 x2 hf H locs ls hP hS (lv_sub hl [1, 0, 2] rfl)
def f_cX10_awakeNodes_b4 : RS → Int32 → Int32 → Option (Int32 × RS) := kn_fix (fun _ _ _ => none) (s_cX10_awakeNodes_b4) FU
theorem q_cX10_awakeNodes_b4 {p : Program} {l : Launch} {e : Env} {s : State} {m : MethodId} {args : Array Value} {below : List Frame} {meth : Method} {c : Code} {dC : Nat → ClassId} {dI : Nat → Nat → Nat} {kA : Nat → ClassId} {ad : Nat → Nat} (C : jxc cX10_awakeNodes (some .int) 3 RX10 p s m args meth c dC dI kA) (hap : jw_ap 57 ad) {res : Int32 × RS} : G_cX10_awakeNodes_b4 p l e s m args below meth c dC dI kA ad res (f_cX10_awakeNodes_b4) := kn_fix_ind (G := fun F => G_cX10_awakeNodes_b4 p l e s m args below meth c dC dI kA ad res F) (fun _ _ _ hf => by cases hf) (fun k4 hk4 => p_cX10_awakeNodes_b4 C hap hk4) FU
def s_cX10_awakeNodes (σ : RS) : Option (Int32 × RS) := f_cX10_awakeNodes_b4 σ 0 0
set_option maxRecDepth 100000 in
set_option maxHeartbeats 4000000 in
theorem p_cX10_awakeNodes {p : Program} {l : Launch} {e : Env} {s : State} {m : MethodId} {args : Array Value} {below : List Frame} {meth : Method} {c : Code} {dC : Nat → ClassId} {dI : Nat → Nat → Nat} {kA : Nat → ClassId} {ad : Nat → Nat} (C : jxc cX10_awakeNodes (some .int) 3 RX10 p s m args meth c dC dI kA) (hap : jw_ap 57 ad) {res : Int32 × RS} : G_cX10_awakeNodes p l e s m args below meth c dC dI kA ad res (s_cX10_awakeNodes) := by
  obtain ⟨hx, hb, hml, hown, hts, hr, hlocks, hK, hN⟩ := id C
  intro σ hf H locs ls hP hS hl
  unfold s_cX10_awakeNodes at hf
  refine lv_iconst (v := 0) hx hb dX10_awakeNodes_0 (by decide) ?_
  refine lv_istore_n (lv' := [(1, .int 0), (0, .ref (ad 7))]) hx hb dX10_awakeNodes_1 rfl hl (by decide) rfl (fun ls hl => ?_)
  refine lv_iconst (v := 0) hx hb dX10_awakeNodes_2 (by decide) ?_
  refine lv_istore_n (lv' := [(2, .int 0), (1, .int 0), (0, .ref (ad 7))]) hx hb dX10_awakeNodes_3 rfl hl (by decide) rfl (fun ls hl => ?_)
  exact (q_cX10_awakeNodes_b4 C hap) σ 0 0 hf H locs ls hP hS (lv_sub hl [2, 1, 0] rfl)
theorem c_cX10_awakeNodes (l : Launch) {dC : Nat → ClassId} {dI : Nat → Nat → Nat} {kA : Nat → ClassId} {ad : Nat → Nat} (hap : jw_ap 57 ad) (σ : RS) (res : Int32 × RS) (hf : s_cX10_awakeNodes σ = some res) : jm_i l KW NW (dC, dI) vwCl (jtys kA) (jw_A 57 ad) (c_w kA ad) yX10_awakeNodes cX10_awakeNodes 3 .int (rm_cX10_awakeNodes) [.ref (ad 7)] σ res := jm_i_of (by decide) (Nat.le_of_ble_eq_true rfl) (fun p e s m below meth c C hP hS ls hl => p_cX10_awakeNodes C hap σ hf s.heap [] ls hP hS hl)

def rm_cX11_undo : Room := { frames := 3, cells := 0, slots := 0, locals := 60 }
def G_cX11_undo (p : Program) (l : Launch) (e : Env) (s : State) (m : MethodId) (args : Array Value) (below : List Frame) (meth : Method) (c : Code) (dC : Nat → ClassId) (dI : Nat → Nat → Nat) (kA : Nat → ClassId) (ad : Nat → Nat) (res : Int32 × RS) (F : RS → Option (Int32 × RS)) : Prop := ∀ (σ : RS), F σ = some res → ∀ (H : Heap) (locs : List Loc) (ls : Array Slot), va_P (dC, dI) vwCl (c_w kA ad σ) H → va_S (jw_A 57 ad) s.heap H locs → lv_has ls 1 [(0, .ref (ad 0))] → W p l e rm_cX11_undo s m args below meth c H locs 0 0 (c_Qi below dC dI kA ad args s res) (F0 m 0 ls [])
def s_cX11_undo (σ : RS) : Option (Int32 × RS) := kn_i (s_cX5_undoLatest σ) (fun v1 σ2 => some (v1, σ2))
set_option maxRecDepth 100000 in
set_option maxHeartbeats 4000000 in
theorem p_cX11_undo {p : Program} {l : Launch} {e : Env} {s : State} {m : MethodId} {args : Array Value} {below : List Frame} {meth : Method} {c : Code} {dC : Nat → ClassId} {dI : Nat → Nat → Nat} {kA : Nat → ClassId} {ad : Nat → Nat} (C : jxc cX11_undo (some .int) 1 RX11 p s m args meth c dC dI kA) (hap : jw_ap 57 ad) {res : Int32 × RS} : G_cX11_undo p l e s m args below meth c dC dI kA ad res (s_cX11_undo) := by
  obtain ⟨hx, hb, hml, hown, hts, hr, hlocks, hK, hN⟩ := id C
  intro σ hf H locs ls hP hS hl
  unfold s_cX11_undo at hf
  refine lv_aload_n hx hb dX11_undo_0 rfl (lv_at hl 0 rfl) ?_
  refine c_gX11_past hx hb hts hown hK hP (hts _ kw_413) dX11_undo_1 ?_
  refine lv_aload_n hx hb dX11_undo_4 rfl (lv_at hl 0 rfl) ?_
  refine c_gX11_web hx hb hts hown hK hP (hts _ kw_410) dX11_undo_5 ?_
  refine jk_i hf (fun res hres => jv_run hx hb hml hown hts hK hN c_hG c_hNW hl.1 (n := 1) (As := [.ref (ad 7)]) (rest := []) (c_cX5_undoLatest l hap σ res hres) hP (ci := 5) (q0 := 17) rfl rfl rfl kw_695 kw_692 kw_693 kw_694 kw_57 ⟨rfl, rfl⟩ (by decide +kernel) rfl ⟨Nat.le_of_ble_eq_true rfl, Nat.le_of_ble_eq_true rfl⟩ rfl (Nat.le_of_ble_eq_true rfl) dX11_undo_8) hS (fun v1 σ2 H locs hP hS hf => ?_)
  exact jr_i hx hb hr hlocks hf rfl hP hS dX11_undo_11
theorem c_cX11_undo (l : Launch) {dC : Nat → ClassId} {dI : Nat → Nat → Nat} {kA : Nat → ClassId} {ad : Nat → Nat} (hap : jw_ap 57 ad) (σ : RS) (res : Int32 × RS) (hf : s_cX11_undo σ = some res) : jm_i l KW NW (dC, dI) vwCl (jtys kA) (jw_A 57 ad) (c_w kA ad) yX11_undo cX11_undo 1 .int (rm_cX11_undo) [.ref (ad 0)] σ res := jm_i_of (by decide) (Nat.le_of_ble_eq_true rfl) (fun p e s m below meth c C hP hS ls hl => p_cX11_undo C hap σ hf s.heap [] ls hP hS hl)

def rm_cX11_failed : Room := { frames := 1, cells := 0, slots := 0, locals := 21 }
def G_cX11_failed (p : Program) (l : Launch) (e : Env) (s : State) (m : MethodId) (args : Array Value) (below : List Frame) (meth : Method) (c : Code) (dC : Nat → ClassId) (dI : Nat → Nat → Nat) (kA : Nat → ClassId) (ad : Nat → Nat) (res : Int32 × RS) (F : RS → Int32 → Option (Int32 × RS)) : Prop := ∀ (σ : RS) (x1 : Int32), F σ x1 = some res → ∀ (H : Heap) (locs : List Loc) (ls : Array Slot), va_P (dC, dI) vwCl (c_w kA ad σ) H → va_S (jw_A 57 ad) s.heap H locs → lv_has ls 2 [(0, .ref (ad 0)), (1, .int x1)] → W p l e rm_cX11_failed s m args below meth c H locs 0 0 (c_Qi below dC dI kA ad args s res) (F0 m 0 ls [])
def s_cX11_failed (σ : RS) (x1 : Int32) : Option (Int32 × RS) := kn_i (s_cX2_tell σ x1) (fun v1 σ2 => some (v1, σ2))
set_option maxRecDepth 100000 in
set_option maxHeartbeats 4000000 in
theorem p_cX11_failed {p : Program} {l : Launch} {e : Env} {s : State} {m : MethodId} {args : Array Value} {below : List Frame} {meth : Method} {c : Code} {dC : Nat → ClassId} {dI : Nat → Nat → Nat} {kA : Nat → ClassId} {ad : Nat → Nat} (C : jxc cX11_failed (some .int) 2 RX11 p s m args meth c dC dI kA) (hap : jw_ap 57 ad) {res : Int32 × RS} : G_cX11_failed p l e s m args below meth c dC dI kA ad res (s_cX11_failed) := by
  obtain ⟨hx, hb, hml, hown, hts, hr, hlocks, hK, hN⟩ := id C
  intro σ x1 hf H locs ls hP hS hl
  unfold s_cX11_failed at hf
  refine lv_aload_n hx hb dX11_failed_0 rfl (lv_at hl 0 rfl) ?_
  refine c_gX11_failure hx hb hts hown hK hP (hts _ kw_412) dX11_failed_1 ?_
  refine lv_iload_n hx hb dX11_failed_4 rfl (lv_at hl 1 rfl) ?_
  refine jk_i hf (fun res hres => jv_run hx hb hml hown hts hK hN c_hG c_hNW hl.1 (n := 1) (As := [.int x1]) (rest := []) (c_cX2_tell l hap σ x1 res hres) hP (ci := 2) (q0 := 16) rfl rfl rfl kw_703 kw_700 kw_701 kw_702 kw_56 ⟨rfl, rfl⟩ (by decide +kernel) rfl ⟨Nat.le_of_ble_eq_true rfl, Nat.le_of_ble_eq_true rfl⟩ rfl (Nat.le_of_ble_eq_true rfl) dX11_failed_5) hS (fun v1 σ2 H locs hP hS hf => ?_)
  exact jr_i hx hb hr hlocks hf rfl hP hS dX11_failed_8
theorem c_cX11_failed (l : Launch) {dC : Nat → ClassId} {dI : Nat → Nat → Nat} {kA : Nat → ClassId} {ad : Nat → Nat} (hap : jw_ap 57 ad) (σ : RS) (x1 : Int32) (res : Int32 × RS) (hf : s_cX11_failed σ x1 = some res) : jm_i l KW NW (dC, dI) vwCl (jtys kA) (jw_A 57 ad) (c_w kA ad) yX11_failed cX11_failed 2 .int (rm_cX11_failed) [.ref (ad 0), .int x1] σ res := jm_i_of (by decide) (Nat.le_of_ble_eq_true rfl) (fun p e s m below meth c C hP hS ls hl => p_cX11_failed C hap σ x1 hf s.heap [] ls hP hS hl)

def rm_cX11_why : Room := { frames := 0, cells := 0, slots := 0, locals := 0 }
def G_cX11_why (p : Program) (l : Launch) (e : Env) (s : State) (m : MethodId) (args : Array Value) (below : List Frame) (meth : Method) (c : Code) (dC : Nat → ClassId) (dI : Nat → Nat → Nat) (kA : Nat → ClassId) (ad : Nat → Nat) (res : Int32 × RS) (F : RS → Option (Int32 × RS)) : Prop := ∀ (σ : RS), F σ = some res → ∀ (H : Heap) (locs : List Loc) (ls : Array Slot), va_P (dC, dI) vwCl (c_w kA ad σ) H → va_S (jw_A 57 ad) s.heap H locs → lv_has ls 1 [(0, .ref (ad 0))] → W p l e rm_cX11_why s m args below meth c H locs 0 0 (c_Qi below dC dI kA ad args s res) (F0 m 0 ls [])
def s_cX11_why (σ : RS) : Option (Int32 × RS) := some (rg_I σ 0, σ)
set_option maxRecDepth 100000 in
set_option maxHeartbeats 4000000 in
theorem p_cX11_why {p : Program} {l : Launch} {e : Env} {s : State} {m : MethodId} {args : Array Value} {below : List Frame} {meth : Method} {c : Code} {dC : Nat → ClassId} {dI : Nat → Nat → Nat} {kA : Nat → ClassId} {ad : Nat → Nat} (C : jxc cX11_why (some .int) 1 RX11 p s m args meth c dC dI kA) (hap : jw_ap 57 ad) {res : Int32 × RS} : G_cX11_why p l e s m args below meth c dC dI kA ad res (s_cX11_why) := by
  obtain ⟨hx, hb, hml, hown, hts, hr, hlocks, hK, hN⟩ := id C
  intro σ hf H locs ls hP hS hl
  unfold s_cX11_why at hf
  refine lv_aload_n hx hb dX11_why_0 rfl (lv_at hl 0 rfl) ?_
  refine c_gX11_whyAsked hx hb hts hown hK hP (hts _ kw_419) dX11_why_1 ?_
  exact jr_i hx hb hr hlocks hf rfl hP hS dX11_why_4
theorem c_cX11_why (l : Launch) {dC : Nat → ClassId} {dI : Nat → Nat → Nat} {kA : Nat → ClassId} {ad : Nat → Nat} (hap : jw_ap 57 ad) (σ : RS) (res : Int32 × RS) (hf : s_cX11_why σ = some res) : jm_i l KW NW (dC, dI) vwCl (jtys kA) (jw_A 57 ad) (c_w kA ad) yX11_why cX11_why 1 .int (rm_cX11_why) [.ref (ad 0)] σ res := jm_i_of (by decide) (Nat.le_of_ble_eq_true rfl) (fun p e s m below meth c C hP hS ls hl => p_cX11_why C hap σ hf s.heap [] ls hP hS hl)

def rm_cX11_whole : Room := { frames := 0, cells := 0, slots := 0, locals := 0 }
def G_cX11_whole (p : Program) (l : Launch) (e : Env) (s : State) (m : MethodId) (args : Array Value) (below : List Frame) (meth : Method) (c : Code) (dC : Nat → ClassId) (dI : Nat → Nat → Nat) (kA : Nat → ClassId) (ad : Nat → Nat) (res : Int64 × RS) (F : RS → Option (Int64 × RS)) : Prop := ∀ (σ : RS), F σ = some res → ∀ (H : Heap) (locs : List Loc) (ls : Array Slot), va_P (dC, dI) vwCl (c_w kA ad σ) H → va_S (jw_A 57 ad) s.heap H locs → lv_has ls 1 [(0, .ref (ad 0))] → W p l e rm_cX11_whole s m args below meth c H locs 0 0 (c_Ql below dC dI kA ad args s res) (F0 m 0 ls [])
def s_cX11_whole (σ : RS) : Option (Int64 × RS) := some (rg_L σ 0, σ)
set_option maxRecDepth 100000 in
set_option maxHeartbeats 4000000 in
theorem p_cX11_whole {p : Program} {l : Launch} {e : Env} {s : State} {m : MethodId} {args : Array Value} {below : List Frame} {meth : Method} {c : Code} {dC : Nat → ClassId} {dI : Nat → Nat → Nat} {kA : Nat → ClassId} {ad : Nat → Nat} (C : jxc cX11_whole (some .long) 1 RX11 p s m args meth c dC dI kA) (hap : jw_ap 57 ad) {res : Int64 × RS} : G_cX11_whole p l e s m args below meth c dC dI kA ad res (s_cX11_whole) := by
  obtain ⟨hx, hb, hml, hown, hts, hr, hlocks, hK, hN⟩ := id C
  intro σ hf H locs ls hP hS hl
  unfold s_cX11_whole at hf
  refine lv_aload_n hx hb dX11_whole_0 rfl (lv_at hl 0 rfl) ?_
  refine c_gX11_web hx hb hts hown hK hP (hts _ kw_410) dX11_whole_1 ?_
  refine c_gX10_sum hx hb hts hown hK hP (hts _ kw_152) dX11_whole_4 ?_
  exact jr_l hx hb hr hlocks hf hP hS dX11_whole_7
theorem c_cX11_whole (l : Launch) {dC : Nat → ClassId} {dI : Nat → Nat → Nat} {kA : Nat → ClassId} {ad : Nat → Nat} (hap : jw_ap 57 ad) (σ : RS) (res : Int64 × RS) (hf : s_cX11_whole σ = some res) : jm_l l KW NW (dC, dI) vwCl (jtys kA) (jw_A 57 ad) (c_w kA ad) yX11_whole cX11_whole 1 (rm_cX11_whole) [.ref (ad 0)] σ res := jm_l_of (by decide) (Nat.le_of_ble_eq_true rfl) (fun p e s m below meth c C hP hS ls hl => p_cX11_whole C hap σ hf s.heap [] ls hP hS hl)

def rm_cX11_awake : Room := { frames := 1, cells := 0, slots := 0, locals := 21 }
def G_cX11_awake (p : Program) (l : Launch) (e : Env) (s : State) (m : MethodId) (args : Array Value) (below : List Frame) (meth : Method) (c : Code) (dC : Nat → ClassId) (dI : Nat → Nat → Nat) (kA : Nat → ClassId) (ad : Nat → Nat) (res : Int32 × RS) (F : RS → Int32 → Option (Int32 × RS)) : Prop := ∀ (σ : RS) (x1 : Int32), F σ x1 = some res → ∀ (H : Heap) (locs : List Loc) (ls : Array Slot), va_P (dC, dI) vwCl (c_w kA ad σ) H → va_S (jw_A 57 ad) s.heap H locs → lv_has ls 2 [(0, .ref (ad 0)), (1, .int x1)] → W p l e rm_cX11_awake s m args below meth c H locs 0 0 (c_Qi below dC dI kA ad args s res) (F0 m 0 ls [])
def s_cX11_awake (σ : RS) (x1 : Int32) : Option (Int32 × RS) := kn_i (s_cX10_hasNode σ x1) (fun v1 σ2 => if v1 = 0 then (some ((-101), σ2)) else (kn_ld (rg_A σ2 4) 12 x1 (fun v3 => if v3 = 0 then (some (0, σ2)) else (some (1, σ2)))))
set_option maxRecDepth 100000 in
set_option maxHeartbeats 4000000 in
theorem p_cX11_awake {p : Program} {l : Launch} {e : Env} {s : State} {m : MethodId} {args : Array Value} {below : List Frame} {meth : Method} {c : Code} {dC : Nat → ClassId} {dI : Nat → Nat → Nat} {kA : Nat → ClassId} {ad : Nat → Nat} (C : jxc cX11_awake (some .int) 2 RX11 p s m args meth c dC dI kA) (hap : jw_ap 57 ad) {res : Int32 × RS} : G_cX11_awake p l e s m args below meth c dC dI kA ad res (s_cX11_awake) := by
  obtain ⟨hx, hb, hml, hown, hts, hr, hlocks, hK, hN⟩ := id C
  intro σ x1 hf H locs ls hP hS hl
  unfold s_cX11_awake at hf
  refine lv_aload_n hx hb dX11_awake_0 rfl (lv_at hl 0 rfl) ?_
  refine c_gX11_web hx hb hts hown hK hP (hts _ kw_410) dX11_awake_1 ?_
  refine lv_iload_n hx hb dX11_awake_4 rfl (lv_at hl 1 rfl) ?_
  refine jk_i hf (fun res hres => jv_run hx hb hml hown hts hK hN c_hG c_hNW hl.1 (n := 1) (As := [.int x1]) (rest := []) (c_cX10_hasNode l hap σ x1 res hres) hP (ci := 10) (q0 := 7) rfl rfl rfl kw_489 kw_494 kw_487 kw_488 kw_54 ⟨rfl, rfl⟩ (by decide +kernel) rfl ⟨Nat.le_of_ble_eq_true rfl, Nat.le_of_ble_eq_true rfl⟩ rfl (Nat.le_of_ble_eq_true rfl) dX11_awake_5) hS (fun v1 σ2 H locs hP hS hf => ?_)
  refine jb_ne (tgt := 14) hx hb hf dX11_awake_8 (by decide) (fun hf => ?_) (fun hf => ?_)
  · refine lv_aload_n hx hb dX11_awake_14 rfl (lv_at hl 0 rfl) ?_
    refine c_gX11_web hx hb hts hown hK hP (hts _ kw_410) dX11_awake_15 ?_
    refine c_gX10_awake hx hb hts hown hK hP (hts _ kw_124) dX11_awake_18 ?_
    refine lv_iload_n hx hb dX11_awake_21 rfl (lv_at hl 1 rfl) ?_
    refine ja_zld hx hb hK hP 9 2 rfl rfl hf dX11_awake_22 (fun v3 hf => ?_)
    refine jb_eq (tgt := 30) hx hb hf dX11_awake_23 (by decide) (fun hf => ?_) (fun hf => ?_)
    · refine lv_iconst (v := 0) hx hb dX11_awake_30 (by decide) ?_
      exact jr_i hx hb hr hlocks hf rfl hP hS dX11_awake_31
    · refine lv_iconst (v := 1) hx hb dX11_awake_26 (by decide) ?_
      refine lv_goto (tgt := 31) hx hb dX11_awake_27 (by decide) ?_
      exact jr_i hx hb hr hlocks hf rfl hP hS dX11_awake_31
  · refine lv_bipush (v := (-101)) hx hb dX11_awake_11 (by decide) ?_
    exact jr_i hx hb hr hlocks hf rfl hP hS dX11_awake_13
theorem c_cX11_awake (l : Launch) {dC : Nat → ClassId} {dI : Nat → Nat → Nat} {kA : Nat → ClassId} {ad : Nat → Nat} (hap : jw_ap 57 ad) (σ : RS) (x1 : Int32) (res : Int32 × RS) (hf : s_cX11_awake σ x1 = some res) : jm_i l KW NW (dC, dI) vwCl (jtys kA) (jw_A 57 ad) (c_w kA ad) yX11_awake cX11_awake 2 .int (rm_cX11_awake) [.ref (ad 0), .int x1] σ res := jm_i_of (by decide) (Nat.le_of_ble_eq_true rfl) (fun p e s m below meth c C hP hS ls hl => p_cX11_awake C hap σ x1 hf s.heap [] ls hP hS hl)

def rm_cX11_along : Room := { frames := 1, cells := 0, slots := 0, locals := 21 }
def G_cX11_along (p : Program) (l : Launch) (e : Env) (s : State) (m : MethodId) (args : Array Value) (below : List Frame) (meth : Method) (c : Code) (dC : Nat → ClassId) (dI : Nat → Nat → Nat) (kA : Nat → ClassId) (ad : Nat → Nat) (res : Int32 × RS) (F : RS → Int32 → Option (Int32 × RS)) : Prop := ∀ (σ : RS) (x1 : Int32), F σ x1 = some res → ∀ (H : Heap) (locs : List Loc) (ls : Array Slot), va_P (dC, dI) vwCl (c_w kA ad σ) H → va_S (jw_A 57 ad) s.heap H locs → lv_has ls 2 [(0, .ref (ad 0)), (1, .int x1)] → W p l e rm_cX11_along s m args below meth c H locs 0 0 (c_Qi below dC dI kA ad args s res) (F0 m 0 ls [])
def s_cX11_along (σ : RS) (x1 : Int32) : Option (Int32 × RS) := kn_i (s_cX9_has σ x1) (fun v1 σ2 => if v1 = 0 then (some ((-102), σ2)) else (kn_ld (rg_A σ2 9) 200 x1 (fun v3 => some (v3, σ2))))
set_option maxRecDepth 100000 in
set_option maxHeartbeats 4000000 in
theorem p_cX11_along {p : Program} {l : Launch} {e : Env} {s : State} {m : MethodId} {args : Array Value} {below : List Frame} {meth : Method} {c : Code} {dC : Nat → ClassId} {dI : Nat → Nat → Nat} {kA : Nat → ClassId} {ad : Nat → Nat} (C : jxc cX11_along (some .int) 2 RX11 p s m args meth c dC dI kA) (hap : jw_ap 57 ad) {res : Int32 × RS} : G_cX11_along p l e s m args below meth c dC dI kA ad res (s_cX11_along) := by
  obtain ⟨hx, hb, hml, hown, hts, hr, hlocks, hK, hN⟩ := id C
  intro σ x1 hf H locs ls hP hS hl
  unfold s_cX11_along at hf
  refine lv_aload_n hx hb dX11_along_0 rfl (lv_at hl 0 rfl) ?_
  refine c_gX11_told hx hb hts hown hK hP (hts _ kw_414) dX11_along_1 ?_
  refine lv_iload_n hx hb dX11_along_4 rfl (lv_at hl 1 rfl) ?_
  refine jk_i hf (fun res hres => jv_run hx hb hml hown hts hK hN c_hG c_hNW hl.1 (n := 1) (As := [.int x1]) (rest := []) (c_cX9_has l hap σ x1 res hres) hP (ci := 9) (q0 := 19) rfl rfl rfl kw_739 kw_736 kw_737 kw_738 kw_59 ⟨rfl, rfl⟩ (by decide +kernel) rfl ⟨Nat.le_of_ble_eq_true rfl, Nat.le_of_ble_eq_true rfl⟩ rfl (Nat.le_of_ble_eq_true rfl) dX11_along_5) hS (fun v1 σ2 H locs hP hS hf => ?_)
  refine jb_eq (tgt := 23) hx hb hf dX11_along_8 (by decide) (fun hf => ?_) (fun hf => ?_)
  · refine lv_bipush (v := (-102)) hx hb dX11_along_23 (by decide) ?_
    exact jr_i hx hb hr hlocks hf rfl hP hS dX11_along_25
  · refine lv_aload_n hx hb dX11_along_11 rfl (lv_at hl 0 rfl) ?_
    refine c_gX11_told hx hb hts hown hK hP (hts _ kw_414) dX11_along_12 ?_
    refine c_gX9_arcs hx hb hts hown hK hP (hts _ kw_257) dX11_along_15 ?_
    refine lv_iload_n hx hb dX11_along_18 rfl (lv_at hl 1 rfl) ?_
    refine ja_ild hx hb hK hP 20 0 rfl rfl hf dX11_along_19 (fun v3 hf => ?_)
    refine lv_goto (tgt := 25) hx hb dX11_along_20 (by decide) ?_
    exact jr_i hx hb hr hlocks hf rfl hP hS dX11_along_25
theorem c_cX11_along (l : Launch) {dC : Nat → ClassId} {dI : Nat → Nat → Nat} {kA : Nat → ClassId} {ad : Nat → Nat} (hap : jw_ap 57 ad) (σ : RS) (x1 : Int32) (res : Int32 × RS) (hf : s_cX11_along σ x1 = some res) : jm_i l KW NW (dC, dI) vwCl (jtys kA) (jw_A 57 ad) (c_w kA ad) yX11_along cX11_along 2 .int (rm_cX11_along) [.ref (ad 0), .int x1] σ res := jm_i_of (by decide) (Nat.le_of_ble_eq_true rfl) (fun p e s m below meth c C hP hS ls hl => p_cX11_along C hap σ x1 hf s.heap [] ls hP hS hl)

def rm_cX11_message : Room := { frames := 1, cells := 0, slots := 0, locals := 21 }
def G_cX11_message (p : Program) (l : Launch) (e : Env) (s : State) (m : MethodId) (args : Array Value) (below : List Frame) (meth : Method) (c : Code) (dC : Nat → ClassId) (dI : Nat → Nat → Nat) (kA : Nat → ClassId) (ad : Nat → Nat) (res : Int64 × RS) (F : RS → Int32 → Option (Int64 × RS)) : Prop := ∀ (σ : RS) (x1 : Int32), F σ x1 = some res → ∀ (H : Heap) (locs : List Loc) (ls : Array Slot), va_P (dC, dI) vwCl (c_w kA ad σ) H → va_S (jw_A 57 ad) s.heap H locs → lv_has ls 2 [(0, .ref (ad 0)), (1, .int x1)] → W p l e rm_cX11_message s m args below meth c H locs 0 0 (c_Ql below dC dI kA ad args s res) (F0 m 0 ls [])
def s_cX11_message (σ : RS) (x1 : Int32) : Option (Int64 × RS) := kn_i (s_cX9_has σ x1) (fun v1 σ2 => if v1 = 0 then (some ((-102), σ2)) else (kn_ld (rg_B σ2 3) 200 x1 (fun v3 => some (v3, σ2))))
set_option maxRecDepth 100000 in
set_option maxHeartbeats 4000000 in
theorem p_cX11_message {p : Program} {l : Launch} {e : Env} {s : State} {m : MethodId} {args : Array Value} {below : List Frame} {meth : Method} {c : Code} {dC : Nat → ClassId} {dI : Nat → Nat → Nat} {kA : Nat → ClassId} {ad : Nat → Nat} (C : jxc cX11_message (some .long) 2 RX11 p s m args meth c dC dI kA) (hap : jw_ap 57 ad) {res : Int64 × RS} : G_cX11_message p l e s m args below meth c dC dI kA ad res (s_cX11_message) := by
  obtain ⟨hx, hb, hml, hown, hts, hr, hlocks, hK, hN⟩ := id C
  intro σ x1 hf H locs ls hP hS hl
  unfold s_cX11_message at hf
  refine lv_aload_n hx hb dX11_message_0 rfl (lv_at hl 0 rfl) ?_
  refine c_gX11_told hx hb hts hown hK hP (hts _ kw_414) dX11_message_1 ?_
  refine lv_iload_n hx hb dX11_message_4 rfl (lv_at hl 1 rfl) ?_
  refine jk_i hf (fun res hres => jv_run hx hb hml hown hts hK hN c_hG c_hNW hl.1 (n := 1) (As := [.int x1]) (rest := []) (c_cX9_has l hap σ x1 res hres) hP (ci := 9) (q0 := 19) rfl rfl rfl kw_739 kw_736 kw_737 kw_738 kw_59 ⟨rfl, rfl⟩ (by decide +kernel) rfl ⟨Nat.le_of_ble_eq_true rfl, Nat.le_of_ble_eq_true rfl⟩ rfl (Nat.le_of_ble_eq_true rfl) dX11_message_5) hS (fun v1 σ2 H locs hP hS hf => ?_)
  refine jb_eq (tgt := 23) hx hb hf dX11_message_8 (by decide) (fun hf => ?_) (fun hf => ?_)
  · refine lv_ldc2 (v := (-102)) hx hb hown (hts _ kw_723) dX11_message_23 ?_
    exact jr_l hx hb hr hlocks hf hP hS dX11_message_26
  · refine lv_aload_n hx hb dX11_message_11 rfl (lv_at hl 0 rfl) ?_
    refine c_gX11_told hx hb hts hown hK hP (hts _ kw_414) dX11_message_12 ?_
    refine c_gX9_values hx hb hts hown hK hP (hts _ kw_259) dX11_message_15 ?_
    refine lv_iload_n hx hb dX11_message_18 rfl (lv_at hl 1 rfl) ?_
    refine ja_lld hx hb hK hP 21 1 rfl rfl hf dX11_message_19 (fun v3 hf => ?_)
    refine lv_goto (tgt := 26) hx hb dX11_message_20 (by decide) ?_
    exact jr_l hx hb hr hlocks hf hP hS dX11_message_26
theorem c_cX11_message (l : Launch) {dC : Nat → ClassId} {dI : Nat → Nat → Nat} {kA : Nat → ClassId} {ad : Nat → Nat} (hap : jw_ap 57 ad) (σ : RS) (x1 : Int32) (res : Int64 × RS) (hf : s_cX11_message σ x1 = some res) : jm_l l KW NW (dC, dI) vwCl (jtys kA) (jw_A 57 ad) (c_w kA ad) yX11_message cX11_message 2 (rm_cX11_message) [.ref (ad 0), .int x1] σ res := jm_l_of (by decide) (Nat.le_of_ble_eq_true rfl) (fun p e s m below meth c C hP hS ls hl => p_cX11_message C hap σ x1 hf s.heap [] ls hP hS hl)

def rm_cX11_count : Room := { frames := 1, cells := 0, slots := 0, locals := 22 }
def G_cX11_count (p : Program) (l : Launch) (e : Env) (s : State) (m : MethodId) (args : Array Value) (below : List Frame) (meth : Method) (c : Code) (dC : Nat → ClassId) (dI : Nat → Nat → Nat) (kA : Nat → ClassId) (ad : Nat → Nat) (res : Int32 × RS) (F : RS → Int32 → Option (Int32 × RS)) : Prop := ∀ (σ : RS) (x1 : Int32), F σ x1 = some res → ∀ (H : Heap) (locs : List Loc) (ls : Array Slot), va_P (dC, dI) vwCl (c_w kA ad σ) H → va_S (jw_A 57 ad) s.heap H locs → lv_has ls 2 [(0, .ref (ad 0)), (1, .int x1)] → W p l e rm_cX11_count s m args below meth c H locs 0 0 (c_Qi below dC dI kA ad args s res) (F0 m 0 ls [])
def s_cX11_count (σ : RS) (x1 : Int32) : Option (Int32 × RS) := if x1 = 0 then (some (rg_I σ 1, σ)) else (if x1 = 1 then (some (rg_I σ 2, σ)) else (if x1 = 2 then (some (rg_I σ 3, σ)) else (if x1 = 3 then (some (rg_I σ 4, σ)) else (if x1 = 4 then (kn_i (s_cX10_awakeNodes σ) (fun v6 σ7 => some (v6, σ7))) else (if x1 = 5 then (some (rg_I σ 17, σ)) else (if x1 = 6 then (some (rg_I σ 13, σ)) else (if x1 = 7 then (some (rg_I σ 12, σ)) else (some ((-102), σ)))))))))
set_option maxRecDepth 100000 in
set_option maxHeartbeats 4000000 in
theorem p_cX11_count {p : Program} {l : Launch} {e : Env} {s : State} {m : MethodId} {args : Array Value} {below : List Frame} {meth : Method} {c : Code} {dC : Nat → ClassId} {dI : Nat → Nat → Nat} {kA : Nat → ClassId} {ad : Nat → Nat} (C : jxc cX11_count (some .int) 2 RX11 p s m args meth c dC dI kA) (hap : jw_ap 57 ad) {res : Int32 × RS} : G_cX11_count p l e s m args below meth c dC dI kA ad res (s_cX11_count) := by
  obtain ⟨hx, hb, hml, hown, hts, hr, hlocks, hK, hN⟩ := id C
  intro σ x1 hf H locs ls hP hS hl
  unfold s_cX11_count at hf
  refine lv_iload_n hx hb dX11_count_0 rfl (lv_at hl 1 rfl) ?_
  by_cases c1 : x1 = 0
  · have hf := kn_t hf c1
    refine lv_tableIn (tgt := 48) hx hb dX11_count_1 (by rw [c1]; decide) (by rw [c1]; decide) (by rw [c1]; rfl) (by decide) ?_
    refine lv_aload_n hx hb dX11_count_48 rfl (lv_at hl 0 rfl) ?_
    refine c_gX11_terms hx hb hts hown hK hP (hts _ kw_409) dX11_count_49 ?_
    refine c_gX8_size hx hb hts hown hK hP (hts _ kw_92) dX11_count_52 ?_
    exact jr_i hx hb hr hlocks hf rfl hP hS dX11_count_55
  · have hf := kn_f hf c1
    by_cases c2 : x1 = 1
    · have hf := kn_t hf c2
      refine lv_tableIn (tgt := 56) hx hb dX11_count_1 (by rw [c2]; decide) (by rw [c2]; decide) (by rw [c2]; rfl) (by decide) ?_
      refine lv_aload_n hx hb dX11_count_56 rfl (lv_at hl 0 rfl) ?_
      refine c_gX11_web hx hb hts hown hK hP (hts _ kw_410) dX11_count_57 ?_
      refine c_gX10_nodes hx hb hts hown hK hP (hts _ kw_138) dX11_count_60 ?_
      exact jr_i hx hb hr hlocks hf rfl hP hS dX11_count_63
    · have hf := kn_f hf c2
      by_cases c3 : x1 = 2
      · have hf := kn_t hf c3
        refine lv_tableIn (tgt := 64) hx hb dX11_count_1 (by rw [c3]; decide) (by rw [c3]; decide) (by rw [c3]; rfl) (by decide) ?_
        refine lv_aload_n hx hb dX11_count_64 rfl (lv_at hl 0 rfl) ?_
        refine c_gX11_web hx hb hts hown hK hP (hts _ kw_410) dX11_count_65 ?_
        refine c_gX10_arcs hx hb hts hown hK hP (hts _ kw_142) dX11_count_68 ?_
        exact jr_i hx hb hr hlocks hf rfl hP hS dX11_count_71
      · have hf := kn_f hf c3
        by_cases c4 : x1 = 3
        · have hf := kn_t hf c4
          refine lv_tableIn (tgt := 72) hx hb dX11_count_1 (by rw [c4]; decide) (by rw [c4]; decide) (by rw [c4]; rfl) (by decide) ?_
          refine lv_aload_n hx hb dX11_count_72 rfl (lv_at hl 0 rfl) ?_
          refine c_gX11_web hx hb hts hown hK hP (hts _ kw_410) dX11_count_73 ?_
          refine c_gX10_rounds hx hb hts hown hK hP (hts _ kw_148) dX11_count_76 ?_
          exact jr_i hx hb hr hlocks hf rfl hP hS dX11_count_79
        · have hf := kn_f hf c4
          by_cases c5 : x1 = 4
          · have hf := kn_t hf c5
            refine lv_tableIn (tgt := 80) hx hb dX11_count_1 (by rw [c5]; decide) (by rw [c5]; decide) (by rw [c5]; rfl) (by decide) ?_
            refine lv_aload_n hx hb dX11_count_80 rfl (lv_at hl 0 rfl) ?_
            refine c_gX11_web hx hb hts hown hK hP (hts _ kw_410) dX11_count_81 ?_
            refine jk_i hf (fun res hres => jv_run hx hb hml hown hts hK hN c_hG c_hNW hl.1 (n := 0) (As := []) (rest := []) (c_cX10_awakeNodes l hap σ res hres) hP (ci := 10) (q0 := 7) rfl rfl rfl kw_615 kw_748 kw_613 kw_614 kw_54 ⟨rfl, rfl⟩ (by decide +kernel) rfl ⟨Nat.le_of_ble_eq_true rfl, Nat.le_of_ble_eq_true rfl⟩ rfl (Nat.le_of_ble_eq_true rfl) dX11_count_84) hS (fun v6 σ7 H locs hP hS hf => ?_)
            exact jr_i hx hb hr hlocks hf rfl hP hS dX11_count_87
          · have hf := kn_f hf c5
            by_cases c8 : x1 = 5
            · have hf := kn_t hf c8
              refine lv_tableIn (tgt := 88) hx hb dX11_count_1 (by rw [c8]; decide) (by rw [c8]; decide) (by rw [c8]; rfl) (by decide) ?_
              refine lv_aload_n hx hb dX11_count_88 rfl (lv_at hl 0 rfl) ?_
              refine c_gX11_asker hx hb hts hown hK hP (hts _ kw_415) dX11_count_89 ?_
              refine c_gX1_allSteps hx hb hts hown hK hP (hts _ kw_284) dX11_count_92 ?_
              exact jr_i hx hb hr hlocks hf rfl hP hS dX11_count_95
            · have hf := kn_f hf c8
              by_cases c9 : x1 = 6
              · have hf := kn_t hf c9
                refine lv_tableIn (tgt := 96) hx hb dX11_count_1 (by rw [c9]; decide) (by rw [c9]; decide) (by rw [c9]; rfl) (by decide) ?_
                refine lv_aload_n hx hb dX11_count_96 rfl (lv_at hl 0 rfl) ?_
                refine c_gX11_told hx hb hts hown hK hP (hts _ kw_414) dX11_count_97 ?_
                refine c_gX9_size hx hb hts hown hK hP (hts _ kw_261) dX11_count_100 ?_
                exact jr_i hx hb hr hlocks hf rfl hP hS dX11_count_103
              · have hf := kn_f hf c9
                by_cases c10 : x1 = 7
                · have hf := kn_t hf c10
                  refine lv_tableIn (tgt := 104) hx hb dX11_count_1 (by rw [c10]; decide) (by rw [c10]; decide) (by rw [c10]; rfl) (by decide) ?_
                  refine lv_aload_n hx hb dX11_count_104 rfl (lv_at hl 0 rfl) ?_
                  refine c_gX11_past hx hb hts hown hK hP (hts _ kw_413) dX11_count_105 ?_
                  refine c_gX5_kept hx hb hts hown hK hP (hts _ kw_242) dX11_count_108 ?_
                  exact jr_i hx hb hr hlocks hf rfl hP hS dX11_count_111
                · have hf := kn_f hf c10
                  refine lv_tableOut (tgt := 112) hx hb dX11_count_1 (by have t0 := lv_neT c1 (a := 0) (by decide); have t1 := lv_neT c2 (a := 1) (by decide); have t2 := lv_neT c3 (a := 2) (by decide); have t3 := lv_neT c4 (a := 3) (by decide); have t4 := lv_neT c5 (a := 4) (by decide); have t5 := lv_neT c8 (a := 5) (by decide); have t6 := lv_neT c9 (a := 6) (by decide); have t7 := lv_neT c10 (a := 7) (by decide); omega) (by decide) ?_
                  refine lv_bipush (v := (-102)) hx hb dX11_count_112 (by decide) ?_
                  exact jr_i hx hb hr hlocks hf rfl hP hS dX11_count_114
theorem c_cX11_count (l : Launch) {dC : Nat → ClassId} {dI : Nat → Nat → Nat} {kA : Nat → ClassId} {ad : Nat → Nat} (hap : jw_ap 57 ad) (σ : RS) (x1 : Int32) (res : Int32 × RS) (hf : s_cX11_count σ x1 = some res) : jm_i l KW NW (dC, dI) vwCl (jtys kA) (jw_A 57 ad) (c_w kA ad) yX11_count cX11_count 2 .int (rm_cX11_count) [.ref (ad 0), .int x1] σ res := jm_i_of (by decide) (Nat.le_of_ble_eq_true rfl) (fun p e s m below meth c C hP hS ls hl => p_cX11_count C hap σ x1 hf s.heap [] ls hP hS hl)

def rm_cX11_isState : Room := { frames := 0, cells := 0, slots := 0, locals := 0 }
def G_cX11_isState (p : Program) (l : Launch) (e : Env) (s : State) (m : MethodId) (args : Array Value) (below : List Frame) (meth : Method) (c : Code) (dC : Nat → ClassId) (dI : Nat → Nat → Nat) (kA : Nat → ClassId) (ad : Nat → Nat) (res : Int32 × RS) (F : RS → Int64 → Option (Int32 × RS)) : Prop := ∀ (σ : RS) (x0 : Int64), F σ x0 = some res → ∀ (H : Heap) (locs : List Loc) (ls : Array Slot), va_P (dC, dI) vwCl (c_w kA ad σ) H → va_S (jw_A 57 ad) s.heap H locs → lv_has ls 2 [(0, .long x0)] → W p l e rm_cX11_isState s m args below meth c H locs 0 0 (c_Qi below dC dI kA ad args s res) (F0 m 0 ls [])
def s_cX11_isState (σ : RS) (x0 : Int64) : Option (Int32 × RS) := if x0 < 0 then (some (0, σ)) else (if 3 ≤ x0 then (some (0, σ)) else (some (1, σ)))
set_option maxRecDepth 100000 in
set_option maxHeartbeats 4000000 in
theorem p_cX11_isState {p : Program} {l : Launch} {e : Env} {s : State} {m : MethodId} {args : Array Value} {below : List Frame} {meth : Method} {c : Code} {dC : Nat → ClassId} {dI : Nat → Nat → Nat} {kA : Nat → ClassId} {ad : Nat → Nat} (C : jxc cX11_isState (some .boolean) 2 RX11 p s m args meth c dC dI kA) (hap : jw_ap 57 ad) {res : Int32 × RS} : G_cX11_isState p l e s m args below meth c dC dI kA ad res (s_cX11_isState) := by
  obtain ⟨hx, hb, hml, hown, hts, hr, hlocks, hK, hN⟩ := id C
  intro σ x0 hf H locs ls hP hS hl
  unfold s_cX11_isState at hf
  refine lv_lload_n hx hb dX11_isState_0 rfl (lv_at hl 0 rfl) ?_
  refine lv_lconst (v := 0) hx hb dX11_isState_1 (by decide) ?_
  refine jl_lt (tgt := 18) hx hb hf dX11_isState_2 dX11_isState_3 (by decide) (fun hf => ?_) (fun hf => ?_)
  · refine lv_iconst (v := 0) hx hb dX11_isState_18 (by decide) ?_
    exact jr_i hx hb hr hlocks hf (by decide) hP hS dX11_isState_19
  · refine lv_lload_n hx hb dX11_isState_6 rfl (lv_at hl 0 rfl) ?_
    refine lv_ldc2 (v := 3) hx hb hown (hts _ kw_461) dX11_isState_7 ?_
    refine jl_ge (tgt := 18) hx hb hf dX11_isState_10 dX11_isState_11 (by decide) (fun hf => ?_) (fun hf => ?_)
    · refine lv_iconst (v := 0) hx hb dX11_isState_18 (by decide) ?_
      exact jr_i hx hb hr hlocks hf (by decide) hP hS dX11_isState_19
    · refine lv_iconst (v := 1) hx hb dX11_isState_14 (by decide) ?_
      refine lv_goto (tgt := 19) hx hb dX11_isState_15 (by decide) ?_
      exact jr_i hx hb hr hlocks hf (by decide) hP hS dX11_isState_19
theorem c_cX11_isState (l : Launch) {dC : Nat → ClassId} {dI : Nat → Nat → Nat} {kA : Nat → ClassId} {ad : Nat → Nat} (hap : jw_ap 57 ad) (σ : RS) (x0 : Int64) (res : Int32 × RS) (hf : s_cX11_isState σ x0 = some res) : jm_i l KW NW (dC, dI) vwCl (jtys kA) (jw_A 57 ad) (c_w kA ad) yX11_isState cX11_isState 2 .boolean (rm_cX11_isState) [.long x0] σ res := jm_i_of (by decide) (Nat.le_of_ble_eq_true rfl) (fun p e s m below meth c C hP hS ls hl => p_cX11_isState C hap σ x0 hf s.heap [] ls hP hS hl)

def rm_cX11_changed : Room := { frames := 1, cells := 0, slots := 0, locals := 20 }
def G_cX11_changed (p : Program) (l : Launch) (e : Env) (s : State) (m : MethodId) (args : Array Value) (below : List Frame) (meth : Method) (c : Code) (dC : Nat → ClassId) (dI : Nat → Nat → Nat) (kA : Nat → ClassId) (ad : Nat → Nat) (res : Int32 × RS) (F : RS → Int32 → Option (Int32 × RS)) : Prop := ∀ (σ : RS) (x1 : Int32), F σ x1 = some res → ∀ (H : Heap) (locs : List Loc) (ls : Array Slot), va_P (dC, dI) vwCl (c_w kA ad σ) H → va_S (jw_A 57 ad) s.heap H locs → lv_has ls 2 [(0, .ref (ad 0)), (1, .int x1)] → W p l e rm_cX11_changed s m args below meth c H locs 0 0 (c_Qi below dC dI kA ad args s res) (F0 m 0 ls [])
def s_cX11_changed (σ : RS) (x1 : Int32) : Option (Int32 × RS) := if x1 < (-1) then (some (x1, σ)) else (kn_u (s_cX5_forget σ) (fun σ2 => some (x1, σ2)))
set_option maxRecDepth 100000 in
set_option maxHeartbeats 4000000 in
theorem p_cX11_changed {p : Program} {l : Launch} {e : Env} {s : State} {m : MethodId} {args : Array Value} {below : List Frame} {meth : Method} {c : Code} {dC : Nat → ClassId} {dI : Nat → Nat → Nat} {kA : Nat → ClassId} {ad : Nat → Nat} (C : jxc cX11_changed (some .int) 2 RX11 p s m args meth c dC dI kA) (hap : jw_ap 57 ad) {res : Int32 × RS} : G_cX11_changed p l e s m args below meth c dC dI kA ad res (s_cX11_changed) := by
  obtain ⟨hx, hb, hml, hown, hts, hr, hlocks, hK, hN⟩ := id C
  intro σ x1 hf H locs ls hP hS hl
  unfold s_cX11_changed at hf
  refine lv_iload_n hx hb dX11_changed_0 rfl (lv_at hl 1 rfl) ?_
  refine lv_iconst (v := (-1)) hx hb dX11_changed_1 (by decide) ?_
  refine jc_lt (tgt := 12) hx hb hf dX11_changed_2 (by decide) (fun hf => ?_) (fun hf => ?_)
  · refine lv_iload_n hx hb dX11_changed_12 rfl (lv_at hl 1 rfl) ?_
    exact jr_i hx hb hr hlocks hf rfl hP hS dX11_changed_13
  · refine lv_aload_n hx hb dX11_changed_5 rfl (lv_at hl 0 rfl) ?_
    refine c_gX11_past hx hb hts hown hK hP (hts _ kw_413) dX11_changed_6 ?_
    refine jk_u hf (fun res hres => jv_run hx hb hml hown hts hK hN c_hG c_hNW hl.1 (n := 0) (As := []) (rest := []) (c_cX5_forget l hap σ res hres) hP (ci := 5) (q0 := 17) rfl rfl rfl kw_477 kw_474 kw_475 kw_476 kw_57 ⟨rfl, rfl⟩ (by decide +kernel) rfl ⟨Nat.le_of_ble_eq_true rfl, Nat.le_of_ble_eq_true rfl⟩ rfl (Nat.le_of_ble_eq_true rfl) dX11_changed_9) hS (fun σ2 H locs hP hS hf => ?_)
    refine lv_iload_n hx hb dX11_changed_12 rfl (lv_at hl 1 rfl) ?_
    exact jr_i hx hb hr hlocks hf rfl hP hS dX11_changed_13
theorem c_cX11_changed (l : Launch) {dC : Nat → ClassId} {dI : Nat → Nat → Nat} {kA : Nat → ClassId} {ad : Nat → Nat} (hap : jw_ap 57 ad) (σ : RS) (x1 : Int32) (res : Int32 × RS) (hf : s_cX11_changed σ x1 = some res) : jm_i l KW NW (dC, dI) vwCl (jtys kA) (jw_A 57 ad) (c_w kA ad) yX11_changed cX11_changed 2 .int (rm_cX11_changed) [.ref (ad 0), .int x1] σ res := jm_i_of (by decide) (Nat.le_of_ble_eq_true rfl) (fun p e s m below meth c C hP hS ls hl => p_cX11_changed C hap σ x1 hf s.heap [] ls hP hS hl)

def rm_cX1_begin : Room := { frames := 1, cells := 0, slots := 0, locals := 23 }
def G_cX1_begin (p : Program) (l : Launch) (e : Env) (s : State) (m : MethodId) (args : Array Value) (below : List Frame) (meth : Method) (c : Code) (dC : Nat → ClassId) (dI : Nat → Nat → Nat) (kA : Nat → ClassId) (ad : Nat → Nat) (res : RS) (F : RS → Option (RS)) : Prop := ∀ (σ : RS), F σ = some res → ∀ (H : Heap) (locs : List Loc) (ls : Array Slot), va_P (dC, dI) vwCl (c_w kA ad σ) H → va_S (jw_A 57 ad) s.heap H locs → lv_has ls 1 [(0, .ref (ad 22))] → W p l e rm_cX1_begin s m args below meth c H locs 0 0 (c_Qu below dC dI kA ad args s res) (F0 m 0 ls [])
def s_cX1_begin (σ : RS) : Option (RS) := kn_v (rs_I σ 15 0) (fun σ1 => kn_v (rs_I σ1 16 0) (fun σ2 => kn_u (s_cX1_setFolded σ2 0 0) (fun σ4 => some σ4)))
set_option maxRecDepth 100000 in
set_option maxHeartbeats 4000000 in
theorem p_cX1_begin {p : Program} {l : Launch} {e : Env} {s : State} {m : MethodId} {args : Array Value} {below : List Frame} {meth : Method} {c : Code} {dC : Nat → ClassId} {dI : Nat → Nat → Nat} {kA : Nat → ClassId} {ad : Nat → Nat} (C : jxc cX1_begin none 1 RX1 p s m args meth c dC dI kA) (hap : jw_ap 57 ad) {res : RS} : G_cX1_begin p l e s m args below meth c dC dI kA ad res (s_cX1_begin) := by
  obtain ⟨hx, hb, hml, hown, hts, hr, hlocks, hK, hN⟩ := id C
  intro σ hf H locs ls hP hS hl
  unfold s_cX1_begin at hf
  refine lv_aload_n hx hb dX1_begin_0 rfl (lv_at hl 0 rfl) ?_
  refine lv_iconst (v := 0) hx hb dX1_begin_1 (by decide) ?_
  refine c_pX1_steps hx hb hts hown hK hap hP hS hf (hts _ kw_278) dX1_begin_2 (fun σ1 H locs hP hS hf => ?_)
  refine lv_aload_n hx hb dX1_begin_5 rfl (lv_at hl 0 rfl) ?_
  refine lv_iconst (v := 0) hx hb dX1_begin_6 (by decide) ?_
  refine c_pX1_fault hx hb hts hown hK hap hP hS hf (hts _ kw_280) dX1_begin_7 (fun σ2 H locs hP hS hf => ?_)
  refine lv_aload_n hx hb dX1_begin_10 rfl (lv_at hl 0 rfl) ?_
  refine lv_lconst (v := 0) hx hb dX1_begin_11 (by decide) ?_
  refine lv_iconst (v := 0) hx hb dX1_begin_12 (by decide) ?_
  refine jk_u hf (fun res hres => jv_run hx hb hml hown hts hK hN c_hG c_hNW hl.1 (n := 2) (As := [.long 0, .int 0]) (rest := []) (c_cX1_setFolded l hap σ2 0 0 res hres) hP (ci := 1) (q0 := 22) rfl rfl rfl kw_539 kw_536 kw_537 kw_538 kw_60 ⟨rfl, rfl⟩ (by decide +kernel) rfl ⟨Nat.le_of_ble_eq_true rfl, Nat.le_of_ble_eq_true rfl⟩ rfl (Nat.le_of_ble_eq_true rfl) dX1_begin_13) hS (fun σ4 H locs hP hS hf => ?_)
  exact jr_u hx hb hr hlocks hf hP hS dX1_begin_16
theorem c_cX1_begin (l : Launch) {dC : Nat → ClassId} {dI : Nat → Nat → Nat} {kA : Nat → ClassId} {ad : Nat → Nat} (hap : jw_ap 57 ad) (σ : RS) (res : RS) (hf : s_cX1_begin σ = some res) : jm_u l KW NW (dC, dI) vwCl (jtys kA) (jw_A 57 ad) (c_w kA ad) yX1_begin cX1_begin 1 (rm_cX1_begin) [.ref (ad 22)] σ res := jm_u_of (by decide) (Nat.le_of_ble_eq_true rfl) (fun p e s m below meth c C hP hS ls hl => p_cX1_begin C hap σ hf s.heap [] ls hP hS hl)

def rm_cX1_valueOf (dp : Nat) : Room := { frames := dp + 1, cells := 0, slots := 0, locals := dp * 29 + 25 }
theorem rm_cX1_valueOf_f (dp : Nat) : (rm_cX1_valueOf dp).frames + 1 ≤ (rm_cX1_valueOf (dp + 1)).frames := by show dp + 1 + 1 ≤ dp + 1 + 1; omega
theorem rm_cX1_valueOf_l (dp : Nat) : 8 + (10 + 11) + (rm_cX1_valueOf dp).locals ≤ (rm_cX1_valueOf (dp + 1)).locals := by show 8 + (10 + 11) + (dp * 29 + 25) ≤ (dp + 1) * 29 + 25; omega
theorem rm_cX1_valueOf_cf (dp : Nat) {k : Nat} (h : k ≤ 1) : k ≤ (rm_cX1_valueOf (dp + 1)).frames := by show k ≤ dp + 1 + 1; omega
theorem rm_cX1_valueOf_cl (dp : Nat) {k : Nat} (h : k ≤ 25) : k ≤ (rm_cX1_valueOf (dp + 1)).locals := by show k ≤ (dp + 1) * 29 + 25; omega
def G_cX1_valueOf_b17 (p : Program) (l : Launch) (e : Env) (s : State) (m : MethodId) (args : Array Value) (below : List Frame) (meth : Method) (c : Code) (dC : Nat → ClassId) (dI : Nat → Nat → Nat) (kA : Nat → ClassId) (ad : Nat → Nat) (dp : Nat) (res : Int64 × RS) (F : RS → Option (Int64 × RS)) : Prop := ∀ (σ : RS), F σ = some res → ∀ (H : Heap) (locs : List Loc) (ls : Array Slot), va_P (dC, dI) vwCl (c_w kA ad σ) H → va_S (jw_A 57 ad) s.heap H locs → lv_has ls 10 [(0, .ref (ad 22))] → W p l e (rm_cX1_valueOf dp) s m args below meth c H locs 0 0 (c_Ql below dC dI kA ad args s res) (F0 m 17 ls [])
def G_cX1_valueOf_b151 (p : Program) (l : Launch) (e : Env) (s : State) (m : MethodId) (args : Array Value) (below : List Frame) (meth : Method) (c : Code) (dC : Nat → ClassId) (dI : Nat → Nat → Nat) (kA : Nat → ClassId) (ad : Nat → Nat) (dp : Nat) (res : Int64 × RS) (F : RS → Int32 → Int32 → Int32 → Int32 → Option (Int64 × RS)) : Prop := ∀ (σ : RS) (x2 : Int32) (x3 : Int32) (x4 : Int32) (s0 : Int32), F σ x2 x3 x4 s0 = some res → ∀ (H : Heap) (locs : List Loc) (ls : Array Slot), va_P (dC, dI) vwCl (c_w kA ad σ) H → va_S (jw_A 57 ad) s.heap H locs → lv_has ls 10 [(2, .int x2), (3, .int x3), (4, .int x4)] → W p l e (rm_cX1_valueOf dp) s m args below meth c H locs 0 0 (c_Ql below dC dI kA ad args s res) (F0 m 151 ls [.int s0, .ref (ad 22)])
def G_cX1_valueOf (p : Program) (l : Launch) (e : Env) (s : State) (m : MethodId) (args : Array Value) (below : List Frame) (meth : Method) (c : Code) (dC : Nat → ClassId) (dI : Nat → Nat → Nat) (kA : Nat → ClassId) (ad : Nat → Nat) (dp : Nat) (res : Int64 × RS) (F : RS → Int32 → Int32 → Int32 → Int32 → Option (Int64 × RS)) : Prop := ∀ (σ : RS) (x1 : Int32) (x2 : Int32) (x3 : Int32) (x4 : Int32), F σ x1 x2 x3 x4 = some res → ∀ (H : Heap) (locs : List Loc) (ls : Array Slot), va_P (dC, dI) vwCl (c_w kA ad σ) H → va_S (jw_A 57 ad) s.heap H locs → lv_has ls 10 [(0, .ref (ad 22)), (1, .int x1), (2, .int x2), (3, .int x3), (4, .int x4)] → W p l e (rm_cX1_valueOf dp) s m args below meth c H locs 0 0 (c_Ql below dC dI kA ad args s res) (F0 m 0 ls [])
def s_cX1_valueOf_b17 (rec : RS → Int32 → Int32 → Int32 → Int32 → Option (Int64 × RS)) (σ : RS) : Option (Int64 × RS) := kn_l (s_cX1_fails σ 4) (fun v1 σ2 => some (v1, σ2))
set_option maxRecDepth 100000 in
set_option maxHeartbeats 4000000 in
theorem p_cX1_valueOf_b17 {p : Program} {l : Launch} {e : Env} {s : State} {m : MethodId} {args : Array Value} {below : List Frame} {meth : Method} {c : Code} {dC : Nat → ClassId} {dI : Nat → Nat → Nat} {kA : Nat → ClassId} {ad : Nat → Nat} (C : jxc cX1_valueOf (some .long) 10 RX1 p s m args meth c dC dI kA) (hap : jw_ap 57 ad) (dp : Nat) {rec : RS → Int32 → Int32 → Int32 → Int32 → Option (Int64 × RS)} (hrec : ∀ (σ : RS) (x1 : Int32) (x2 : Int32) (x3 : Int32) (x4 : Int32) (res : Int64 × RS), rec σ x1 x2 x3 x4 = some res → jm_l l KW NW (dC, dI) vwCl (jtys kA) (jw_A 57 ad) (c_w kA ad) yX1_valueOf cX1_valueOf 10 (rm_cX1_valueOf dp) [.ref (ad 22), .int x1, .int x2, .int x3, .int x4] σ res) {res : Int64 × RS} : G_cX1_valueOf_b17 p l e s m args below meth c dC dI kA ad (dp + 1) res (s_cX1_valueOf_b17 rec) := by
  obtain ⟨hx, hb, hml, hown, hts, hr, hlocks, hK, hN⟩ := id C
  intro σ hf H locs ls hP hS hl
  unfold s_cX1_valueOf_b17 at hf
  refine lv_aload_n hx hb dX1_valueOf_17 rfl (lv_at hl 0 rfl) ?_
  refine lv_iconst (v := 4) hx hb dX1_valueOf_18 (by decide) ?_
  refine jk_l hf (fun res hres => jv_run hx hb hml hown hts hK hN c_hG c_hNW hl.1 (n := 1) (As := [.int 4]) (rest := []) (c_cX1_fails l hap σ 4 res hres) hP (ci := 1) (q0 := 22) rfl rfl rfl kw_563 kw_560 kw_562 kw_5 kw_60 ⟨rfl, rfl⟩ (by decide +kernel) rfl ⟨rm_cX1_valueOf_cf dp (by decide), rm_cX1_valueOf_cl dp (by decide)⟩ rfl (Nat.le_of_ble_eq_true rfl) dX1_valueOf_19) hS (fun v1 σ2 H locs hP hS hf => ?_)
  exact jr_l hx hb hr hlocks hf hP hS dX1_valueOf_22
def s_cX1_valueOf_b151 (rec : RS → Int32 → Int32 → Int32 → Int32 → Option (Int64 × RS)) (σ : RS) (x2 : Int32) (x3 : Int32) (x4 : Int32) (s0 : Int32) : Option (Int64 × RS) := kn_l (rec σ s0 x2 x3 (x4 + 1)) (fun v1 σ2 => some (v1, σ2))
set_option maxRecDepth 100000 in
set_option maxHeartbeats 4000000 in
theorem p_cX1_valueOf_b151 {p : Program} {l : Launch} {e : Env} {s : State} {m : MethodId} {args : Array Value} {below : List Frame} {meth : Method} {c : Code} {dC : Nat → ClassId} {dI : Nat → Nat → Nat} {kA : Nat → ClassId} {ad : Nat → Nat} (C : jxc cX1_valueOf (some .long) 10 RX1 p s m args meth c dC dI kA) (hap : jw_ap 57 ad) (dp : Nat) {rec : RS → Int32 → Int32 → Int32 → Int32 → Option (Int64 × RS)} (hrec : ∀ (σ : RS) (x1 : Int32) (x2 : Int32) (x3 : Int32) (x4 : Int32) (res : Int64 × RS), rec σ x1 x2 x3 x4 = some res → jm_l l KW NW (dC, dI) vwCl (jtys kA) (jw_A 57 ad) (c_w kA ad) yX1_valueOf cX1_valueOf 10 (rm_cX1_valueOf dp) [.ref (ad 22), .int x1, .int x2, .int x3, .int x4] σ res) {res : Int64 × RS} : G_cX1_valueOf_b151 p l e s m args below meth c dC dI kA ad (dp + 1) res (s_cX1_valueOf_b151 rec) := by
  obtain ⟨hx, hb, hml, hown, hts, hr, hlocks, hK, hN⟩ := id C
  intro σ x2 x3 x4 s0 hf H locs ls hP hS hl
  unfold s_cX1_valueOf_b151 at hf
  refine lv_iload_n hx hb dX1_valueOf_151 rfl (lv_at hl 0 rfl) ?_
  refine lv_iload_n hx hb dX1_valueOf_152 rfl (lv_at hl 1 rfl) ?_
  refine lv_iload hx hb dX1_valueOf_153 (lv_at hl 2 rfl) ?_
  refine lv_iconst (v := 1) hx hb dX1_valueOf_155 (by decide) ?_
  refine lv_iadd hx hb dX1_valueOf_156 ?_
  refine jk_l hf (fun res hres => jv_run hx hb hml hown hts hK hN c_hG c_hNW hl.1 (n := 4) (As := [.int s0, .int x2, .int x3, .int (x4 + 1)]) (rest := []) (hrec σ s0 x2 x3 (x4 + 1) res hres) hP (ci := 1) (q0 := 22) rfl rfl rfl kw_559 kw_568 kw_558 kw_4 kw_60 ⟨rfl, rfl⟩ (by decide +kernel) rfl ⟨rm_cX1_valueOf_f dp, rm_cX1_valueOf_l dp⟩ rfl (Nat.le_of_ble_eq_true rfl) dX1_valueOf_157) hS (fun v1 σ2 H locs hP hS hf => ?_)
  exact jr_l hx hb hr hlocks hf hP hS dX1_valueOf_160
def s_cX1_valueOf (rec : RS → Int32 → Int32 → Int32 → Int32 → Option (Int64 × RS)) (σ : RS) (x1 : Int32) (x2 : Int32) (x3 : Int32) (x4 : Int32) : Option (Int64 × RS) := if 3000 ≤ (rg_I σ 15) then (s_cX1_valueOf_b17 rec σ) else (if x4 < 40 then (kn_v (rs_I σ 15 ((rg_I σ 15) + 1)) (fun σ1 => kn_v (rs_I σ1 17 ((rg_I σ1 17) + 1)) (fun σ2 => kn_ld (rg_A σ2 0) 40 x1 (fun v3 => if 8 ≤ v3 then (kn_ld (rg_A σ2 1) 40 x1 (fun v4 => kn_l (rec σ2 v4 x2 x3 (x4 + 1)) (fun v5 σ6 => if (rg_I σ6 16) = 0 then (if v3 = 17 then (kn_l (s_cX1_stateAt σ6 x2 v5.toInt32) (fun v14 σ15 => some (v14, σ15))) else (if v3 = 16 then (if v5 = 0 then (kn_ld (rg_A σ6 3) 40 x1 (fun v12 => s_cX1_valueOf_b151 rec σ6 x2 x3 x4 v12)) else (kn_ld (rg_A σ6 2) 40 x1 (fun v13 => s_cX1_valueOf_b151 rec σ6 x2 x3 x4 v13))) else (kn_ld (rg_A σ6 2) 40 x1 (fun v7 => kn_l (rec σ6 v7 x2 x3 (x4 + 1)) (fun v8 σ9 => if (rg_I σ9 16) = 0 then (kn_l (s_cX1_joined σ9 v3 v5 v8) (fun v10 σ11 => some (v10, σ11))) else (some (0, σ9))))))) else (some (0, σ6))))) else (kn_l (s_cX1_plainValue σ2 x1 x2 x3) (fun v16 σ17 => some (v16, σ17))))))) else (s_cX1_valueOf_b17 rec σ))
set_option maxRecDepth 100000 in
set_option maxHeartbeats 4000000 in
theorem p_cX1_valueOf {p : Program} {l : Launch} {e : Env} {s : State} {m : MethodId} {args : Array Value} {below : List Frame} {meth : Method} {c : Code} {dC : Nat → ClassId} {dI : Nat → Nat → Nat} {kA : Nat → ClassId} {ad : Nat → Nat} (C : jxc cX1_valueOf (some .long) 10 RX1 p s m args meth c dC dI kA) (hap : jw_ap 57 ad) (dp : Nat) {rec : RS → Int32 → Int32 → Int32 → Int32 → Option (Int64 × RS)} (hrec : ∀ (σ : RS) (x1 : Int32) (x2 : Int32) (x3 : Int32) (x4 : Int32) (res : Int64 × RS), rec σ x1 x2 x3 x4 = some res → jm_l l KW NW (dC, dI) vwCl (jtys kA) (jw_A 57 ad) (c_w kA ad) yX1_valueOf cX1_valueOf 10 (rm_cX1_valueOf dp) [.ref (ad 22), .int x1, .int x2, .int x3, .int x4] σ res) {res : Int64 × RS} : G_cX1_valueOf p l e s m args below meth c dC dI kA ad (dp + 1) res (s_cX1_valueOf rec) := by
  obtain ⟨hx, hb, hml, hown, hts, hr, hlocks, hK, hN⟩ := id C
  intro σ x1 x2 x3 x4 hf H locs ls hP hS hl
  unfold s_cX1_valueOf at hf
  refine lv_aload_n hx hb dX1_valueOf_0 rfl (lv_at hl 0 rfl) ?_
  refine c_gX1_steps hx hb hts hown hK hP (hts _ kw_278) dX1_valueOf_1 ?_
  refine lv_sipush (v := 3000) hx hb dX1_valueOf_4 (by decide) ?_
  refine jc_ge (tgt := 17) hx hb hf dX1_valueOf_7 (by decide) (fun hf => ?_) (fun hf => ?_)
  · exact (p_cX1_valueOf_b17 C hap dp hrec) σ hf H locs ls hP hS (lv_sub hl [0] rfl)
  · refine lv_iload hx hb dX1_valueOf_10 (lv_at hl 4 rfl) ?_
    refine lv_bipush (v := 40) hx hb dX1_valueOf_12 (by decide) ?_
    refine jc_lt (tgt := 23) hx hb hf dX1_valueOf_14 (by decide) (fun hf => ?_) (fun hf => ?_)
    · refine lv_aload_n hx hb dX1_valueOf_23 rfl (lv_at hl 0 rfl) ?_
      refine lv_dup hx hb dX1_valueOf_24 rfl ?_
      refine c_gX1_steps hx hb hts hown hK hP (hts _ kw_278) dX1_valueOf_25 ?_
      refine lv_iconst (v := 1) hx hb dX1_valueOf_28 (by decide) ?_
      refine lv_iadd hx hb dX1_valueOf_29 ?_
      refine c_pX1_steps hx hb hts hown hK hap hP hS hf (hts _ kw_278) dX1_valueOf_30 (fun σ1 H locs hP hS hf => ?_)
      refine lv_aload_n hx hb dX1_valueOf_33 rfl (lv_at hl 0 rfl) ?_
      refine lv_dup hx hb dX1_valueOf_34 rfl ?_
      refine c_gX1_allSteps hx hb hts hown hK hP (hts _ kw_283) dX1_valueOf_35 ?_
      refine lv_iconst (v := 1) hx hb dX1_valueOf_38 (by decide) ?_
      refine lv_iadd hx hb dX1_valueOf_39 ?_
      refine c_pX1_allSteps hx hb hts hown hK hap hP hS hf (hts _ kw_283) dX1_valueOf_40 (fun σ2 H locs hP hS hf => ?_)
      refine lv_aload_n hx hb dX1_valueOf_43 rfl (lv_at hl 0 rfl) ?_
      refine c_gX1_terms hx hb hts hown hK hP (hts _ kw_275) dX1_valueOf_44 ?_
      refine c_gX8_kinds hx hb hts hown hK hP (hts _ kw_82) dX1_valueOf_47 ?_
      refine lv_iload_n hx hb dX1_valueOf_50 rfl (lv_at hl 1 rfl) ?_
      refine ja_ild hx hb hK hP 2 0 rfl rfl hf dX1_valueOf_51 (fun v3 hf => ?_)
      refine lv_istore (lv' := [(5, .int v3), (0, .ref (ad 22)), (1, .int x1), (2, .int x2), (3, .int x3), (4, .int x4)]) hx hb dX1_valueOf_52 hl (by decide) rfl (fun ls hl => ?_)
      refine lv_iload hx hb dX1_valueOf_54 (lv_at hl 0 rfl) ?_
      refine lv_bipush (v := 8) hx hb dX1_valueOf_56 (by decide) ?_
      refine jc_ge (tgt := 69) hx hb hf dX1_valueOf_58 (by decide) (fun hf => ?_) (fun hf => ?_)
      · refine lv_aload_n hx hb dX1_valueOf_69 rfl (lv_at hl 1 rfl) ?_
        refine lv_aload_n hx hb dX1_valueOf_70 rfl (lv_at hl 1 rfl) ?_
        refine c_gX1_terms hx hb hts hown hK hP (hts _ kw_275) dX1_valueOf_71 ?_
        refine c_gX8_partA hx hb hts hown hK hP (hts _ kw_84) dX1_valueOf_74 ?_
        refine lv_iload_n hx hb dX1_valueOf_77 rfl (lv_at hl 2 rfl) ?_
        refine ja_ild hx hb hK hP 3 0 rfl rfl hf dX1_valueOf_78 (fun v4 hf => ?_)
        refine lv_iload_n hx hb dX1_valueOf_79 rfl (lv_at hl 3 rfl) ?_
        refine lv_iload_n hx hb dX1_valueOf_80 rfl (lv_at hl 4 rfl) ?_
        refine lv_iload hx hb dX1_valueOf_81 (lv_at hl 5 rfl) ?_
        refine lv_iconst (v := 1) hx hb dX1_valueOf_83 (by decide) ?_
        refine lv_iadd hx hb dX1_valueOf_84 ?_
        refine jk_l hf (fun res hres => jv_run hx hb hml hown hts hK hN c_hG c_hNW hl.1 (n := 4) (As := [.int v4, .int x2, .int x3, .int (x4 + 1)]) (rest := []) (hrec σ2 v4 x2 x3 (x4 + 1) res hres) hP (ci := 1) (q0 := 22) rfl rfl rfl kw_559 kw_568 kw_558 kw_4 kw_60 ⟨rfl, rfl⟩ (by decide +kernel) rfl ⟨rm_cX1_valueOf_f dp, rm_cX1_valueOf_l dp⟩ rfl (Nat.le_of_ble_eq_true rfl) dX1_valueOf_85) hS (fun v5 σ6 H locs hP hS hf => ?_)
        refine lv_lstore (lv' := [(6, .long v5), (5, .int v3), (0, .ref (ad 22)), (1, .int x1), (2, .int x2), (3, .int x3), (4, .int x4)]) hx hb dX1_valueOf_88 hl (by decide) rfl (fun ls hl => ?_)
        refine lv_aload_n hx hb dX1_valueOf_90 rfl (lv_at hl 2 rfl) ?_
        refine c_gX1_fault hx hb hts hown hK hP (hts _ kw_280) dX1_valueOf_91 ?_
        refine jb_eq (tgt := 99) hx hb hf dX1_valueOf_94 (by decide) (fun hf => ?_) (fun hf => ?_)
        · refine lv_iload hx hb dX1_valueOf_99 (lv_at hl 1 rfl) ?_
          refine lv_bipush (v := 17) hx hb dX1_valueOf_101 (by decide) ?_
          refine jc_ne (tgt := 115) hx hb hf dX1_valueOf_103 (by decide) (fun hf => ?_) (fun hf => ?_)
          · refine lv_iload hx hb dX1_valueOf_115 (lv_at hl 1 rfl) ?_
            refine lv_bipush (v := 16) hx hb dX1_valueOf_117 (by decide) ?_
            refine jc_ne (tgt := 161) hx hb hf dX1_valueOf_119 (by decide) (fun hf => ?_) (fun hf => ?_)
            · refine lv_aload_n hx hb dX1_valueOf_161 rfl (lv_at hl 2 rfl) ?_
              refine lv_aload_n hx hb dX1_valueOf_162 rfl (lv_at hl 2 rfl) ?_
              refine c_gX1_terms hx hb hts hown hK hP (hts _ kw_275) dX1_valueOf_163 ?_
              refine c_gX8_partB hx hb hts hown hK hP (hts _ kw_86) dX1_valueOf_166 ?_
              refine lv_iload_n hx hb dX1_valueOf_169 rfl (lv_at hl 3 rfl) ?_
              refine ja_ild hx hb hK hP 4 0 rfl rfl hf dX1_valueOf_170 (fun v7 hf => ?_)
              refine lv_iload_n hx hb dX1_valueOf_171 rfl (lv_at hl 4 rfl) ?_
              refine lv_iload_n hx hb dX1_valueOf_172 rfl (lv_at hl 5 rfl) ?_
              refine lv_iload hx hb dX1_valueOf_173 (lv_at hl 6 rfl) ?_
              refine lv_iconst (v := 1) hx hb dX1_valueOf_175 (by decide) ?_
              refine lv_iadd hx hb dX1_valueOf_176 ?_
              refine jk_l hf (fun res hres => jv_run hx hb hml hown hts hK hN c_hG c_hNW hl.1 (n := 4) (As := [.int v7, .int x2, .int x3, .int (x4 + 1)]) (rest := []) (hrec σ6 v7 x2 x3 (x4 + 1) res hres) hP (ci := 1) (q0 := 22) rfl rfl rfl kw_559 kw_568 kw_558 kw_4 kw_60 ⟨rfl, rfl⟩ (by decide +kernel) rfl ⟨rm_cX1_valueOf_f dp, rm_cX1_valueOf_l dp⟩ rfl (Nat.le_of_ble_eq_true rfl) dX1_valueOf_177) hS (fun v8 σ9 H locs hP hS hf => ?_)
              refine lv_lstore (lv' := [(8, .long v8), (6, .long v5), (5, .int v3), (0, .ref (ad 22)), (1, .int x1), (2, .int x2), (3, .int x3), (4, .int x4)]) hx hb dX1_valueOf_180 hl (by decide) rfl (fun ls hl => ?_)
              refine lv_aload_n hx hb dX1_valueOf_182 rfl (lv_at hl 3 rfl) ?_
              refine c_gX1_fault hx hb hts hown hK hP (hts _ kw_280) dX1_valueOf_183 ?_
              refine jb_eq (tgt := 191) hx hb hf dX1_valueOf_186 (by decide) (fun hf => ?_) (fun hf => ?_)
              · refine lv_aload_n hx hb dX1_valueOf_191 rfl (lv_at hl 3 rfl) ?_
                refine lv_iload hx hb dX1_valueOf_192 (lv_at hl 2 rfl) ?_
                refine lv_lload hx hb dX1_valueOf_194 (lv_at hl 1 rfl) ?_
                refine lv_lload hx hb dX1_valueOf_196 (lv_at hl 0 rfl) ?_
                refine jk_l hf (fun res hres => jv_run hx hb hml hown hts hK hN c_hG c_hNW hl.1 (n := 3) (As := [.int v3, .long v5, .long v8]) (rest := []) (c_cX1_joined l hap σ9 v3 v5 v8 res hres) hP (ci := 1) (q0 := 22) rfl rfl rfl kw_576 kw_573 kw_575 kw_8 kw_60 ⟨rfl, rfl⟩ (by decide +kernel) rfl ⟨rm_cX1_valueOf_cf dp (by decide), rm_cX1_valueOf_cl dp (by decide)⟩ rfl (Nat.le_of_ble_eq_true rfl) dX1_valueOf_198) hS (fun v10 σ11 H locs hP hS hf => ?_)
                exact jr_l hx hb hr hlocks hf hP hS dX1_valueOf_201
              · refine lv_lconst (v := 0) hx hb dX1_valueOf_189 (by decide) ?_
                exact jr_l hx hb hr hlocks hf hP hS dX1_valueOf_190
            · refine lv_aload_n hx hb dX1_valueOf_122 rfl (lv_at hl 2 rfl) ?_
              refine lv_lload hx hb dX1_valueOf_123 (lv_at hl 0 rfl) ?_
              refine lv_lconst (v := 0) hx hb dX1_valueOf_125 (by decide) ?_
              refine jl_eq (tgt := 142) hx hb hf dX1_valueOf_126 dX1_valueOf_127 (by decide) (fun hf => ?_) (fun hf => ?_)
              · refine lv_aload_n hx hb dX1_valueOf_142 rfl (lv_at hl 2 rfl) ?_
                refine c_gX1_terms hx hb hts hown hK hP (hts _ kw_275) dX1_valueOf_143 ?_
                refine c_gX8_partC hx hb hts hown hK hP (hts _ kw_88) dX1_valueOf_146 ?_
                refine lv_iload_n hx hb dX1_valueOf_149 rfl (lv_at hl 3 rfl) ?_
                refine ja_ild hx hb hK hP 5 0 rfl rfl hf dX1_valueOf_150 (fun v12 hf => ?_)
                exact (p_cX1_valueOf_b151 C hap dp hrec) σ6 x2 x3 x4 v12 hf H locs ls hP hS (lv_sub hl [4, 5, 6] rfl)
              · refine lv_aload_n hx hb dX1_valueOf_130 rfl (lv_at hl 2 rfl) ?_
                refine c_gX1_terms hx hb hts hown hK hP (hts _ kw_275) dX1_valueOf_131 ?_
                refine c_gX8_partB hx hb hts hown hK hP (hts _ kw_86) dX1_valueOf_134 ?_
                refine lv_iload_n hx hb dX1_valueOf_137 rfl (lv_at hl 3 rfl) ?_
                refine ja_ild hx hb hK hP 4 0 rfl rfl hf dX1_valueOf_138 (fun v13 hf => ?_)
                refine lv_goto (tgt := 151) hx hb dX1_valueOf_139 (by decide) ?_
                exact (p_cX1_valueOf_b151 C hap dp hrec) σ6 x2 x3 x4 v13 hf H locs ls hP hS (lv_sub hl [4, 5, 6] rfl)
          · refine lv_aload_n hx hb dX1_valueOf_106 rfl (lv_at hl 2 rfl) ?_
            refine lv_iload_n hx hb dX1_valueOf_107 rfl (lv_at hl 4 rfl) ?_
            refine lv_lload hx hb dX1_valueOf_108 (lv_at hl 0 rfl) ?_
            refine lv_l2i (v := v5.toInt32) hx hb dX1_valueOf_110 rfl ?_
            refine jk_l hf (fun res hres => jv_run hx hb hml hown hts hK hN c_hG c_hNW hl.1 (n := 2) (As := [.int x2, .int v5.toInt32]) (rest := []) (c_cX1_stateAt l hap σ6 x2 v5.toInt32 res hres) hP (ci := 1) (q0 := 22) rfl rfl rfl kw_572 kw_569 kw_571 kw_7 kw_60 ⟨rfl, rfl⟩ (by decide +kernel) rfl ⟨rm_cX1_valueOf_cf dp (by decide), rm_cX1_valueOf_cl dp (by decide)⟩ rfl (Nat.le_of_ble_eq_true rfl) dX1_valueOf_111) hS (fun v14 σ15 H locs hP hS hf => ?_)
            exact jr_l hx hb hr hlocks hf hP hS dX1_valueOf_114
        · refine lv_lconst (v := 0) hx hb dX1_valueOf_97 (by decide) ?_
          exact jr_l hx hb hr hlocks hf hP hS dX1_valueOf_98
      · refine lv_aload_n hx hb dX1_valueOf_61 rfl (lv_at hl 1 rfl) ?_
        refine lv_iload_n hx hb dX1_valueOf_62 rfl (lv_at hl 2 rfl) ?_
        refine lv_iload_n hx hb dX1_valueOf_63 rfl (lv_at hl 3 rfl) ?_
        refine lv_iload_n hx hb dX1_valueOf_64 rfl (lv_at hl 4 rfl) ?_
        refine jk_l hf (fun res hres => jv_run hx hb hml hown hts hK hN c_hG c_hNW hl.1 (n := 3) (As := [.int x1, .int x2, .int x3]) (rest := []) (c_cX1_plainValue l hap σ2 x1 x2 x3 res hres) hP (ci := 1) (q0 := 22) rfl rfl rfl kw_567 kw_564 kw_566 kw_6 kw_60 ⟨rfl, rfl⟩ (by decide +kernel) rfl ⟨rm_cX1_valueOf_cf dp (by decide), rm_cX1_valueOf_cl dp (by decide)⟩ rfl (Nat.le_of_ble_eq_true rfl) dX1_valueOf_65) hS (fun v16 σ17 H locs hP hS hf => ?_)
        exact jr_l hx hb hr hlocks hf hP hS dX1_valueOf_68
    · exact (p_cX1_valueOf_b17 C hap dp hrec) σ hf H locs ls hP hS (lv_sub hl [0] rfl)
def r_cX1_valueOf : Nat → RS → Int32 → Int32 → Int32 → Int32 → Option (Int64 × RS) := kn_fix (fun _ _ _ _ _ => none) s_cX1_valueOf
theorem c_cX1_valueOf (l : Launch) {dC : Nat → ClassId} {dI : Nat → Nat → Nat} {kA : Nat → ClassId} {ad : Nat → Nat} (hap : jw_ap 57 ad) : ∀ (dp : Nat) (σ : RS) (x1 : Int32) (x2 : Int32) (x3 : Int32) (x4 : Int32) (res : Int64 × RS), r_cX1_valueOf dp σ x1 x2 x3 x4 = some res → jm_l l KW NW (dC, dI) vwCl (jtys kA) (jw_A 57 ad) (c_w kA ad) yX1_valueOf cX1_valueOf 10 (rm_cX1_valueOf dp) [.ref (ad 22), .int x1, .int x2, .int x3, .int x4] σ res
  | 0, _, _, _, _, _, _, hf => by cases hf
  | dp + 1, σ, x1, x2, x3, x4, res, hf => jm_l_of (by decide) (Nat.le_of_ble_eq_true rfl) (fun p e s m below meth c C hP hS ls hl => p_cX1_valueOf C hap dp (c_cX1_valueOf l hap dp) σ x1 x2 x3 x4 hf s.heap [] ls hP hS hl)
end
section
theorem dX7_begin_0 : decode cX7_begin 0 = .ok (.aload_n 0, 1) := by decide +kernel
theorem dX7_begin_1 : decode cX7_begin 1 = .ok (.getfield 39, 3) := by decide +kernel
theorem dX7_begin_4 : decode cX7_begin 4 = .ok (.getfield 107, 3) := by decide +kernel
theorem dX7_begin_7 : decode cX7_begin 7 = .ok (.invokevirtual 111, 3) := by decide +kernel
theorem dX7_begin_10 : decode cX7_begin 10 = .ok (.aload_n 0, 1) := by decide +kernel
theorem dX7_begin_11 : decode cX7_begin 11 = .ok (.iconst 0, 1) := by decide +kernel
theorem dX7_begin_12 : decode cX7_begin 12 = .ok (.putfield 114, 3) := by decide +kernel
theorem dX7_begin_15 : decode cX7_begin 15 = .ok (.iconst 0, 1) := by decide +kernel
theorem dX7_begin_16 : decode cX7_begin 16 = .ok (.istore_n 1, 1) := by decide +kernel
theorem dX7_begin_17 : decode cX7_begin 17 = .ok (.iload_n 1, 1) := by decide +kernel
theorem dX7_begin_18 : decode cX7_begin 18 = .ok (.bipush 40, 2) := by decide +kernel
theorem dX7_begin_20 : decode cX7_begin 20 = .ok (.if_icmp .ge 16, 3) := by decide +kernel
theorem dX7_begin_23 : decode cX7_begin 23 = .ok (.aload_n 0, 1) := by decide +kernel
theorem dX7_begin_24 : decode cX7_begin 24 = .ok (.getfield 15, 3) := by decide +kernel
theorem dX7_begin_27 : decode cX7_begin 27 = .ok (.iload_n 1, 1) := by decide +kernel
theorem dX7_begin_28 : decode cX7_begin 28 = .ok (.iconst 0, 1) := by decide +kernel
theorem dX7_begin_29 : decode cX7_begin 29 = .ok (.bastore, 1) := by decide +kernel
theorem dX7_begin_30 : decode cX7_begin 30 = .ok (.iinc 1 1, 3) := by decide +kernel
theorem dX7_begin_33 : decode cX7_begin 33 = .ok (.goto (-16), 3) := by decide +kernel
theorem dX7_begin_36 : decode cX7_begin 36 = .ok (.return_, 1) := by decide +kernel
theorem dX7_foldFor_0 : decode cX7_foldFor 0 = .ok (.lconst 0, 1) := by decide +kernel
theorem dX7_foldFor_1 : decode cX7_foldFor 1 = .ok (.lstore_n 2, 1) := by decide +kernel
theorem dX7_foldFor_2 : decode cX7_foldFor 2 = .ok (.iconst 1, 1) := by decide +kernel
theorem dX7_foldFor_3 : decode cX7_foldFor 3 = .ok (.istore 4, 2) := by decide +kernel
theorem dX7_foldFor_5 : decode cX7_foldFor 5 = .ok (.iconst 0, 1) := by decide +kernel
theorem dX7_foldFor_6 : decode cX7_foldFor 6 = .ok (.istore 5, 2) := by decide +kernel
theorem dX7_foldFor_8 : decode cX7_foldFor 8 = .ok (.iload 5, 2) := by decide +kernel
theorem dX7_foldFor_10 : decode cX7_foldFor 10 = .ok (.aload_n 0, 1) := by decide +kernel
theorem dX7_foldFor_11 : decode cX7_foldFor 11 = .ok (.getfield 38, 3) := by decide +kernel
theorem dX7_foldFor_14 : decode cX7_foldFor 14 = .ok (.getfield 126, 3) := by decide +kernel
theorem dX7_foldFor_17 : decode cX7_foldFor 17 = .ok (.if_icmp .ge 80, 3) := by decide +kernel
theorem dX7_foldFor_20 : decode cX7_foldFor 20 = .ok (.aload_n 0, 1) := by decide +kernel
theorem dX7_foldFor_21 : decode cX7_foldFor 21 = .ok (.getfield 15, 3) := by decide +kernel
theorem dX7_foldFor_24 : decode cX7_foldFor 24 = .ok (.iload 5, 2) := by decide +kernel
theorem dX7_foldFor_26 : decode cX7_foldFor 26 = .ok (.baload, 1) := by decide +kernel
theorem dX7_foldFor_27 : decode cX7_foldFor 27 = .ok (.ifCond .eq 64, 3) := by decide +kernel
theorem dX7_foldFor_30 : decode cX7_foldFor 30 = .ok (.aload_n 0, 1) := by decide +kernel
theorem dX7_foldFor_31 : decode cX7_foldFor 31 = .ok (.getfield 38, 3) := by decide +kernel
theorem dX7_foldFor_34 : decode cX7_foldFor 34 = .ok (.getfield 117, 3) := by decide +kernel
theorem dX7_foldFor_37 : decode cX7_foldFor 37 = .ok (.iload 5, 2) := by decide +kernel
theorem dX7_foldFor_39 : decode cX7_foldFor 39 = .ok (.iaload, 1) := by decide +kernel
theorem dX7_foldFor_40 : decode cX7_foldFor 40 = .ok (.iload_n 1, 1) := by decide +kernel
theorem dX7_foldFor_41 : decode cX7_foldFor 41 = .ok (.if_icmp .eq 6, 3) := by decide +kernel
theorem dX7_foldFor_44 : decode cX7_foldFor 44 = .ok (.goto 47, 3) := by decide +kernel
theorem dX7_foldFor_47 : decode cX7_foldFor 47 = .ok (.iload 4, 2) := by decide +kernel
theorem dX7_foldFor_49 : decode cX7_foldFor 49 = .ok (.ifCond .eq 13, 3) := by decide +kernel
theorem dX7_foldFor_52 : decode cX7_foldFor 52 = .ok (.aload_n 0, 1) := by decide +kernel
theorem dX7_foldFor_53 : decode cX7_foldFor 53 = .ok (.getfield 19, 3) := by decide +kernel
theorem dX7_foldFor_56 : decode cX7_foldFor 56 = .ok (.iload 5, 2) := by decide +kernel
theorem dX7_foldFor_58 : decode cX7_foldFor 58 = .ok (.laload, 1) := by decide +kernel
theorem dX7_foldFor_59 : decode cX7_foldFor 59 = .ok (.goto 16, 3) := by decide +kernel
theorem dX7_foldFor_62 : decode cX7_foldFor 62 = .ok (.aload_n 0, 1) := by decide +kernel
theorem dX7_foldFor_63 : decode cX7_foldFor 63 = .ok (.lload_n 2, 1) := by decide +kernel
theorem dX7_foldFor_64 : decode cX7_foldFor 64 = .ok (.aload_n 0, 1) := by decide +kernel
theorem dX7_foldFor_65 : decode cX7_foldFor 65 = .ok (.getfield 19, 3) := by decide +kernel
theorem dX7_foldFor_68 : decode cX7_foldFor 68 = .ok (.iload 5, 2) := by decide +kernel
theorem dX7_foldFor_70 : decode cX7_foldFor 70 = .ok (.laload, 1) := by decide +kernel
theorem dX7_foldFor_71 : decode cX7_foldFor 71 = .ok (.iload_n 1, 1) := by decide +kernel
theorem dX7_foldFor_72 : decode cX7_foldFor 72 = .ok (.invokevirtual 159, 3) := by decide +kernel
theorem dX7_foldFor_75 : decode cX7_foldFor 75 = .ok (.lstore_n 2, 1) := by decide +kernel
theorem dX7_foldFor_76 : decode cX7_foldFor 76 = .ok (.iconst 0, 1) := by decide +kernel
theorem dX7_foldFor_77 : decode cX7_foldFor 77 = .ok (.istore 4, 2) := by decide +kernel
theorem dX7_foldFor_79 : decode cX7_foldFor 79 = .ok (.aload_n 0, 1) := by decide +kernel
theorem dX7_foldFor_80 : decode cX7_foldFor 80 = .ok (.getfield 47, 3) := by decide +kernel
theorem dX7_foldFor_83 : decode cX7_foldFor 83 = .ok (.invokevirtual 79, 3) := by decide +kernel
theorem dX7_foldFor_86 : decode cX7_foldFor 86 = .ok (.ifCond .eq 5, 3) := by decide +kernel
theorem dX7_foldFor_89 : decode cX7_foldFor 89 = .ok (.lconst 0, 1) := by decide +kernel
theorem dX7_foldFor_90 : decode cX7_foldFor 90 = .ok (.lreturn, 1) := by decide +kernel
theorem dX7_foldFor_91 : decode cX7_foldFor 91 = .ok (.iinc 5 1, 3) := by decide +kernel
theorem dX7_foldFor_94 : decode cX7_foldFor 94 = .ok (.goto (-86), 3) := by decide +kernel
theorem dX7_foldFor_97 : decode cX7_foldFor 97 = .ok (.lload_n 2, 1) := by decide +kernel
theorem dX7_foldFor_98 : decode cX7_foldFor 98 = .ok (.lreturn, 1) := by decide +kernel
theorem dX7_tellMessages_0 : decode cX7_tellMessages 0 = .ok (.aload_n 0, 1) := by decide +kernel
theorem dX7_tellMessages_1 : decode cX7_tellMessages 1 = .ok (.getfield 52, 3) := by decide +kernel
theorem dX7_tellMessages_4 : decode cX7_tellMessages 4 = .ok (.invokevirtual 195, 3) := by decide +kernel
theorem dX7_tellMessages_7 : decode cX7_tellMessages 7 = .ok (.iconst 0, 1) := by decide +kernel
theorem dX7_tellMessages_8 : decode cX7_tellMessages 8 = .ok (.istore_n 1, 1) := by decide +kernel
theorem dX7_tellMessages_9 : decode cX7_tellMessages 9 = .ok (.iload_n 1, 1) := by decide +kernel
theorem dX7_tellMessages_10 : decode cX7_tellMessages 10 = .ok (.aload_n 0, 1) := by decide +kernel
theorem dX7_tellMessages_11 : decode cX7_tellMessages 11 = .ok (.getfield 114, 3) := by decide +kernel
theorem dX7_tellMessages_14 : decode cX7_tellMessages 14 = .ok (.if_icmp .ge 33, 3) := by decide +kernel
theorem dX7_tellMessages_17 : decode cX7_tellMessages 17 = .ok (.aload_n 0, 1) := by decide +kernel
theorem dX7_tellMessages_18 : decode cX7_tellMessages 18 = .ok (.getfield 52, 3) := by decide +kernel
theorem dX7_tellMessages_21 : decode cX7_tellMessages 21 = .ok (.aload_n 0, 1) := by decide +kernel
theorem dX7_tellMessages_22 : decode cX7_tellMessages 22 = .ok (.getfield 9, 3) := by decide +kernel
theorem dX7_tellMessages_25 : decode cX7_tellMessages 25 = .ok (.iload_n 1, 1) := by decide +kernel
theorem dX7_tellMessages_26 : decode cX7_tellMessages 26 = .ok (.iaload, 1) := by decide +kernel
theorem dX7_tellMessages_27 : decode cX7_tellMessages 27 = .ok (.aload_n 0, 1) := by decide +kernel
theorem dX7_tellMessages_28 : decode cX7_tellMessages 28 = .ok (.getfield 19, 3) := by decide +kernel
theorem dX7_tellMessages_31 : decode cX7_tellMessages 31 = .ok (.aload_n 0, 1) := by decide +kernel
theorem dX7_tellMessages_32 : decode cX7_tellMessages 32 = .ok (.getfield 9, 3) := by decide +kernel
theorem dX7_tellMessages_35 : decode cX7_tellMessages 35 = .ok (.iload_n 1, 1) := by decide +kernel
theorem dX7_tellMessages_36 : decode cX7_tellMessages 36 = .ok (.iaload, 1) := by decide +kernel
theorem dX7_tellMessages_37 : decode cX7_tellMessages 37 = .ok (.laload, 1) := by decide +kernel
theorem dX7_tellMessages_38 : decode cX7_tellMessages 38 = .ok (.invokevirtual 200, 3) := by decide +kernel
theorem dX7_tellMessages_41 : decode cX7_tellMessages 41 = .ok (.iinc 1 1, 3) := by decide +kernel
theorem dX7_tellMessages_44 : decode cX7_tellMessages 44 = .ok (.goto (-35), 3) := by decide +kernel
theorem dX7_tellMessages_47 : decode cX7_tellMessages 47 = .ok (.return_, 1) := by decide +kernel
theorem dX8_add_0 : decode cX8_add 0 = .ok (.iload_n 1, 1) := by decide +kernel
theorem dX8_add_1 : decode cX8_add 1 = .ok (.ifCond .lt 9, 3) := by decide +kernel
theorem dX8_add_4 : decode cX8_add 4 = .ok (.iload_n 1, 1) := by decide +kernel
theorem dX8_add_5 : decode cX8_add 5 = .ok (.bipush 17, 2) := by decide +kernel
theorem dX8_add_7 : decode cX8_add 7 = .ok (.if_icmp .le 6, 3) := by decide +kernel
theorem dX8_add_10 : decode cX8_add 10 = .ok (.bipush (-102), 2) := by decide +kernel
theorem dX8_add_12 : decode cX8_add 12 = .ok (.ireturn, 1) := by decide +kernel
theorem dX8_add_13 : decode cX8_add 13 = .ok (.iload_n 1, 1) := by decide +kernel
theorem dX8_add_14 : decode cX8_add 14 = .ok (.invokestatic 32, 3) := by decide +kernel
theorem dX8_add_17 : decode cX8_add 17 = .ok (.istore 7, 2) := by decide +kernel
theorem dX8_add_19 : decode cX8_add 19 = .ok (.iload 7, 2) := by decide +kernel
theorem dX8_add_21 : decode cX8_add 21 = .ok (.ifCond .le 14, 3) := by decide +kernel
theorem dX8_add_24 : decode cX8_add 24 = .ok (.aload_n 0, 1) := by decide +kernel
theorem dX8_add_25 : decode cX8_add 25 = .ok (.iload_n 2, 1) := by decide +kernel
theorem dX8_add_26 : decode cX8_add 26 = .ok (.invokevirtual 36, 3) := by decide +kernel
theorem dX8_add_29 : decode cX8_add 29 = .ok (.ifCond .ne 6, 3) := by decide +kernel
theorem dX8_add_32 : decode cX8_add 32 = .ok (.bipush (-101), 2) := by decide +kernel
theorem dX8_add_34 : decode cX8_add 34 = .ok (.ireturn, 1) := by decide +kernel
theorem dX8_add_35 : decode cX8_add 35 = .ok (.iload 7, 2) := by decide +kernel
theorem dX8_add_37 : decode cX8_add 37 = .ok (.iconst 1, 1) := by decide +kernel
theorem dX8_add_38 : decode cX8_add 38 = .ok (.if_icmp .le 14, 3) := by decide +kernel
theorem dX8_add_41 : decode cX8_add 41 = .ok (.aload_n 0, 1) := by decide +kernel
theorem dX8_add_42 : decode cX8_add 42 = .ok (.iload_n 3, 1) := by decide +kernel
theorem dX8_add_43 : decode cX8_add 43 = .ok (.invokevirtual 36, 3) := by decide +kernel
theorem dX8_add_46 : decode cX8_add 46 = .ok (.ifCond .ne 6, 3) := by decide +kernel
theorem dX8_add_49 : decode cX8_add 49 = .ok (.bipush (-101), 2) := by decide +kernel
theorem dX8_add_51 : decode cX8_add 51 = .ok (.ireturn, 1) := by decide +kernel
theorem dX8_add_52 : decode cX8_add 52 = .ok (.iload 7, 2) := by decide +kernel
theorem dX8_add_54 : decode cX8_add 54 = .ok (.iconst 2, 1) := by decide +kernel
theorem dX8_add_55 : decode cX8_add 55 = .ok (.if_icmp .le 15, 3) := by decide +kernel
theorem dX8_add_58 : decode cX8_add 58 = .ok (.aload_n 0, 1) := by decide +kernel
theorem dX8_add_59 : decode cX8_add 59 = .ok (.iload 4, 2) := by decide +kernel
theorem dX8_add_61 : decode cX8_add 61 = .ok (.invokevirtual 36, 3) := by decide +kernel
theorem dX8_add_64 : decode cX8_add 64 = .ok (.ifCond .ne 6, 3) := by decide +kernel
theorem dX8_add_67 : decode cX8_add 67 = .ok (.bipush (-101), 2) := by decide +kernel
theorem dX8_add_69 : decode cX8_add 69 = .ok (.ireturn, 1) := by decide +kernel
theorem dX8_add_70 : decode cX8_add 70 = .ok (.iload_n 1, 1) := by decide +kernel
theorem dX8_add_71 : decode cX8_add 71 = .ok (.iconst 1, 1) := by decide +kernel
theorem dX8_add_72 : decode cX8_add 72 = .ok (.if_icmp .ne 14, 3) := by decide +kernel
theorem dX8_add_75 : decode cX8_add 75 = .ok (.lload 5, 2) := by decide +kernel
theorem dX8_add_77 : decode cX8_add 77 = .ok (.invokestatic 40, 3) := by decide +kernel
theorem dX8_add_80 : decode cX8_add 80 = .ok (.ifCond .ne 6, 3) := by decide +kernel
theorem dX8_add_83 : decode cX8_add 83 = .ok (.bipush (-102), 2) := by decide +kernel
theorem dX8_add_85 : decode cX8_add 85 = .ok (.ireturn, 1) := by decide +kernel
theorem dX8_add_86 : decode cX8_add 86 = .ok (.aload_n 0, 1) := by decide +kernel
theorem dX8_add_87 : decode cX8_add 87 = .ok (.getfield 28, 3) := by decide +kernel
theorem dX8_add_90 : decode cX8_add 90 = .ok (.bipush 40, 2) := by decide +kernel
theorem dX8_add_92 : decode cX8_add 92 = .ok (.if_icmp .lt 6, 3) := by decide +kernel
theorem dX8_add_95 : decode cX8_add 95 = .ok (.bipush (-103), 2) := by decide +kernel
theorem dX8_add_97 : decode cX8_add 97 = .ok (.ireturn, 1) := by decide +kernel
theorem dX8_add_98 : decode cX8_add 98 = .ok (.aload_n 0, 1) := by decide +kernel
theorem dX8_add_99 : decode cX8_add 99 = .ok (.getfield 9, 3) := by decide +kernel
theorem dX8_add_102 : decode cX8_add 102 = .ok (.aload_n 0, 1) := by decide +kernel
theorem dX8_add_103 : decode cX8_add 103 = .ok (.getfield 28, 3) := by decide +kernel
theorem dX8_add_106 : decode cX8_add 106 = .ok (.iload_n 1, 1) := by decide +kernel
theorem dX8_add_107 : decode cX8_add 107 = .ok (.iastore, 1) := by decide +kernel
theorem dX8_add_108 : decode cX8_add 108 = .ok (.aload_n 0, 1) := by decide +kernel
theorem dX8_add_109 : decode cX8_add 109 = .ok (.getfield 15, 3) := by decide +kernel
theorem dX8_add_112 : decode cX8_add 112 = .ok (.aload_n 0, 1) := by decide +kernel
theorem dX8_add_113 : decode cX8_add 113 = .ok (.getfield 28, 3) := by decide +kernel
theorem dX8_add_116 : decode cX8_add 116 = .ok (.iload_n 2, 1) := by decide +kernel
theorem dX8_add_117 : decode cX8_add 117 = .ok (.iastore, 1) := by decide +kernel
theorem dX8_add_118 : decode cX8_add 118 = .ok (.aload_n 0, 1) := by decide +kernel
theorem dX8_add_119 : decode cX8_add 119 = .ok (.getfield 18, 3) := by decide +kernel
theorem dX8_add_122 : decode cX8_add 122 = .ok (.aload_n 0, 1) := by decide +kernel
theorem dX8_add_123 : decode cX8_add 123 = .ok (.getfield 28, 3) := by decide +kernel
theorem dX8_add_126 : decode cX8_add 126 = .ok (.iload_n 3, 1) := by decide +kernel
theorem dX8_add_127 : decode cX8_add 127 = .ok (.iastore, 1) := by decide +kernel
theorem dX8_add_128 : decode cX8_add 128 = .ok (.aload_n 0, 1) := by decide +kernel
theorem dX8_add_129 : decode cX8_add 129 = .ok (.getfield 21, 3) := by decide +kernel
theorem dX8_add_132 : decode cX8_add 132 = .ok (.aload_n 0, 1) := by decide +kernel
theorem dX8_add_133 : decode cX8_add 133 = .ok (.getfield 28, 3) := by decide +kernel
theorem dX8_add_136 : decode cX8_add 136 = .ok (.iload 4, 2) := by decide +kernel
theorem dX8_add_138 : decode cX8_add 138 = .ok (.iastore, 1) := by decide +kernel
theorem dX8_add_139 : decode cX8_add 139 = .ok (.aload_n 0, 1) := by decide +kernel
theorem dX8_add_140 : decode cX8_add 140 = .ok (.getfield 24, 3) := by decide +kernel
theorem dX8_add_143 : decode cX8_add 143 = .ok (.aload_n 0, 1) := by decide +kernel
theorem dX8_add_144 : decode cX8_add 144 = .ok (.getfield 28, 3) := by decide +kernel
theorem dX8_add_147 : decode cX8_add 147 = .ok (.lload 5, 2) := by decide +kernel
theorem dX8_add_149 : decode cX8_add 149 = .ok (.lastore, 1) := by decide +kernel
theorem dX8_add_150 : decode cX8_add 150 = .ok (.aload_n 0, 1) := by decide +kernel
theorem dX8_add_151 : decode cX8_add 151 = .ok (.dup, 1) := by decide +kernel
theorem dX8_add_152 : decode cX8_add 152 = .ok (.getfield 28, 3) := by decide +kernel
theorem dX8_add_155 : decode cX8_add 155 = .ok (.iconst 1, 1) := by decide +kernel
theorem dX8_add_156 : decode cX8_add 156 = .ok (.iadd, 1) := by decide +kernel
theorem dX8_add_157 : decode cX8_add 157 = .ok (.putfield 28, 3) := by decide +kernel
theorem dX8_add_160 : decode cX8_add 160 = .ok (.aload_n 0, 1) := by decide +kernel
theorem dX8_add_161 : decode cX8_add 161 = .ok (.getfield 28, 3) := by decide +kernel
theorem dX8_add_164 : decode cX8_add 164 = .ok (.iconst 1, 1) := by decide +kernel
theorem dX8_add_165 : decode cX8_add 165 = .ok (.isub, 1) := by decide +kernel
theorem dX8_add_166 : decode cX8_add 166 = .ok (.ireturn, 1) := by decide +kernel
theorem dX11_term_0 : decode cX11_term 0 = .ok (.aload_n 0, 1) := by decide +kernel
theorem dX11_term_1 : decode cX11_term 1 = .ok (.getfield 10, 3) := by decide +kernel
theorem dX11_term_4 : decode cX11_term 4 = .ok (.iload_n 1, 1) := by decide +kernel
theorem dX11_term_5 : decode cX11_term 5 = .ok (.iload_n 2, 1) := by decide +kernel
theorem dX11_term_6 : decode cX11_term 6 = .ok (.iload_n 3, 1) := by decide +kernel
theorem dX11_term_7 : decode cX11_term 7 = .ok (.iload 4, 2) := by decide +kernel
theorem dX11_term_9 : decode cX11_term 9 = .ok (.lload 5, 2) := by decide +kernel
theorem dX11_term_11 : decode cX11_term 11 = .ok (.invokevirtual 85, 3) := by decide +kernel
theorem dX11_term_14 : decode cX11_term 14 = .ok (.ireturn, 1) := by decide +kernel
theorem dX11_node_0 : decode cX11_node 0 = .ok (.aload_n 0, 1) := by decide +kernel
theorem dX11_node_1 : decode cX11_node 1 = .ok (.aload_n 0, 1) := by decide +kernel
theorem dX11_node_2 : decode cX11_node 2 = .ok (.getfield 19, 3) := by decide +kernel
theorem dX11_node_5 : decode cX11_node 5 = .ok (.invokevirtual 89, 3) := by decide +kernel
theorem dX11_node_8 : decode cX11_node 8 = .ok (.invokevirtual 93, 3) := by decide +kernel
theorem dX11_node_11 : decode cX11_node 11 = .ok (.ireturn, 1) := by decide +kernel
theorem dX11_arc_0 : decode cX11_arc 0 = .ok (.aload_n 0, 1) := by decide +kernel
theorem dX11_arc_1 : decode cX11_arc 1 = .ok (.aload_n 0, 1) := by decide +kernel
theorem dX11_arc_2 : decode cX11_arc 2 = .ok (.getfield 19, 3) := by decide +kernel
theorem dX11_arc_5 : decode cX11_arc 5 = .ok (.iload_n 1, 1) := by decide +kernel
theorem dX11_arc_6 : decode cX11_arc 6 = .ok (.iload_n 2, 1) := by decide +kernel
theorem dX11_arc_7 : decode cX11_arc 7 = .ok (.lload_n 3, 1) := by decide +kernel
theorem dX11_arc_8 : decode cX11_arc 8 = .ok (.invokevirtual 97, 3) := by decide +kernel
theorem dX11_arc_11 : decode cX11_arc 11 = .ok (.invokevirtual 93, 3) := by decide +kernel
theorem dX11_arc_14 : decode cX11_arc 14 = .ok (.ireturn, 1) := by decide +kernel
theorem dX11_put_0 : decode cX11_put 0 = .ok (.aload_n 0, 1) := by decide +kernel
theorem dX11_put_1 : decode cX11_put 1 = .ok (.getfield 19, 3) := by decide +kernel
theorem dX11_put_4 : decode cX11_put 4 = .ok (.iload_n 1, 1) := by decide +kernel
theorem dX11_put_5 : decode cX11_put 5 = .ok (.invokevirtual 101, 3) := by decide +kernel
theorem dX11_put_8 : decode cX11_put 8 = .ok (.ifCond .ne 6, 3) := by decide +kernel
theorem dX11_put_11 : decode cX11_put 11 = .ok (.bipush (-101), 2) := by decide +kernel
theorem dX11_put_13 : decode cX11_put 13 = .ok (.ireturn, 1) := by decide +kernel
theorem dX11_put_14 : decode cX11_put 14 = .ok (.iload_n 2, 1) := by decide +kernel
theorem dX11_put_15 : decode cX11_put 15 = .ok (.i2l, 1) := by decide +kernel
theorem dX11_put_16 : decode cX11_put 16 = .ok (.invokestatic 105, 3) := by decide +kernel
theorem dX11_put_19 : decode cX11_put 19 = .ok (.ifCond .ne 6, 3) := by decide +kernel
theorem dX11_put_22 : decode cX11_put 22 = .ok (.bipush (-102), 2) := by decide +kernel
theorem dX11_put_24 : decode cX11_put 24 = .ok (.ireturn, 1) := by decide +kernel
theorem dX11_put_25 : decode cX11_put 25 = .ok (.aload_n 0, 1) := by decide +kernel
theorem dX11_put_26 : decode cX11_put 26 = .ok (.getfield 19, 3) := by decide +kernel
theorem dX11_put_29 : decode cX11_put 29 = .ok (.getfield 109, 3) := by decide +kernel
theorem dX11_put_32 : decode cX11_put 32 = .ok (.iload_n 1, 1) := by decide +kernel
theorem dX11_put_33 : decode cX11_put 33 = .ok (.iconst 3, 1) := by decide +kernel
theorem dX11_put_34 : decode cX11_put 34 = .ok (.imul, 1) := by decide +kernel
theorem dX11_put_35 : decode cX11_put 35 = .ok (.iload_n 2, 1) := by decide +kernel
theorem dX11_put_36 : decode cX11_put 36 = .ok (.iadd, 1) := by decide +kernel
theorem dX11_put_37 : decode cX11_put 37 = .ok (.lload_n 3, 1) := by decide +kernel
theorem dX11_put_38 : decode cX11_put 38 = .ok (.lastore, 1) := by decide +kernel
theorem dX11_put_39 : decode cX11_put 39 = .ok (.aload_n 0, 1) := by decide +kernel
theorem dX11_put_40 : decode cX11_put 40 = .ok (.iconst 1, 1) := by decide +kernel
theorem dX11_put_41 : decode cX11_put 41 = .ok (.invokevirtual 93, 3) := by decide +kernel
theorem dX11_put_44 : decode cX11_put 44 = .ok (.ireturn, 1) := by decide +kernel
def rm_cX7_begin : Room := { frames := 2, cells := 0, slots := 0, locals := 43 }
def G_cX7_begin_b17 (p : Program) (l : Launch) (e : Env) (s : State) (m : MethodId) (args : Array Value) (below : List Frame) (meth : Method) (c : Code) (dC : Nat → ClassId) (dI : Nat → Nat → Nat) (kA : Nat → ClassId) (ad : Nat → Nat) (res : RS) (F : RS → Int32 → Option (RS)) : Prop := ∀ (σ : RS) (x1 : Int32), F σ x1 = some res → ∀ (H : Heap) (locs : List Loc) (ls : Array Slot), va_P (dC, dI) vwCl (c_w kA ad σ) H → va_S (jw_A 57 ad) s.heap H locs → lv_has ls 2 [(0, .ref (ad 24)), (1, .int x1)] → W p l e rm_cX7_begin s m args below meth c H locs 0 0 (c_Qu below dC dI kA ad args s res) (F0 m 17 ls [])
def G_cX7_begin (p : Program) (l : Launch) (e : Env) (s : State) (m : MethodId) (args : Array Value) (below : List Frame) (meth : Method) (c : Code) (dC : Nat → ClassId) (dI : Nat → Nat → Nat) (kA : Nat → ClassId) (ad : Nat → Nat) (res : RS) (F : RS → Option (RS)) : Prop := ∀ (σ : RS), F σ = some res → ∀ (H : Heap) (locs : List Loc) (ls : Array Slot), va_P (dC, dI) vwCl (c_w kA ad σ) H → va_S (jw_A 57 ad) s.heap H locs → lv_has ls 2 [(0, .ref (ad 24))] → W p l e rm_cX7_begin s m args below meth c H locs 0 0 (c_Qu below dC dI kA ad args s res) (F0 m 0 ls [])
def s_cX7_begin_b17 (k17 : RS → Int32 → Option (RS)) (σ : RS) (x1 : Int32) : Option (RS) := if 40 ≤ x1 then some σ else (kn_st (rs_A σ 11 (upd (rg_A σ 11) x1.toNatClampNeg 0)) 40 x1 (fun σ1 => kn_v (x1 + 1) (fun v2 => k17 σ1 v2)))
set_option maxRecDepth 100000 in
set_option maxHeartbeats 4000000 in
theorem p_cX7_begin_b17 {p : Program} {l : Launch} {e : Env} {s : State} {m : MethodId} {args : Array Value} {below : List Frame} {meth : Method} {c : Code} {dC : Nat → ClassId} {dI : Nat → Nat → Nat} {kA : Nat → ClassId} {ad : Nat → Nat} (C : jxc cX7_begin none 2 RX7 p s m args meth c dC dI kA) (hap : jw_ap 57 ad) {res : RS} {k17 : RS → Int32 → Option (RS)} (hk17 : G_cX7_begin_b17 p l e s m args below meth c dC dI kA ad res k17) : G_cX7_begin_b17 p l e s m args below meth c dC dI kA ad res (s_cX7_begin_b17 k17) := by
  obtain ⟨hx, hb, hml, hown, hts, hr, hlocks, hK, hN⟩ := id C
  intro σ x1 hf H locs ls hP hS hl
  unfold s_cX7_begin_b17 at hf
  refine lv_iload_n hx hb dX7_begin_17 rfl (lv_at hl 1 rfl) ?_
  refine lv_bipush (v := 40) hx hb dX7_begin_18 (by decide) ?_
  refine jc_ge (tgt := 36) hx hb hf dX7_begin_20 (by decide) (fun hf => ?_) (fun hf => ?_)
  · exact jr_u hx hb hr hlocks hf hP hS dX7_begin_36
  · refine lv_aload_n hx hb dX7_begin_23 rfl (lv_at hl 0 rfl) ?_
    refine c_gX7_carries hx hb hts hown hK hP (hts _ kw_338) dX7_begin_24 ?_
    refine lv_iload_n hx hb dX7_begin_27 rfl (lv_at hl 1 rfl) ?_
    refine lv_iconst (v := 0) hx hb dX7_begin_28 (by decide) ?_
    refine ja_zst hx hb hK (c_D hap σ) hP hS 26 2 rfl rfl (by decide) c_sA11 hf dX7_begin_29 (fun σ1 H locs hP hS hf => ?_)
    obtain ⟨v2, e_v2, hf⟩ := kn_v_e hf
    refine lv_iinc (v := v2) (lv' := [(1, .int v2), (0, .ref (ad 24))]) hx hb dX7_begin_30 hl (k := 1) rfl e_v2 (by decide) rfl (fun ls hl => ?_)
    refine lv_goto (tgt := 17) hx hb dX7_begin_33 (by decide) ?_
    exact hk17 σ1 v2 hf H locs ls hP hS (lv_sub hl [1, 0] rfl)
def f_cX7_begin_b17 : RS → Int32 → Option (RS) := kn_fix (fun _ _ => none) (s_cX7_begin_b17) FU
theorem q_cX7_begin_b17 {p : Program} {l : Launch} {e : Env} {s : State} {m : MethodId} {args : Array Value} {below : List Frame} {meth : Method} {c : Code} {dC : Nat → ClassId} {dI : Nat → Nat → Nat} {kA : Nat → ClassId} {ad : Nat → Nat} (C : jxc cX7_begin none 2 RX7 p s m args meth c dC dI kA) (hap : jw_ap 57 ad) {res : RS} : G_cX7_begin_b17 p l e s m args below meth c dC dI kA ad res (f_cX7_begin_b17) := kn_fix_ind (G := fun F => G_cX7_begin_b17 p l e s m args below meth c dC dI kA ad res F) (fun _ _ hf => by cases hf) (fun k17 hk17 => p_cX7_begin_b17 C hap hk17) FU
def s_cX7_begin (σ : RS) : Option (RS) := kn_u (s_cX1_begin σ) (fun σ2 => kn_v (rs_I σ2 18 0) (fun σ3 => f_cX7_begin_b17 σ3 0))
set_option maxRecDepth 100000 in
set_option maxHeartbeats 4000000 in
theorem p_cX7_begin {p : Program} {l : Launch} {e : Env} {s : State} {m : MethodId} {args : Array Value} {below : List Frame} {meth : Method} {c : Code} {dC : Nat → ClassId} {dI : Nat → Nat → Nat} {kA : Nat → ClassId} {ad : Nat → Nat} (C : jxc cX7_begin none 2 RX7 p s m args meth c dC dI kA) (hap : jw_ap 57 ad) {res : RS} : G_cX7_begin p l e s m args below meth c dC dI kA ad res (s_cX7_begin) := by
  obtain ⟨hx, hb, hml, hown, hts, hr, hlocks, hK, hN⟩ := id C
  intro σ hf H locs ls hP hS hl
  unfold s_cX7_begin at hf
  refine lv_aload_n hx hb dX7_begin_0 rfl (lv_at hl 0 rfl) ?_
  refine c_gX7_actor hx hb hts hown hK hP (hts _ kw_333) dX7_begin_1 ?_
  refine c_gX0_asker hx hb hts hown hK hP (hts _ kw_313) dX7_begin_4 ?_
  refine jk_u hf (fun res hres => jv_run hx hb hml hown hts hK hN c_hG c_hNW hl.1 (n := 0) (As := []) (rest := []) (c_cX1_begin l hap σ res hres) hP (ci := 1) (q0 := 22) rfl rfl rfl kw_535 kw_625 kw_533 kw_534 kw_60 ⟨rfl, rfl⟩ (by decide +kernel) rfl ⟨Nat.le_of_ble_eq_true rfl, Nat.le_of_ble_eq_true rfl⟩ rfl (Nat.le_of_ble_eq_true rfl) dX7_begin_7) hS (fun σ2 H locs hP hS hf => ?_)
  refine lv_aload_n hx hb dX7_begin_10 rfl (lv_at hl 0 rfl) ?_
  refine lv_iconst (v := 0) hx hb dX7_begin_11 (by decide) ?_
  refine c_pX7_sent hx hb hts hown hK hap hP hS hf (hts _ kw_343) dX7_begin_12 (fun σ3 H locs hP hS hf => ?_)
  refine lv_iconst (v := 0) hx hb dX7_begin_15 (by decide) ?_
  refine lv_istore_n (lv' := [(1, .int 0), (0, .ref (ad 24))]) hx hb dX7_begin_16 rfl hl (by decide) rfl (fun ls hl => ?_)
  exact (q_cX7_begin_b17 C hap) σ3 0 hf H locs ls hP hS (lv_sub hl [1, 0] rfl)
theorem c_cX7_begin (l : Launch) {dC : Nat → ClassId} {dI : Nat → Nat → Nat} {kA : Nat → ClassId} {ad : Nat → Nat} (hap : jw_ap 57 ad) (σ : RS) (res : RS) (hf : s_cX7_begin σ = some res) : jm_u l KW NW (dC, dI) vwCl (jtys kA) (jw_A 57 ad) (c_w kA ad) yX7_begin cX7_begin 2 (rm_cX7_begin) [.ref (ad 24)] σ res := jm_u_of (by decide) (Nat.le_of_ble_eq_true rfl) (fun p e s m below meth c C hP hS ls hl => p_cX7_begin C hap σ hf s.heap [] ls hP hS hl)

def rm_cX7_foldFor : Room := { frames := 2, cells := 0, slots := 0, locals := 52 }
def G_cX7_foldFor_b91 (p : Program) (l : Launch) (e : Env) (s : State) (m : MethodId) (args : Array Value) (below : List Frame) (meth : Method) (c : Code) (dC : Nat → ClassId) (dI : Nat → Nat → Nat) (kA : Nat → ClassId) (ad : Nat → Nat) (res : Int64 × RS) (F : RS → Int32 → Int64 → Int32 → Int32 → Option (Int64 × RS)) : Prop := ∀ (σ : RS) (x1 : Int32) (x2 : Int64) (x4 : Int32) (x5 : Int32), F σ x1 x2 x4 x5 = some res → ∀ (H : Heap) (locs : List Loc) (ls : Array Slot), va_P (dC, dI) vwCl (c_w kA ad σ) H → va_S (jw_A 57 ad) s.heap H locs → lv_has ls 6 [(0, .ref (ad 24)), (1, .int x1), (2, .long x2), (4, .int x4), (5, .int x5)] → W p l e rm_cX7_foldFor s m args below meth c H locs 0 0 (c_Ql below dC dI kA ad args s res) (F0 m 91 ls [])
def G_cX7_foldFor_b75 (p : Program) (l : Launch) (e : Env) (s : State) (m : MethodId) (args : Array Value) (below : List Frame) (meth : Method) (c : Code) (dC : Nat → ClassId) (dI : Nat → Nat → Nat) (kA : Nat → ClassId) (ad : Nat → Nat) (res : Int64 × RS) (F : RS → Int32 → Int32 → Int64 → Option (Int64 × RS)) : Prop := ∀ (σ : RS) (x1 : Int32) (x5 : Int32) (s0 : Int64), F σ x1 x5 s0 = some res → ∀ (H : Heap) (locs : List Loc) (ls : Array Slot), va_P (dC, dI) vwCl (c_w kA ad σ) H → va_S (jw_A 57 ad) s.heap H locs → lv_has ls 6 [(0, .ref (ad 24)), (1, .int x1), (5, .int x5)] → W p l e rm_cX7_foldFor s m args below meth c H locs 0 0 (c_Ql below dC dI kA ad args s res) (F0 m 75 ls [.long s0])
def G_cX7_foldFor_b8 (p : Program) (l : Launch) (e : Env) (s : State) (m : MethodId) (args : Array Value) (below : List Frame) (meth : Method) (c : Code) (dC : Nat → ClassId) (dI : Nat → Nat → Nat) (kA : Nat → ClassId) (ad : Nat → Nat) (res : Int64 × RS) (F : RS → Int32 → Int64 → Int32 → Int32 → Option (Int64 × RS)) : Prop := ∀ (σ : RS) (x1 : Int32) (x2 : Int64) (x4 : Int32) (x5 : Int32), F σ x1 x2 x4 x5 = some res → ∀ (H : Heap) (locs : List Loc) (ls : Array Slot), va_P (dC, dI) vwCl (c_w kA ad σ) H → va_S (jw_A 57 ad) s.heap H locs → lv_has ls 6 [(0, .ref (ad 24)), (1, .int x1), (2, .long x2), (4, .int x4), (5, .int x5)] → W p l e rm_cX7_foldFor s m args below meth c H locs 0 0 (c_Ql below dC dI kA ad args s res) (F0 m 8 ls [])
def G_cX7_foldFor (p : Program) (l : Launch) (e : Env) (s : State) (m : MethodId) (args : Array Value) (below : List Frame) (meth : Method) (c : Code) (dC : Nat → ClassId) (dI : Nat → Nat → Nat) (kA : Nat → ClassId) (ad : Nat → Nat) (res : Int64 × RS) (F : RS → Int32 → Option (Int64 × RS)) : Prop := ∀ (σ : RS) (x1 : Int32), F σ x1 = some res → ∀ (H : Heap) (locs : List Loc) (ls : Array Slot), va_P (dC, dI) vwCl (c_w kA ad σ) H → va_S (jw_A 57 ad) s.heap H locs → lv_has ls 6 [(0, .ref (ad 24)), (1, .int x1)] → W p l e rm_cX7_foldFor s m args below meth c H locs 0 0 (c_Ql below dC dI kA ad args s res) (F0 m 0 ls [])
def s_cX7_foldFor_b91 (k8 : RS → Int32 → Int64 → Int32 → Int32 → Option (Int64 × RS)) (σ : RS) (x1 : Int32) (x2 : Int64) (x4 : Int32) (x5 : Int32) : Option (Int64 × RS) := kn_v (x5 + 1) (fun v1 => k8 σ x1 x2 x4 v1)
set_option maxRecDepth 100000 in
set_option maxHeartbeats 4000000 in
theorem p_cX7_foldFor_b91 {p : Program} {l : Launch} {e : Env} {s : State} {m : MethodId} {args : Array Value} {below : List Frame} {meth : Method} {c : Code} {dC : Nat → ClassId} {dI : Nat → Nat → Nat} {kA : Nat → ClassId} {ad : Nat → Nat} (C : jxc cX7_foldFor (some .long) 6 RX7 p s m args meth c dC dI kA) (hap : jw_ap 57 ad) {res : Int64 × RS} {k8 : RS → Int32 → Int64 → Int32 → Int32 → Option (Int64 × RS)} (hk8 : G_cX7_foldFor_b8 p l e s m args below meth c dC dI kA ad res k8) : G_cX7_foldFor_b91 p l e s m args below meth c dC dI kA ad res (s_cX7_foldFor_b91 k8) := by
  obtain ⟨hx, hb, hml, hown, hts, hr, hlocks, hK, hN⟩ := id C
  intro σ x1 x2 x4 x5 hf H locs ls hP hS hl
  unfold s_cX7_foldFor_b91 at hf
  obtain ⟨v1, e_v1, hf⟩ := kn_v_e hf
  refine lv_iinc (v := v1) (lv' := [(5, .int v1), (0, .ref (ad 24)), (1, .int x1), (2, .long x2), (4, .int x4)]) hx hb dX7_foldFor_91 hl (k := 4) rfl e_v1 (by decide) rfl (fun ls hl => ?_)
  refine lv_goto (tgt := 8) hx hb dX7_foldFor_94 (by decide) ?_
  exact hk8 σ x1 x2 x4 v1 hf H locs ls hP hS (lv_sub hl [1, 2, 3, 4, 0] rfl)
def s_cX7_foldFor_b75 (k8 : RS → Int32 → Int64 → Int32 → Int32 → Option (Int64 × RS)) (σ : RS) (x1 : Int32) (x5 : Int32) (s0 : Int64) : Option (Int64 × RS) := kn_i (s_cX2_is σ) (fun v1 σ2 => if v1 = 0 then (s_cX7_foldFor_b91 k8 σ2 x1 s0 0 x5) else (some (0, σ2)))
set_option maxRecDepth 100000 in
set_option maxHeartbeats 4000000 in
theorem p_cX7_foldFor_b75 {p : Program} {l : Launch} {e : Env} {s : State} {m : MethodId} {args : Array Value} {below : List Frame} {meth : Method} {c : Code} {dC : Nat → ClassId} {dI : Nat → Nat → Nat} {kA : Nat → ClassId} {ad : Nat → Nat} (C : jxc cX7_foldFor (some .long) 6 RX7 p s m args meth c dC dI kA) (hap : jw_ap 57 ad) {res : Int64 × RS} {k8 : RS → Int32 → Int64 → Int32 → Int32 → Option (Int64 × RS)} (hk8 : G_cX7_foldFor_b8 p l e s m args below meth c dC dI kA ad res k8) : G_cX7_foldFor_b75 p l e s m args below meth c dC dI kA ad res (s_cX7_foldFor_b75 k8) := by
  obtain ⟨hx, hb, hml, hown, hts, hr, hlocks, hK, hN⟩ := id C
  intro σ x1 x5 s0 hf H locs ls hP hS hl
  unfold s_cX7_foldFor_b75 at hf
  refine lv_lstore_n (lv' := [(2, .long s0), (0, .ref (ad 24)), (1, .int x1), (5, .int x5)]) hx hb dX7_foldFor_75 rfl hl (by decide) rfl (fun ls hl => ?_)
  refine lv_iconst (v := 0) hx hb dX7_foldFor_76 (by decide) ?_
  refine lv_istore (lv' := [(4, .int 0), (2, .long s0), (0, .ref (ad 24)), (1, .int x1), (5, .int x5)]) hx hb dX7_foldFor_77 hl (by decide) rfl (fun ls hl => ?_)
  refine lv_aload_n hx hb dX7_foldFor_79 rfl (lv_at hl 2 rfl) ?_
  refine c_gX7_failure hx hb hts hown hK hP (hts _ kw_334) dX7_foldFor_80 ?_
  refine jk_i hf (fun res hres => jv_run hx hb hml hown hts hK hN c_hG c_hNW hl.1 (n := 0) (As := []) (rest := []) (c_cX2_is l hap σ res hres) hP (ci := 2) (q0 := 16) rfl rfl rfl kw_584 kw_635 kw_582 kw_583 kw_56 ⟨rfl, rfl⟩ (by decide +kernel) rfl ⟨Nat.le_of_ble_eq_true rfl, Nat.le_of_ble_eq_true rfl⟩ rfl (Nat.le_of_ble_eq_true rfl) dX7_foldFor_83) hS (fun v1 σ2 H locs hP hS hf => ?_)
  refine jb_eq (tgt := 91) hx hb hf dX7_foldFor_86 (by decide) (fun hf => ?_) (fun hf => ?_)
  · exact (p_cX7_foldFor_b91 C hap hk8) σ2 x1 s0 0 x5 hf H locs ls hP hS (lv_sub hl [2, 3, 1, 0, 4] rfl)
  · refine lv_lconst (v := 0) hx hb dX7_foldFor_89 (by decide) ?_
    exact jr_l hx hb hr hlocks hf hP hS dX7_foldFor_90
def s_cX7_foldFor_b8 (k8 : RS → Int32 → Int64 → Int32 → Int32 → Option (Int64 × RS)) (σ : RS) (x1 : Int32) (x2 : Int64) (x4 : Int32) (x5 : Int32) : Option (Int64 × RS) := if (rg_I σ 3) ≤ x5 then (some (x2, σ)) else (kn_ld (rg_A σ 11) 40 x5 (fun v1 => if v1 = 0 then (s_cX7_foldFor_b91 k8 σ x1 x2 x4 x5) else (kn_ld (rg_A σ 7) 40 x5 (fun v2 => if v2 = x1 then (if x4 = 0 then (kn_ld (rg_B σ 4) 40 x5 (fun v3 => kn_l (s_cX7_foldTwo σ x2 v3 x1) (fun v4 σ5 => s_cX7_foldFor_b75 k8 σ5 x1 x5 v4))) else (kn_ld (rg_B σ 4) 40 x5 (fun v6 => s_cX7_foldFor_b75 k8 σ x1 x5 v6))) else (s_cX7_foldFor_b91 k8 σ x1 x2 x4 x5)))))
set_option maxRecDepth 100000 in
set_option maxHeartbeats 4000000 in
theorem p_cX7_foldFor_b8 {p : Program} {l : Launch} {e : Env} {s : State} {m : MethodId} {args : Array Value} {below : List Frame} {meth : Method} {c : Code} {dC : Nat → ClassId} {dI : Nat → Nat → Nat} {kA : Nat → ClassId} {ad : Nat → Nat} (C : jxc cX7_foldFor (some .long) 6 RX7 p s m args meth c dC dI kA) (hap : jw_ap 57 ad) {res : Int64 × RS} {k8 : RS → Int32 → Int64 → Int32 → Int32 → Option (Int64 × RS)} (hk8 : G_cX7_foldFor_b8 p l e s m args below meth c dC dI kA ad res k8) : G_cX7_foldFor_b8 p l e s m args below meth c dC dI kA ad res (s_cX7_foldFor_b8 k8) := by
  obtain ⟨hx, hb, hml, hown, hts, hr, hlocks, hK, hN⟩ := id C
  intro σ x1 x2 x4 x5 hf H locs ls hP hS hl
  unfold s_cX7_foldFor_b8 at hf
  refine lv_iload hx hb dX7_foldFor_8 (lv_at hl 4 rfl) ?_
  refine lv_aload_n hx hb dX7_foldFor_10 rfl (lv_at hl 0 rfl) ?_
  refine c_gX7_web hx hb hts hown hK hP (hts _ kw_332) dX7_foldFor_11 ?_
  refine c_gX10_arcs hx hb hts hown hK hP (hts _ kw_141) dX7_foldFor_14 ?_
  refine jc_ge (tgt := 97) hx hb hf dX7_foldFor_17 (by decide) (fun hf => ?_) (fun hf => ?_)
  · refine lv_lload_n hx hb dX7_foldFor_97 rfl (lv_at hl 2 rfl) ?_
    exact jr_l hx hb hr hlocks hf hP hS dX7_foldFor_98
  · refine lv_aload_n hx hb dX7_foldFor_20 rfl (lv_at hl 0 rfl) ?_
    refine c_gX7_carries hx hb hts hown hK hP (hts _ kw_338) dX7_foldFor_21 ?_
    refine lv_iload hx hb dX7_foldFor_24 (lv_at hl 4 rfl) ?_
    refine ja_zld hx hb hK hP 26 2 rfl rfl hf dX7_foldFor_26 (fun v1 hf => ?_)
    refine jb_eq (tgt := 91) hx hb hf dX7_foldFor_27 (by decide) (fun hf => ?_) (fun hf => ?_)
    · exact (p_cX7_foldFor_b91 C hap hk8) σ x1 x2 x4 x5 hf H locs ls hP hS (lv_sub hl [0, 1, 2, 3, 4] rfl)
    · refine lv_aload_n hx hb dX7_foldFor_30 rfl (lv_at hl 0 rfl) ?_
      refine c_gX7_web hx hb hts hown hK hP (hts _ kw_332) dX7_foldFor_31 ?_
      refine c_gX10_to hx hb hts hown hK hP (hts _ kw_131) dX7_foldFor_34 ?_
      refine lv_iload hx hb dX7_foldFor_37 (lv_at hl 4 rfl) ?_
      refine ja_ild hx hb hK hP 12 0 rfl rfl hf dX7_foldFor_39 (fun v2 hf => ?_)
      refine lv_iload_n hx hb dX7_foldFor_40 rfl (lv_at hl 1 rfl) ?_
      refine jc_eq (tgt := 47) hx hb hf dX7_foldFor_41 (by decide) (fun hf => ?_) (fun hf => ?_)
      · refine lv_iload hx hb dX7_foldFor_47 (lv_at hl 3 rfl) ?_
        refine jb_eq (tgt := 62) hx hb hf dX7_foldFor_49 (by decide) (fun hf => ?_) (fun hf => ?_)
        · refine lv_aload_n hx hb dX7_foldFor_62 rfl (lv_at hl 0 rfl) ?_
          refine lv_lload_n hx hb dX7_foldFor_63 rfl (lv_at hl 2 rfl) ?_
          refine lv_aload_n hx hb dX7_foldFor_64 rfl (lv_at hl 0 rfl) ?_
          refine c_gX7_carried hx hb hts hown hK hP (hts _ kw_339) dX7_foldFor_65 ?_
          refine lv_iload hx hb dX7_foldFor_68 (lv_at hl 4 rfl) ?_
          refine ja_lld hx hb hK hP 27 1 rfl rfl hf dX7_foldFor_70 (fun v3 hf => ?_)
          refine lv_iload_n hx hb dX7_foldFor_71 rfl (lv_at hl 1 rfl) ?_
          refine jk_l hf (fun res hres => jv_run hx hb hml hown hts hK hN c_hG c_hNW hl.1 (n := 3) (As := [.long x2, .long v3, .int x1]) (rest := []) (c_cX7_foldTwo l hap σ x2 v3 x1 res hres) hP (ci := 7) (q0 := 24) rfl rfl rfl kw_655 kw_652 kw_654 kw_19 kw_62 ⟨rfl, rfl⟩ (by decide +kernel) rfl ⟨Nat.le_of_ble_eq_true rfl, Nat.le_of_ble_eq_true rfl⟩ rfl (Nat.le_of_ble_eq_true rfl) dX7_foldFor_72) hS (fun v4 σ5 H locs hP hS hf => ?_)
          exact (p_cX7_foldFor_b75 C hap hk8) σ5 x1 x5 v4 hf H locs ls hP hS (lv_sub hl [0, 1, 4] rfl)
        · refine lv_aload_n hx hb dX7_foldFor_52 rfl (lv_at hl 0 rfl) ?_
          refine c_gX7_carried hx hb hts hown hK hP (hts _ kw_339) dX7_foldFor_53 ?_
          refine lv_iload hx hb dX7_foldFor_56 (lv_at hl 4 rfl) ?_
          refine ja_lld hx hb hK hP 27 1 rfl rfl hf dX7_foldFor_58 (fun v6 hf => ?_)
          refine lv_goto (tgt := 75) hx hb dX7_foldFor_59 (by decide) ?_
          exact (p_cX7_foldFor_b75 C hap hk8) σ x1 x5 v6 hf H locs ls hP hS (lv_sub hl [0, 1, 4] rfl)
      · refine lv_goto (tgt := 91) hx hb dX7_foldFor_44 (by decide) ?_
        exact (p_cX7_foldFor_b91 C hap hk8) σ x1 x2 x4 x5 hf H locs ls hP hS (lv_sub hl [0, 1, 2, 3, 4] rfl)
def f_cX7_foldFor_b8 : RS → Int32 → Int64 → Int32 → Int32 → Option (Int64 × RS) := kn_fix (fun _ _ _ _ _ => none) (s_cX7_foldFor_b8) FU
theorem q_cX7_foldFor_b8 {p : Program} {l : Launch} {e : Env} {s : State} {m : MethodId} {args : Array Value} {below : List Frame} {meth : Method} {c : Code} {dC : Nat → ClassId} {dI : Nat → Nat → Nat} {kA : Nat → ClassId} {ad : Nat → Nat} (C : jxc cX7_foldFor (some .long) 6 RX7 p s m args meth c dC dI kA) (hap : jw_ap 57 ad) {res : Int64 × RS} : G_cX7_foldFor_b8 p l e s m args below meth c dC dI kA ad res (f_cX7_foldFor_b8) := kn_fix_ind (G := fun F => G_cX7_foldFor_b8 p l e s m args below meth c dC dI kA ad res F) (fun _ _ _ _ _ hf => by cases hf) (fun k8 hk8 => p_cX7_foldFor_b8 C hap hk8) FU
def s_cX7_foldFor (σ : RS) (x1 : Int32) : Option (Int64 × RS) := f_cX7_foldFor_b8 σ x1 0 1 0
set_option maxRecDepth 100000 in
set_option maxHeartbeats 4000000 in
theorem p_cX7_foldFor {p : Program} {l : Launch} {e : Env} {s : State} {m : MethodId} {args : Array Value} {below : List Frame} {meth : Method} {c : Code} {dC : Nat → ClassId} {dI : Nat → Nat → Nat} {kA : Nat → ClassId} {ad : Nat → Nat} (C : jxc cX7_foldFor (some .long) 6 RX7 p s m args meth c dC dI kA) (hap : jw_ap 57 ad) {res : Int64 × RS} : G_cX7_foldFor p l e s m args below meth c dC dI kA ad res (s_cX7_foldFor) := by
  obtain ⟨hx, hb, hml, hown, hts, hr, hlocks, hK, hN⟩ := id C
  intro σ x1 hf H locs ls hP hS hl
  unfold s_cX7_foldFor at hf
  refine lv_lconst (v := 0) hx hb dX7_foldFor_0 (by decide) ?_
  refine lv_lstore_n (lv' := [(2, .long 0), (0, .ref (ad 24)), (1, .int x1)]) hx hb dX7_foldFor_1 rfl hl (by decide) rfl (fun ls hl => ?_)
  refine lv_iconst (v := 1) hx hb dX7_foldFor_2 (by decide) ?_
  refine lv_istore (lv' := [(4, .int 1), (2, .long 0), (0, .ref (ad 24)), (1, .int x1)]) hx hb dX7_foldFor_3 hl (by decide) rfl (fun ls hl => ?_)
  refine lv_iconst (v := 0) hx hb dX7_foldFor_5 (by decide) ?_
  refine lv_istore (lv' := [(5, .int 0), (4, .int 1), (2, .long 0), (0, .ref (ad 24)), (1, .int x1)]) hx hb dX7_foldFor_6 hl (by decide) rfl (fun ls hl => ?_)
  exact (q_cX7_foldFor_b8 C hap) σ x1 0 1 0 hf H locs ls hP hS (lv_sub hl [3, 4, 2, 1, 0] rfl)
theorem c_cX7_foldFor (l : Launch) {dC : Nat → ClassId} {dI : Nat → Nat → Nat} {kA : Nat → ClassId} {ad : Nat → Nat} (hap : jw_ap 57 ad) (σ : RS) (x1 : Int32) (res : Int64 × RS) (hf : s_cX7_foldFor σ x1 = some res) : jm_l l KW NW (dC, dI) vwCl (jtys kA) (jw_A 57 ad) (c_w kA ad) yX7_foldFor cX7_foldFor 6 (rm_cX7_foldFor) [.ref (ad 24), .int x1] σ res := jm_l_of (by decide) (Nat.le_of_ble_eq_true rfl) (fun p e s m below meth c C hP hS ls hl => p_cX7_foldFor C hap σ x1 hf s.heap [] ls hP hS hl)

def rm_cX7_tellMessages : Room := { frames := 1, cells := 0, slots := 0, locals := 23 }
def G_cX7_tellMessages_b9 (p : Program) (l : Launch) (e : Env) (s : State) (m : MethodId) (args : Array Value) (below : List Frame) (meth : Method) (c : Code) (dC : Nat → ClassId) (dI : Nat → Nat → Nat) (kA : Nat → ClassId) (ad : Nat → Nat) (res : RS) (F : RS → Int32 → Option (RS)) : Prop := ∀ (σ : RS) (x1 : Int32), F σ x1 = some res → ∀ (H : Heap) (locs : List Loc) (ls : Array Slot), va_P (dC, dI) vwCl (c_w kA ad σ) H → va_S (jw_A 57 ad) s.heap H locs → lv_has ls 2 [(0, .ref (ad 24)), (1, .int x1)] → W p l e rm_cX7_tellMessages s m args below meth c H locs 0 0 (c_Qu below dC dI kA ad args s res) (F0 m 9 ls [])
def G_cX7_tellMessages (p : Program) (l : Launch) (e : Env) (s : State) (m : MethodId) (args : Array Value) (below : List Frame) (meth : Method) (c : Code) (dC : Nat → ClassId) (dI : Nat → Nat → Nat) (kA : Nat → ClassId) (ad : Nat → Nat) (res : RS) (F : RS → Option (RS)) : Prop := ∀ (σ : RS), F σ = some res → ∀ (H : Heap) (locs : List Loc) (ls : Array Slot), va_P (dC, dI) vwCl (c_w kA ad σ) H → va_S (jw_A 57 ad) s.heap H locs → lv_has ls 2 [(0, .ref (ad 24))] → W p l e rm_cX7_tellMessages s m args below meth c H locs 0 0 (c_Qu below dC dI kA ad args s res) (F0 m 0 ls [])
def s_cX7_tellMessages_b9 (k9 : RS → Int32 → Option (RS)) (σ : RS) (x1 : Int32) : Option (RS) := if (rg_I σ 18) ≤ x1 then some σ else (kn_ld (rg_A σ 10) 40 x1 (fun v1 => kn_ld (rg_A σ 10) 40 x1 (fun v2 => kn_ld (rg_B σ 4) 40 v2 (fun v3 => kn_u (s_cX9_add σ v1 v3) (fun σ5 => kn_v (x1 + 1) (fun v6 => k9 σ5 v6))))))
set_option maxRecDepth 100000 in
set_option maxHeartbeats 4000000 in
theorem p_cX7_tellMessages_b9 {p : Program} {l : Launch} {e : Env} {s : State} {m : MethodId} {args : Array Value} {below : List Frame} {meth : Method} {c : Code} {dC : Nat → ClassId} {dI : Nat → Nat → Nat} {kA : Nat → ClassId} {ad : Nat → Nat} (C : jxc cX7_tellMessages none 2 RX7 p s m args meth c dC dI kA) (hap : jw_ap 57 ad) {res : RS} {k9 : RS → Int32 → Option (RS)} (hk9 : G_cX7_tellMessages_b9 p l e s m args below meth c dC dI kA ad res k9) : G_cX7_tellMessages_b9 p l e s m args below meth c dC dI kA ad res (s_cX7_tellMessages_b9 k9) := by
  obtain ⟨hx, hb, hml, hown, hts, hr, hlocks, hK, hN⟩ := id C
  intro σ x1 hf H locs ls hP hS hl
  unfold s_cX7_tellMessages_b9 at hf
  refine lv_iload_n hx hb dX7_tellMessages_9 rfl (lv_at hl 1 rfl) ?_
  refine lv_aload_n hx hb dX7_tellMessages_10 rfl (lv_at hl 0 rfl) ?_
  refine c_gX7_sent hx hb hts hown hK hP (hts _ kw_343) dX7_tellMessages_11 ?_
  refine jc_ge (tgt := 47) hx hb hf dX7_tellMessages_14 (by decide) (fun hf => ?_) (fun hf => ?_)
  · exact jr_u hx hb hr hlocks hf hP hS dX7_tellMessages_47
  · refine lv_aload_n hx hb dX7_tellMessages_17 rfl (lv_at hl 0 rfl) ?_
    refine c_gX7_told hx hb hts hown hK hP (hts _ kw_336) dX7_tellMessages_18 ?_
    refine lv_aload_n hx hb dX7_tellMessages_21 rfl (lv_at hl 0 rfl) ?_
    refine c_gX7_sentArcs hx hb hts hown hK hP (hts _ kw_337) dX7_tellMessages_22 ?_
    refine lv_iload_n hx hb dX7_tellMessages_25 rfl (lv_at hl 1 rfl) ?_
    refine ja_ild hx hb hK hP 25 0 rfl rfl hf dX7_tellMessages_26 (fun v1 hf => ?_)
    refine lv_aload_n hx hb dX7_tellMessages_27 rfl (lv_at hl 0 rfl) ?_
    refine c_gX7_carried hx hb hts hown hK hP (hts _ kw_339) dX7_tellMessages_28 ?_
    refine lv_aload_n hx hb dX7_tellMessages_31 rfl (lv_at hl 0 rfl) ?_
    refine c_gX7_sentArcs hx hb hts hown hK hP (hts _ kw_337) dX7_tellMessages_32 ?_
    refine lv_iload_n hx hb dX7_tellMessages_35 rfl (lv_at hl 1 rfl) ?_
    refine ja_ild hx hb hK hP 25 0 rfl rfl hf dX7_tellMessages_36 (fun v2 hf => ?_)
    refine ja_lld hx hb hK hP 27 1 rfl rfl hf dX7_tellMessages_37 (fun v3 hf => ?_)
    refine jk_u hf (fun res hres => jv_run hx hb hml hown hts hK hN c_hG c_hNW hl.1 (n := 2) (As := [.int v1, .long v3]) (rest := []) (c_cX9_add l hap σ v1 v3 res hres) hP (ci := 9) (q0 := 19) rfl rfl rfl kw_603 kw_687 kw_601 kw_602 kw_59 ⟨rfl, rfl⟩ (by decide +kernel) rfl ⟨Nat.le_of_ble_eq_true rfl, Nat.le_of_ble_eq_true rfl⟩ rfl (Nat.le_of_ble_eq_true rfl) dX7_tellMessages_38) hS (fun σ5 H locs hP hS hf => ?_)
    obtain ⟨v6, e_v6, hf⟩ := kn_v_e hf
    refine lv_iinc (v := v6) (lv' := [(1, .int v6), (0, .ref (ad 24))]) hx hb dX7_tellMessages_41 hl (k := 1) rfl e_v6 (by decide) rfl (fun ls hl => ?_)
    refine lv_goto (tgt := 9) hx hb dX7_tellMessages_44 (by decide) ?_
    exact hk9 σ5 v6 hf H locs ls hP hS (lv_sub hl [1, 0] rfl)
def f_cX7_tellMessages_b9 : RS → Int32 → Option (RS) := kn_fix (fun _ _ => none) (s_cX7_tellMessages_b9) FU
theorem q_cX7_tellMessages_b9 {p : Program} {l : Launch} {e : Env} {s : State} {m : MethodId} {args : Array Value} {below : List Frame} {meth : Method} {c : Code} {dC : Nat → ClassId} {dI : Nat → Nat → Nat} {kA : Nat → ClassId} {ad : Nat → Nat} (C : jxc cX7_tellMessages none 2 RX7 p s m args meth c dC dI kA) (hap : jw_ap 57 ad) {res : RS} : G_cX7_tellMessages_b9 p l e s m args below meth c dC dI kA ad res (f_cX7_tellMessages_b9) := kn_fix_ind (G := fun F => G_cX7_tellMessages_b9 p l e s m args below meth c dC dI kA ad res F) (fun _ _ hf => by cases hf) (fun k9 hk9 => p_cX7_tellMessages_b9 C hap hk9) FU
def s_cX7_tellMessages (σ : RS) : Option (RS) := kn_u (s_cX9_clear σ) (fun σ2 => f_cX7_tellMessages_b9 σ2 0)
set_option maxRecDepth 100000 in
set_option maxHeartbeats 4000000 in
theorem p_cX7_tellMessages {p : Program} {l : Launch} {e : Env} {s : State} {m : MethodId} {args : Array Value} {below : List Frame} {meth : Method} {c : Code} {dC : Nat → ClassId} {dI : Nat → Nat → Nat} {kA : Nat → ClassId} {ad : Nat → Nat} (C : jxc cX7_tellMessages none 2 RX7 p s m args meth c dC dI kA) (hap : jw_ap 57 ad) {res : RS} : G_cX7_tellMessages p l e s m args below meth c dC dI kA ad res (s_cX7_tellMessages) := by
  obtain ⟨hx, hb, hml, hown, hts, hr, hlocks, hK, hN⟩ := id C
  intro σ hf H locs ls hP hS hl
  unfold s_cX7_tellMessages at hf
  refine lv_aload_n hx hb dX7_tellMessages_0 rfl (lv_at hl 0 rfl) ?_
  refine c_gX7_told hx hb hts hown hK hP (hts _ kw_336) dX7_tellMessages_1 ?_
  refine jk_u hf (fun res hres => jv_run hx hb hml hown hts hK hN c_hG c_hNW hl.1 (n := 0) (As := []) (rest := []) (c_cX9_clear l hap σ res hres) hP (ci := 9) (q0 := 19) rfl rfl rfl kw_599 kw_686 kw_597 kw_598 kw_59 ⟨rfl, rfl⟩ (by decide +kernel) rfl ⟨Nat.le_of_ble_eq_true rfl, Nat.le_of_ble_eq_true rfl⟩ rfl (Nat.le_of_ble_eq_true rfl) dX7_tellMessages_4) hS (fun σ2 H locs hP hS hf => ?_)
  refine lv_iconst (v := 0) hx hb dX7_tellMessages_7 (by decide) ?_
  refine lv_istore_n (lv' := [(1, .int 0), (0, .ref (ad 24))]) hx hb dX7_tellMessages_8 rfl hl (by decide) rfl (fun ls hl => ?_)
  exact (q_cX7_tellMessages_b9 C hap) σ2 0 hf H locs ls hP hS (lv_sub hl [1, 0] rfl)
theorem c_cX7_tellMessages (l : Launch) {dC : Nat → ClassId} {dI : Nat → Nat → Nat} {kA : Nat → ClassId} {ad : Nat → Nat} (hap : jw_ap 57 ad) (σ : RS) (res : RS) (hf : s_cX7_tellMessages σ = some res) : jm_u l KW NW (dC, dI) vwCl (jtys kA) (jw_A 57 ad) (c_w kA ad) yX7_tellMessages cX7_tellMessages 2 (rm_cX7_tellMessages) [.ref (ad 24)] σ res := jm_u_of (by decide) (Nat.le_of_ble_eq_true rfl) (fun p e s m below meth c C hP hS ls hl => p_cX7_tellMessages C hap σ hf s.heap [] ls hP hS hl)

def rm_cX8_add : Room := { frames := 1, cells := 0, slots := 0, locals := 21 }
def G_cX8_add_b86 (p : Program) (l : Launch) (e : Env) (s : State) (m : MethodId) (args : Array Value) (below : List Frame) (meth : Method) (c : Code) (dC : Nat → ClassId) (dI : Nat → Nat → Nat) (kA : Nat → ClassId) (ad : Nat → Nat) (res : Int32 × RS) (F : RS → Int32 → Int32 → Int32 → Int32 → Int64 → Option (Int32 × RS)) : Prop := ∀ (σ : RS) (x1 : Int32) (x2 : Int32) (x3 : Int32) (x4 : Int32) (x5 : Int64), F σ x1 x2 x3 x4 x5 = some res → ∀ (H : Heap) (locs : List Loc) (ls : Array Slot), va_P (dC, dI) vwCl (c_w kA ad σ) H → va_S (jw_A 57 ad) s.heap H locs → lv_has ls 8 [(0, .ref (ad 1)), (1, .int x1), (2, .int x2), (3, .int x3), (4, .int x4), (5, .long x5)] → W p l e rm_cX8_add s m args below meth c H locs 0 0 (c_Qi below dC dI kA ad args s res) (F0 m 86 ls [])
def G_cX8_add_b70 (p : Program) (l : Launch) (e : Env) (s : State) (m : MethodId) (args : Array Value) (below : List Frame) (meth : Method) (c : Code) (dC : Nat → ClassId) (dI : Nat → Nat → Nat) (kA : Nat → ClassId) (ad : Nat → Nat) (res : Int32 × RS) (F : RS → Int32 → Int32 → Int32 → Int32 → Int64 → Option (Int32 × RS)) : Prop := ∀ (σ : RS) (x1 : Int32) (x2 : Int32) (x3 : Int32) (x4 : Int32) (x5 : Int64), F σ x1 x2 x3 x4 x5 = some res → ∀ (H : Heap) (locs : List Loc) (ls : Array Slot), va_P (dC, dI) vwCl (c_w kA ad σ) H → va_S (jw_A 57 ad) s.heap H locs → lv_has ls 8 [(0, .ref (ad 1)), (1, .int x1), (2, .int x2), (3, .int x3), (4, .int x4), (5, .long x5)] → W p l e rm_cX8_add s m args below meth c H locs 0 0 (c_Qi below dC dI kA ad args s res) (F0 m 70 ls [])
def G_cX8_add_b52 (p : Program) (l : Launch) (e : Env) (s : State) (m : MethodId) (args : Array Value) (below : List Frame) (meth : Method) (c : Code) (dC : Nat → ClassId) (dI : Nat → Nat → Nat) (kA : Nat → ClassId) (ad : Nat → Nat) (res : Int32 × RS) (F : RS → Int32 → Int32 → Int32 → Int32 → Int64 → Int32 → Option (Int32 × RS)) : Prop := ∀ (σ : RS) (x1 : Int32) (x2 : Int32) (x3 : Int32) (x4 : Int32) (x5 : Int64) (x7 : Int32), F σ x1 x2 x3 x4 x5 x7 = some res → ∀ (H : Heap) (locs : List Loc) (ls : Array Slot), va_P (dC, dI) vwCl (c_w kA ad σ) H → va_S (jw_A 57 ad) s.heap H locs → lv_has ls 8 [(0, .ref (ad 1)), (1, .int x1), (2, .int x2), (3, .int x3), (4, .int x4), (5, .long x5), (7, .int x7)] → W p l e rm_cX8_add s m args below meth c H locs 0 0 (c_Qi below dC dI kA ad args s res) (F0 m 52 ls [])
def G_cX8_add_b35 (p : Program) (l : Launch) (e : Env) (s : State) (m : MethodId) (args : Array Value) (below : List Frame) (meth : Method) (c : Code) (dC : Nat → ClassId) (dI : Nat → Nat → Nat) (kA : Nat → ClassId) (ad : Nat → Nat) (res : Int32 × RS) (F : RS → Int32 → Int32 → Int32 → Int32 → Int64 → Int32 → Option (Int32 × RS)) : Prop := ∀ (σ : RS) (x1 : Int32) (x2 : Int32) (x3 : Int32) (x4 : Int32) (x5 : Int64) (x7 : Int32), F σ x1 x2 x3 x4 x5 x7 = some res → ∀ (H : Heap) (locs : List Loc) (ls : Array Slot), va_P (dC, dI) vwCl (c_w kA ad σ) H → va_S (jw_A 57 ad) s.heap H locs → lv_has ls 8 [(0, .ref (ad 1)), (1, .int x1), (2, .int x2), (3, .int x3), (4, .int x4), (5, .long x5), (7, .int x7)] → W p l e rm_cX8_add s m args below meth c H locs 0 0 (c_Qi below dC dI kA ad args s res) (F0 m 35 ls [])
def G_cX8_add (p : Program) (l : Launch) (e : Env) (s : State) (m : MethodId) (args : Array Value) (below : List Frame) (meth : Method) (c : Code) (dC : Nat → ClassId) (dI : Nat → Nat → Nat) (kA : Nat → ClassId) (ad : Nat → Nat) (res : Int32 × RS) (F : RS → Int32 → Int32 → Int32 → Int32 → Int64 → Option (Int32 × RS)) : Prop := ∀ (σ : RS) (x1 : Int32) (x2 : Int32) (x3 : Int32) (x4 : Int32) (x5 : Int64), F σ x1 x2 x3 x4 x5 = some res → ∀ (H : Heap) (locs : List Loc) (ls : Array Slot), va_P (dC, dI) vwCl (c_w kA ad σ) H → va_S (jw_A 57 ad) s.heap H locs → lv_has ls 8 [(0, .ref (ad 1)), (1, .int x1), (2, .int x2), (3, .int x3), (4, .int x4), (5, .long x5)] → W p l e rm_cX8_add s m args below meth c H locs 0 0 (c_Qi below dC dI kA ad args s res) (F0 m 0 ls [])
def s_cX8_add_b86 (σ : RS) (x1 : Int32) (x2 : Int32) (x3 : Int32) (x4 : Int32) (x5 : Int64) : Option (Int32 × RS) := if (rg_I σ 1) < 40 then (kn_st (rs_A σ 0 (upd (rg_A σ 0) (rg_I σ 1).toNatClampNeg x1)) 40 (rg_I σ 1) (fun σ1 => kn_st (rs_A σ1 1 (upd (rg_A σ1 1) (rg_I σ1 1).toNatClampNeg x2)) 40 (rg_I σ1 1) (fun σ2 => kn_st (rs_A σ2 2 (upd (rg_A σ2 2) (rg_I σ2 1).toNatClampNeg x3)) 40 (rg_I σ2 1) (fun σ3 => kn_st (rs_A σ3 3 (upd (rg_A σ3 3) (rg_I σ3 1).toNatClampNeg x4)) 40 (rg_I σ3 1) (fun σ4 => kn_st (rs_B σ4 0 (vp_updL (rg_B σ4 0) (rg_I σ4 1).toNatClampNeg x5)) 40 (rg_I σ4 1) (fun σ5 => kn_v (rs_I σ5 1 ((rg_I σ5 1) + 1)) (fun σ6 => some ((rg_I σ6 1) - 1, σ6)))))))) else (some ((-103), σ))
set_option maxRecDepth 100000 in
set_option maxHeartbeats 4000000 in
theorem p_cX8_add_b86 {p : Program} {l : Launch} {e : Env} {s : State} {m : MethodId} {args : Array Value} {below : List Frame} {meth : Method} {c : Code} {dC : Nat → ClassId} {dI : Nat → Nat → Nat} {kA : Nat → ClassId} {ad : Nat → Nat} (C : jxc cX8_add (some .int) 8 RX8 p s m args meth c dC dI kA) (hap : jw_ap 57 ad) {res : Int32 × RS} : G_cX8_add_b86 p l e s m args below meth c dC dI kA ad res (s_cX8_add_b86) := by
  obtain ⟨hx, hb, hml, hown, hts, hr, hlocks, hK, hN⟩ := id C
  intro σ x1 x2 x3 x4 x5 hf H locs ls hP hS hl
  unfold s_cX8_add_b86 at hf
  refine lv_aload_n hx hb dX8_add_86 rfl (lv_at hl 0 rfl) ?_
  refine c_gX8_size hx hb hts hown hK hP (hts _ kw_91) dX8_add_87 ?_
  refine lv_bipush (v := 40) hx hb dX8_add_90 (by decide) ?_
  refine jc_lt (tgt := 98) hx hb hf dX8_add_92 (by decide) (fun hf => ?_) (fun hf => ?_)
  · refine lv_aload_n hx hb dX8_add_98 rfl (lv_at hl 0 rfl) ?_
    refine c_gX8_kinds hx hb hts hown hK hP (hts _ kw_81) dX8_add_99 ?_
    refine lv_aload_n hx hb dX8_add_102 rfl (lv_at hl 0 rfl) ?_
    refine c_gX8_size hx hb hts hown hK hP (hts _ kw_91) dX8_add_103 ?_
    refine lv_iload_n hx hb dX8_add_106 rfl (lv_at hl 1 rfl) ?_
    refine ja_ist hx hb hK (c_D hap σ) hP hS 2 0 rfl rfl c_sA0 hf dX8_add_107 (fun σ1 H locs hP hS hf => ?_)
    refine lv_aload_n hx hb dX8_add_108 rfl (lv_at hl 0 rfl) ?_
    refine c_gX8_partA hx hb hts hown hK hP (hts _ kw_83) dX8_add_109 ?_
    refine lv_aload_n hx hb dX8_add_112 rfl (lv_at hl 0 rfl) ?_
    refine c_gX8_size hx hb hts hown hK hP (hts _ kw_91) dX8_add_113 ?_
    refine lv_iload_n hx hb dX8_add_116 rfl (lv_at hl 2 rfl) ?_
    refine ja_ist hx hb hK (c_D hap σ1) hP hS 3 0 rfl rfl c_sA1 hf dX8_add_117 (fun σ2 H locs hP hS hf => ?_)
    refine lv_aload_n hx hb dX8_add_118 rfl (lv_at hl 0 rfl) ?_
    refine c_gX8_partB hx hb hts hown hK hP (hts _ kw_85) dX8_add_119 ?_
    refine lv_aload_n hx hb dX8_add_122 rfl (lv_at hl 0 rfl) ?_
    refine c_gX8_size hx hb hts hown hK hP (hts _ kw_91) dX8_add_123 ?_
    refine lv_iload_n hx hb dX8_add_126 rfl (lv_at hl 3 rfl) ?_
    refine ja_ist hx hb hK (c_D hap σ2) hP hS 4 0 rfl rfl c_sA2 hf dX8_add_127 (fun σ3 H locs hP hS hf => ?_)
    refine lv_aload_n hx hb dX8_add_128 rfl (lv_at hl 0 rfl) ?_
    refine c_gX8_partC hx hb hts hown hK hP (hts _ kw_87) dX8_add_129 ?_
    refine lv_aload_n hx hb dX8_add_132 rfl (lv_at hl 0 rfl) ?_
    refine c_gX8_size hx hb hts hown hK hP (hts _ kw_91) dX8_add_133 ?_
    refine lv_iload hx hb dX8_add_136 (lv_at hl 4 rfl) ?_
    refine ja_ist hx hb hK (c_D hap σ3) hP hS 5 0 rfl rfl c_sA3 hf dX8_add_138 (fun σ4 H locs hP hS hf => ?_)
    refine lv_aload_n hx hb dX8_add_139 rfl (lv_at hl 0 rfl) ?_
    refine c_gX8_numbers hx hb hts hown hK hP (hts _ kw_89) dX8_add_140 ?_
    refine lv_aload_n hx hb dX8_add_143 rfl (lv_at hl 0 rfl) ?_
    refine c_gX8_size hx hb hts hown hK hP (hts _ kw_91) dX8_add_144 ?_
    refine lv_lload hx hb dX8_add_147 (lv_at hl 5 rfl) ?_
    refine ja_lst hx hb hK (c_D hap σ4) hP hS 6 1 rfl rfl c_sB0 hf dX8_add_149 (fun σ5 H locs hP hS hf => ?_)
    refine lv_aload_n hx hb dX8_add_150 rfl (lv_at hl 0 rfl) ?_
    refine lv_dup hx hb dX8_add_151 rfl ?_
    refine c_gX8_size hx hb hts hown hK hP (hts _ kw_91) dX8_add_152 ?_
    refine lv_iconst (v := 1) hx hb dX8_add_155 (by decide) ?_
    refine lv_iadd hx hb dX8_add_156 ?_
    refine c_pX8_size hx hb hts hown hK hap hP hS hf (hts _ kw_91) dX8_add_157 (fun σ6 H locs hP hS hf => ?_)
    refine lv_aload_n hx hb dX8_add_160 rfl (lv_at hl 0 rfl) ?_
    refine c_gX8_size hx hb hts hown hK hP (hts _ kw_91) dX8_add_161 ?_
    refine lv_iconst (v := 1) hx hb dX8_add_164 (by decide) ?_
    refine lv_isub hx hb dX8_add_165 ?_
    exact jr_i hx hb hr hlocks hf rfl hP hS dX8_add_166
  · refine lv_bipush (v := (-103)) hx hb dX8_add_95 (by decide) ?_
    exact jr_i hx hb hr hlocks hf rfl hP hS dX8_add_97
def s_cX8_add_b70 (σ : RS) (x1 : Int32) (x2 : Int32) (x3 : Int32) (x4 : Int32) (x5 : Int64) : Option (Int32 × RS) := if x1 = 1 then (kn_i (s_cX11_isState σ x5) (fun v1 σ2 => if v1 = 0 then (some ((-102), σ2)) else (s_cX8_add_b86 σ2 x1 x2 x3 x4 x5))) else (s_cX8_add_b86 σ x1 x2 x3 x4 x5)
set_option maxRecDepth 100000 in
set_option maxHeartbeats 4000000 in
theorem p_cX8_add_b70 {p : Program} {l : Launch} {e : Env} {s : State} {m : MethodId} {args : Array Value} {below : List Frame} {meth : Method} {c : Code} {dC : Nat → ClassId} {dI : Nat → Nat → Nat} {kA : Nat → ClassId} {ad : Nat → Nat} (C : jxc cX8_add (some .int) 8 RX8 p s m args meth c dC dI kA) (hap : jw_ap 57 ad) {res : Int32 × RS} : G_cX8_add_b70 p l e s m args below meth c dC dI kA ad res (s_cX8_add_b70) := by
  obtain ⟨hx, hb, hml, hown, hts, hr, hlocks, hK, hN⟩ := id C
  intro σ x1 x2 x3 x4 x5 hf H locs ls hP hS hl
  unfold s_cX8_add_b70 at hf
  refine lv_iload_n hx hb dX8_add_70 rfl (lv_at hl 1 rfl) ?_
  refine lv_iconst (v := 1) hx hb dX8_add_71 (by decide) ?_
  refine jc_ne (tgt := 86) hx hb hf dX8_add_72 (by decide) (fun hf => ?_) (fun hf => ?_)
  · exact (p_cX8_add_b86 C hap) σ x1 x2 x3 x4 x5 hf H locs ls hP hS (lv_sub hl [0, 1, 2, 3, 4, 5] rfl)
  · refine lv_lload hx hb dX8_add_75 (lv_at hl 5 rfl) ?_
    refine jk_i hf (fun res hres => js_runN hx hb hml hown hts hK hN c_hG c_hNW hl.1 (n := 1) (As := [.long x5]) (rest := []) (c_cX11_isState l hap σ x5 res hres) hP kw_460 nw_458 kw_459 kw_52 ⟨rfl, rfl⟩ (by decide +kernel) rfl ⟨Nat.le_of_ble_eq_true rfl, Nat.le_of_ble_eq_true rfl⟩ rfl (Nat.le_of_ble_eq_true rfl) dX8_add_77) hS (fun v1 σ2 H locs hP hS hf => ?_)
    refine jb_ne (tgt := 86) hx hb hf dX8_add_80 (by decide) (fun hf => ?_) (fun hf => ?_)
    · exact (p_cX8_add_b86 C hap) σ2 x1 x2 x3 x4 x5 hf H locs ls hP hS (lv_sub hl [0, 1, 2, 3, 4, 5] rfl)
    · refine lv_bipush (v := (-102)) hx hb dX8_add_83 (by decide) ?_
      exact jr_i hx hb hr hlocks hf rfl hP hS dX8_add_85
def s_cX8_add_b52 (σ : RS) (x1 : Int32) (x2 : Int32) (x3 : Int32) (x4 : Int32) (x5 : Int64) (x7 : Int32) : Option (Int32 × RS) := if x7 ≤ 2 then (s_cX8_add_b70 σ x1 x2 x3 x4 x5) else (kn_i (s_cX8_has σ x4) (fun v1 σ2 => if v1 = 0 then (some ((-101), σ2)) else (s_cX8_add_b70 σ2 x1 x2 x3 x4 x5)))
set_option maxRecDepth 100000 in
set_option maxHeartbeats 4000000 in
theorem p_cX8_add_b52 {p : Program} {l : Launch} {e : Env} {s : State} {m : MethodId} {args : Array Value} {below : List Frame} {meth : Method} {c : Code} {dC : Nat → ClassId} {dI : Nat → Nat → Nat} {kA : Nat → ClassId} {ad : Nat → Nat} (C : jxc cX8_add (some .int) 8 RX8 p s m args meth c dC dI kA) (hap : jw_ap 57 ad) {res : Int32 × RS} : G_cX8_add_b52 p l e s m args below meth c dC dI kA ad res (s_cX8_add_b52) := by
  obtain ⟨hx, hb, hml, hown, hts, hr, hlocks, hK, hN⟩ := id C
  intro σ x1 x2 x3 x4 x5 x7 hf H locs ls hP hS hl
  unfold s_cX8_add_b52 at hf
  refine lv_iload hx hb dX8_add_52 (lv_at hl 6 rfl) ?_
  refine lv_iconst (v := 2) hx hb dX8_add_54 (by decide) ?_
  refine jc_le (tgt := 70) hx hb hf dX8_add_55 (by decide) (fun hf => ?_) (fun hf => ?_)
  · exact (p_cX8_add_b70 C hap) σ x1 x2 x3 x4 x5 hf H locs ls hP hS (lv_sub hl [0, 1, 2, 3, 4, 5] rfl)
  · refine lv_aload_n hx hb dX8_add_58 rfl (lv_at hl 0 rfl) ?_
    refine lv_iload hx hb dX8_add_59 (lv_at hl 4 rfl) ?_
    refine jk_i hf (fun res hres => jv_run hx hb hml hown hts hK hN c_hG c_hNW hl.1 (n := 1) (As := [.int x4]) (rest := []) (c_cX8_has l hap σ x4 res hres) hP (ci := 8) (q0 := 1) rfl rfl rfl kw_457 kw_454 kw_455 kw_456 kw_53 ⟨rfl, rfl⟩ (by decide +kernel) rfl ⟨Nat.le_of_ble_eq_true rfl, Nat.le_of_ble_eq_true rfl⟩ rfl (Nat.le_of_ble_eq_true rfl) dX8_add_61) hS (fun v1 σ2 H locs hP hS hf => ?_)
    refine jb_ne (tgt := 70) hx hb hf dX8_add_64 (by decide) (fun hf => ?_) (fun hf => ?_)
    · exact (p_cX8_add_b70 C hap) σ2 x1 x2 x3 x4 x5 hf H locs ls hP hS (lv_sub hl [0, 1, 2, 3, 4, 5] rfl)
    · refine lv_bipush (v := (-101)) hx hb dX8_add_67 (by decide) ?_
      exact jr_i hx hb hr hlocks hf rfl hP hS dX8_add_69
def s_cX8_add_b35 (σ : RS) (x1 : Int32) (x2 : Int32) (x3 : Int32) (x4 : Int32) (x5 : Int64) (x7 : Int32) : Option (Int32 × RS) := if x7 ≤ 1 then (s_cX8_add_b52 σ x1 x2 x3 x4 x5 x7) else (kn_i (s_cX8_has σ x3) (fun v1 σ2 => if v1 = 0 then (some ((-101), σ2)) else (s_cX8_add_b52 σ2 x1 x2 x3 x4 x5 x7)))
set_option maxRecDepth 100000 in
set_option maxHeartbeats 4000000 in
theorem p_cX8_add_b35 {p : Program} {l : Launch} {e : Env} {s : State} {m : MethodId} {args : Array Value} {below : List Frame} {meth : Method} {c : Code} {dC : Nat → ClassId} {dI : Nat → Nat → Nat} {kA : Nat → ClassId} {ad : Nat → Nat} (C : jxc cX8_add (some .int) 8 RX8 p s m args meth c dC dI kA) (hap : jw_ap 57 ad) {res : Int32 × RS} : G_cX8_add_b35 p l e s m args below meth c dC dI kA ad res (s_cX8_add_b35) := by
  obtain ⟨hx, hb, hml, hown, hts, hr, hlocks, hK, hN⟩ := id C
  intro σ x1 x2 x3 x4 x5 x7 hf H locs ls hP hS hl
  unfold s_cX8_add_b35 at hf
  refine lv_iload hx hb dX8_add_35 (lv_at hl 6 rfl) ?_
  refine lv_iconst (v := 1) hx hb dX8_add_37 (by decide) ?_
  refine jc_le (tgt := 52) hx hb hf dX8_add_38 (by decide) (fun hf => ?_) (fun hf => ?_)
  · exact (p_cX8_add_b52 C hap) σ x1 x2 x3 x4 x5 x7 hf H locs ls hP hS (lv_sub hl [0, 1, 2, 3, 4, 5, 6] rfl)
  · refine lv_aload_n hx hb dX8_add_41 rfl (lv_at hl 0 rfl) ?_
    refine lv_iload_n hx hb dX8_add_42 rfl (lv_at hl 3 rfl) ?_
    refine jk_i hf (fun res hres => jv_run hx hb hml hown hts hK hN c_hG c_hNW hl.1 (n := 1) (As := [.int x3]) (rest := []) (c_cX8_has l hap σ x3 res hres) hP (ci := 8) (q0 := 1) rfl rfl rfl kw_457 kw_454 kw_455 kw_456 kw_53 ⟨rfl, rfl⟩ (by decide +kernel) rfl ⟨Nat.le_of_ble_eq_true rfl, Nat.le_of_ble_eq_true rfl⟩ rfl (Nat.le_of_ble_eq_true rfl) dX8_add_43) hS (fun v1 σ2 H locs hP hS hf => ?_)
    refine jb_ne (tgt := 52) hx hb hf dX8_add_46 (by decide) (fun hf => ?_) (fun hf => ?_)
    · exact (p_cX8_add_b52 C hap) σ2 x1 x2 x3 x4 x5 x7 hf H locs ls hP hS (lv_sub hl [0, 1, 2, 3, 4, 5, 6] rfl)
    · refine lv_bipush (v := (-101)) hx hb dX8_add_49 (by decide) ?_
      exact jr_i hx hb hr hlocks hf rfl hP hS dX8_add_51
def s_cX8_add (σ : RS) (x1 : Int32) (x2 : Int32) (x3 : Int32) (x4 : Int32) (x5 : Int64) : Option (Int32 × RS) := if x1 < 0 then (some ((-102), σ)) else (if x1 ≤ 17 then (kn_i (s_cX8_partsOf σ x1) (fun v1 σ2 => if v1 ≤ 0 then (s_cX8_add_b35 σ2 x1 x2 x3 x4 x5 v1) else (kn_i (s_cX8_has σ2 x2) (fun v3 σ4 => if v3 = 0 then (some ((-101), σ4)) else (s_cX8_add_b35 σ4 x1 x2 x3 x4 x5 v1))))) else (some ((-102), σ)))
set_option maxRecDepth 100000 in
set_option maxHeartbeats 4000000 in
theorem p_cX8_add {p : Program} {l : Launch} {e : Env} {s : State} {m : MethodId} {args : Array Value} {below : List Frame} {meth : Method} {c : Code} {dC : Nat → ClassId} {dI : Nat → Nat → Nat} {kA : Nat → ClassId} {ad : Nat → Nat} (C : jxc cX8_add (some .int) 8 RX8 p s m args meth c dC dI kA) (hap : jw_ap 57 ad) {res : Int32 × RS} : G_cX8_add p l e s m args below meth c dC dI kA ad res (s_cX8_add) := by
  obtain ⟨hx, hb, hml, hown, hts, hr, hlocks, hK, hN⟩ := id C
  intro σ x1 x2 x3 x4 x5 hf H locs ls hP hS hl
  unfold s_cX8_add at hf
  refine lv_iload_n hx hb dX8_add_0 rfl (lv_at hl 1 rfl) ?_
  refine jb_lt (tgt := 10) hx hb hf dX8_add_1 (by decide) (fun hf => ?_) (fun hf => ?_)
  · refine lv_bipush (v := (-102)) hx hb dX8_add_10 (by decide) ?_
    exact jr_i hx hb hr hlocks hf rfl hP hS dX8_add_12
  · refine lv_iload_n hx hb dX8_add_4 rfl (lv_at hl 1 rfl) ?_
    refine lv_bipush (v := 17) hx hb dX8_add_5 (by decide) ?_
    refine jc_le (tgt := 13) hx hb hf dX8_add_7 (by decide) (fun hf => ?_) (fun hf => ?_)
    · refine lv_iload_n hx hb dX8_add_13 rfl (lv_at hl 1 rfl) ?_
      refine jk_i hf (fun res hres => js_run hx hb hml hown hts hK hN c_hG c_hNW hl.1 (n := 1) (As := [.int x1]) (rest := []) (c_cX8_partsOf l hap σ x1 res hres) hP kw_453 kw_451 kw_452 kw_53 ⟨rfl, rfl⟩ (by decide +kernel) rfl ⟨Nat.le_of_ble_eq_true rfl, Nat.le_of_ble_eq_true rfl⟩ rfl (Nat.le_of_ble_eq_true rfl) dX8_add_14) hS (fun v1 σ2 H locs hP hS hf => ?_)
      refine lv_istore (lv' := [(7, .int v1), (0, .ref (ad 1)), (1, .int x1), (2, .int x2), (3, .int x3), (4, .int x4), (5, .long x5)]) hx hb dX8_add_17 hl (by decide) rfl (fun ls hl => ?_)
      refine lv_iload hx hb dX8_add_19 (lv_at hl 0 rfl) ?_
      refine jb_le (tgt := 35) hx hb hf dX8_add_21 (by decide) (fun hf => ?_) (fun hf => ?_)
      · exact (p_cX8_add_b35 C hap) σ2 x1 x2 x3 x4 x5 v1 hf H locs ls hP hS (lv_sub hl [1, 2, 3, 4, 5, 6, 0] rfl)
      · refine lv_aload_n hx hb dX8_add_24 rfl (lv_at hl 1 rfl) ?_
        refine lv_iload_n hx hb dX8_add_25 rfl (lv_at hl 3 rfl) ?_
        refine jk_i hf (fun res hres => jv_run hx hb hml hown hts hK hN c_hG c_hNW hl.1 (n := 1) (As := [.int x2]) (rest := []) (c_cX8_has l hap σ2 x2 res hres) hP (ci := 8) (q0 := 1) rfl rfl rfl kw_457 kw_454 kw_455 kw_456 kw_53 ⟨rfl, rfl⟩ (by decide +kernel) rfl ⟨Nat.le_of_ble_eq_true rfl, Nat.le_of_ble_eq_true rfl⟩ rfl (Nat.le_of_ble_eq_true rfl) dX8_add_26) hS (fun v3 σ4 H locs hP hS hf => ?_)
        refine jb_ne (tgt := 35) hx hb hf dX8_add_29 (by decide) (fun hf => ?_) (fun hf => ?_)
        · exact (p_cX8_add_b35 C hap) σ4 x1 x2 x3 x4 x5 v1 hf H locs ls hP hS (lv_sub hl [1, 2, 3, 4, 5, 6, 0] rfl)
        · refine lv_bipush (v := (-101)) hx hb dX8_add_32 (by decide) ?_
          exact jr_i hx hb hr hlocks hf rfl hP hS dX8_add_34
    · refine lv_bipush (v := (-102)) hx hb dX8_add_10 (by decide) ?_
      exact jr_i hx hb hr hlocks hf rfl hP hS dX8_add_12
theorem c_cX8_add (l : Launch) {dC : Nat → ClassId} {dI : Nat → Nat → Nat} {kA : Nat → ClassId} {ad : Nat → Nat} (hap : jw_ap 57 ad) (σ : RS) (x1 : Int32) (x2 : Int32) (x3 : Int32) (x4 : Int32) (x5 : Int64) (res : Int32 × RS) (hf : s_cX8_add σ x1 x2 x3 x4 x5 = some res) : jm_i l KW NW (dC, dI) vwCl (jtys kA) (jw_A 57 ad) (c_w kA ad) yX8_add cX8_add 8 .int (rm_cX8_add) [.ref (ad 1), .int x1, .int x2, .int x3, .int x4, .long x5] σ res := jm_i_of (by decide) (Nat.le_of_ble_eq_true rfl) (fun p e s m below meth c C hP hS ls hl => p_cX8_add C hap σ x1 x2 x3 x4 x5 hf s.heap [] ls hP hS hl)

def rm_cX11_term : Room := { frames := 2, cells := 0, slots := 0, locals := 48 }
def G_cX11_term (p : Program) (l : Launch) (e : Env) (s : State) (m : MethodId) (args : Array Value) (below : List Frame) (meth : Method) (c : Code) (dC : Nat → ClassId) (dI : Nat → Nat → Nat) (kA : Nat → ClassId) (ad : Nat → Nat) (res : Int32 × RS) (F : RS → Int32 → Int32 → Int32 → Int32 → Int64 → Option (Int32 × RS)) : Prop := ∀ (σ : RS) (x1 : Int32) (x2 : Int32) (x3 : Int32) (x4 : Int32) (x5 : Int64), F σ x1 x2 x3 x4 x5 = some res → ∀ (H : Heap) (locs : List Loc) (ls : Array Slot), va_P (dC, dI) vwCl (c_w kA ad σ) H → va_S (jw_A 57 ad) s.heap H locs → lv_has ls 7 [(0, .ref (ad 0)), (1, .int x1), (2, .int x2), (3, .int x3), (4, .int x4), (5, .long x5)] → W p l e rm_cX11_term s m args below meth c H locs 0 0 (c_Qi below dC dI kA ad args s res) (F0 m 0 ls [])
def s_cX11_term (σ : RS) (x1 : Int32) (x2 : Int32) (x3 : Int32) (x4 : Int32) (x5 : Int64) : Option (Int32 × RS) := kn_i (s_cX8_add σ x1 x2 x3 x4 x5) (fun v1 σ2 => some (v1, σ2))
set_option maxRecDepth 100000 in
set_option maxHeartbeats 4000000 in
theorem p_cX11_term {p : Program} {l : Launch} {e : Env} {s : State} {m : MethodId} {args : Array Value} {below : List Frame} {meth : Method} {c : Code} {dC : Nat → ClassId} {dI : Nat → Nat → Nat} {kA : Nat → ClassId} {ad : Nat → Nat} (C : jxc cX11_term (some .int) 7 RX11 p s m args meth c dC dI kA) (hap : jw_ap 57 ad) {res : Int32 × RS} : G_cX11_term p l e s m args below meth c dC dI kA ad res (s_cX11_term) := by
  obtain ⟨hx, hb, hml, hown, hts, hr, hlocks, hK, hN⟩ := id C
  intro σ x1 x2 x3 x4 x5 hf H locs ls hP hS hl
  unfold s_cX11_term at hf
  refine lv_aload_n hx hb dX11_term_0 rfl (lv_at hl 0 rfl) ?_
  refine c_gX11_terms hx hb hts hown hK hP (hts _ kw_409) dX11_term_1 ?_
  refine lv_iload_n hx hb dX11_term_4 rfl (lv_at hl 1 rfl) ?_
  refine lv_iload_n hx hb dX11_term_5 rfl (lv_at hl 2 rfl) ?_
  refine lv_iload_n hx hb dX11_term_6 rfl (lv_at hl 3 rfl) ?_
  refine lv_iload hx hb dX11_term_7 (lv_at hl 4 rfl) ?_
  refine lv_lload hx hb dX11_term_9 (lv_at hl 5 rfl) ?_
  refine jk_i hf (fun res hres => jv_run hx hb hml hown hts hK hN c_hG c_hNW hl.1 (n := 5) (As := [.int x1, .int x2, .int x3, .int x4, .long x5]) (rest := []) (c_cX8_add l hap σ x1 x2 x3 x4 x5 res hres) hP (ci := 8) (q0 := 1) rfl rfl rfl kw_450 kw_447 kw_448 kw_449 kw_53 ⟨rfl, rfl⟩ (by decide +kernel) rfl ⟨Nat.le_of_ble_eq_true rfl, Nat.le_of_ble_eq_true rfl⟩ rfl (Nat.le_of_ble_eq_true rfl) dX11_term_11) hS (fun v1 σ2 H locs hP hS hf => ?_)
  exact jr_i hx hb hr hlocks hf rfl hP hS dX11_term_14
theorem c_cX11_term (l : Launch) {dC : Nat → ClassId} {dI : Nat → Nat → Nat} {kA : Nat → ClassId} {ad : Nat → Nat} (hap : jw_ap 57 ad) (σ : RS) (x1 : Int32) (x2 : Int32) (x3 : Int32) (x4 : Int32) (x5 : Int64) (res : Int32 × RS) (hf : s_cX11_term σ x1 x2 x3 x4 x5 = some res) : jm_i l KW NW (dC, dI) vwCl (jtys kA) (jw_A 57 ad) (c_w kA ad) yX11_term cX11_term 7 .int (rm_cX11_term) [.ref (ad 0), .int x1, .int x2, .int x3, .int x4, .long x5] σ res := jm_i_of (by decide) (Nat.le_of_ble_eq_true rfl) (fun p e s m below meth c C hP hS ls hl => p_cX11_term C hap σ x1 x2 x3 x4 x5 hf s.heap [] ls hP hS hl)

def rm_cX11_node : Room := { frames := 2, cells := 0, slots := 0, locals := 41 }
def G_cX11_node (p : Program) (l : Launch) (e : Env) (s : State) (m : MethodId) (args : Array Value) (below : List Frame) (meth : Method) (c : Code) (dC : Nat → ClassId) (dI : Nat → Nat → Nat) (kA : Nat → ClassId) (ad : Nat → Nat) (res : Int32 × RS) (F : RS → Option (Int32 × RS)) : Prop := ∀ (σ : RS), F σ = some res → ∀ (H : Heap) (locs : List Loc) (ls : Array Slot), va_P (dC, dI) vwCl (c_w kA ad σ) H → va_S (jw_A 57 ad) s.heap H locs → lv_has ls 1 [(0, .ref (ad 0))] → W p l e rm_cX11_node s m args below meth c H locs 0 0 (c_Qi below dC dI kA ad args s res) (F0 m 0 ls [])
def s_cX11_node (σ : RS) : Option (Int32 × RS) := kn_i (s_cX10_addNode σ) (fun v1 σ2 => kn_i (s_cX11_changed σ2 v1) (fun v3 σ4 => some (v3, σ4)))
set_option maxRecDepth 100000 in
set_option maxHeartbeats 4000000 in
theorem p_cX11_node {p : Program} {l : Launch} {e : Env} {s : State} {m : MethodId} {args : Array Value} {below : List Frame} {meth : Method} {c : Code} {dC : Nat → ClassId} {dI : Nat → Nat → Nat} {kA : Nat → ClassId} {ad : Nat → Nat} (C : jxc cX11_node (some .int) 1 RX11 p s m args meth c dC dI kA) (hap : jw_ap 57 ad) {res : Int32 × RS} : G_cX11_node p l e s m args below meth c dC dI kA ad res (s_cX11_node) := by
  obtain ⟨hx, hb, hml, hown, hts, hr, hlocks, hK, hN⟩ := id C
  intro σ hf H locs ls hP hS hl
  unfold s_cX11_node at hf
  refine lv_aload_n hx hb dX11_node_0 rfl (lv_at hl 0 rfl) ?_
  refine lv_aload_n hx hb dX11_node_1 rfl (lv_at hl 0 rfl) ?_
  refine c_gX11_web hx hb hts hown hK hP (hts _ kw_410) dX11_node_2 ?_
  refine jk_i hf (fun res hres => jv_run hx hb hml hown hts hK hN c_hG c_hNW hl.1 (n := 0) (As := []) (rest := [.ref (ad 0)]) (c_cX10_addNode l hap σ res hres) hP (ci := 10) (q0 := 7) rfl rfl rfl kw_469 kw_466 kw_467 kw_468 kw_54 ⟨rfl, rfl⟩ (by decide +kernel) rfl ⟨Nat.le_of_ble_eq_true rfl, Nat.le_of_ble_eq_true rfl⟩ rfl (Nat.le_of_ble_eq_true rfl) dX11_node_5) hS (fun v1 σ2 H locs hP hS hf => ?_)
  refine jk_i hf (fun res hres => jv_run hx hb hml hown hts hK hN c_hG c_hNW hl.1 (n := 1) (As := [.int v1]) (rest := []) (c_cX11_changed l hap σ2 v1 res hres) hP (ci := 11) (q0 := 0) rfl rfl rfl kw_473 kw_470 kw_472 kw_0 kw_52 ⟨rfl, rfl⟩ (by decide +kernel) rfl ⟨Nat.le_of_ble_eq_true rfl, Nat.le_of_ble_eq_true rfl⟩ rfl (Nat.le_of_ble_eq_true rfl) dX11_node_8) hS (fun v3 σ4 H locs hP hS hf => ?_)
  exact jr_i hx hb hr hlocks hf rfl hP hS dX11_node_11
theorem c_cX11_node (l : Launch) {dC : Nat → ClassId} {dI : Nat → Nat → Nat} {kA : Nat → ClassId} {ad : Nat → Nat} (hap : jw_ap 57 ad) (σ : RS) (res : Int32 × RS) (hf : s_cX11_node σ = some res) : jm_i l KW NW (dC, dI) vwCl (jtys kA) (jw_A 57 ad) (c_w kA ad) yX11_node cX11_node 1 .int (rm_cX11_node) [.ref (ad 0)] σ res := jm_i_of (by decide) (Nat.le_of_ble_eq_true rfl) (fun p e s m below meth c C hP hS ls hl => p_cX11_node C hap σ hf s.heap [] ls hP hS hl)

def rm_cX11_arc : Room := { frames := 2, cells := 0, slots := 0, locals := 45 }
def G_cX11_arc (p : Program) (l : Launch) (e : Env) (s : State) (m : MethodId) (args : Array Value) (below : List Frame) (meth : Method) (c : Code) (dC : Nat → ClassId) (dI : Nat → Nat → Nat) (kA : Nat → ClassId) (ad : Nat → Nat) (res : Int32 × RS) (F : RS → Int32 → Int32 → Int64 → Option (Int32 × RS)) : Prop := ∀ (σ : RS) (x1 : Int32) (x2 : Int32) (x3 : Int64), F σ x1 x2 x3 = some res → ∀ (H : Heap) (locs : List Loc) (ls : Array Slot), va_P (dC, dI) vwCl (c_w kA ad σ) H → va_S (jw_A 57 ad) s.heap H locs → lv_has ls 5 [(0, .ref (ad 0)), (1, .int x1), (2, .int x2), (3, .long x3)] → W p l e rm_cX11_arc s m args below meth c H locs 0 0 (c_Qi below dC dI kA ad args s res) (F0 m 0 ls [])
def s_cX11_arc (σ : RS) (x1 : Int32) (x2 : Int32) (x3 : Int64) : Option (Int32 × RS) := kn_i (s_cX10_addArc σ x1 x2 x3) (fun v1 σ2 => kn_i (s_cX11_changed σ2 v1) (fun v3 σ4 => some (v3, σ4)))
set_option maxRecDepth 100000 in
set_option maxHeartbeats 4000000 in
theorem p_cX11_arc {p : Program} {l : Launch} {e : Env} {s : State} {m : MethodId} {args : Array Value} {below : List Frame} {meth : Method} {c : Code} {dC : Nat → ClassId} {dI : Nat → Nat → Nat} {kA : Nat → ClassId} {ad : Nat → Nat} (C : jxc cX11_arc (some .int) 5 RX11 p s m args meth c dC dI kA) (hap : jw_ap 57 ad) {res : Int32 × RS} : G_cX11_arc p l e s m args below meth c dC dI kA ad res (s_cX11_arc) := by
  obtain ⟨hx, hb, hml, hown, hts, hr, hlocks, hK, hN⟩ := id C
  intro σ x1 x2 x3 hf H locs ls hP hS hl
  unfold s_cX11_arc at hf
  refine lv_aload_n hx hb dX11_arc_0 rfl (lv_at hl 0 rfl) ?_
  refine lv_aload_n hx hb dX11_arc_1 rfl (lv_at hl 0 rfl) ?_
  refine c_gX11_web hx hb hts hown hK hP (hts _ kw_410) dX11_arc_2 ?_
  refine lv_iload_n hx hb dX11_arc_5 rfl (lv_at hl 1 rfl) ?_
  refine lv_iload_n hx hb dX11_arc_6 rfl (lv_at hl 2 rfl) ?_
  refine lv_lload_n hx hb dX11_arc_7 rfl (lv_at hl 3 rfl) ?_
  refine jk_i hf (fun res hres => jv_run hx hb hml hown hts hK hN c_hG c_hNW hl.1 (n := 3) (As := [.int x1, .int x2, .long x3]) (rest := [.ref (ad 0)]) (c_cX10_addArc l hap σ x1 x2 x3 res hres) hP (ci := 10) (q0 := 7) rfl rfl rfl kw_485 kw_482 kw_483 kw_484 kw_54 ⟨rfl, rfl⟩ (by decide +kernel) rfl ⟨Nat.le_of_ble_eq_true rfl, Nat.le_of_ble_eq_true rfl⟩ rfl (Nat.le_of_ble_eq_true rfl) dX11_arc_8) hS (fun v1 σ2 H locs hP hS hf => ?_)
  refine jk_i hf (fun res hres => jv_run hx hb hml hown hts hK hN c_hG c_hNW hl.1 (n := 1) (As := [.int v1]) (rest := []) (c_cX11_changed l hap σ2 v1 res hres) hP (ci := 11) (q0 := 0) rfl rfl rfl kw_473 kw_470 kw_472 kw_0 kw_52 ⟨rfl, rfl⟩ (by decide +kernel) rfl ⟨Nat.le_of_ble_eq_true rfl, Nat.le_of_ble_eq_true rfl⟩ rfl (Nat.le_of_ble_eq_true rfl) dX11_arc_11) hS (fun v3 σ4 H locs hP hS hf => ?_)
  exact jr_i hx hb hr hlocks hf rfl hP hS dX11_arc_14
theorem c_cX11_arc (l : Launch) {dC : Nat → ClassId} {dI : Nat → Nat → Nat} {kA : Nat → ClassId} {ad : Nat → Nat} (hap : jw_ap 57 ad) (σ : RS) (x1 : Int32) (x2 : Int32) (x3 : Int64) (res : Int32 × RS) (hf : s_cX11_arc σ x1 x2 x3 = some res) : jm_i l KW NW (dC, dI) vwCl (jtys kA) (jw_A 57 ad) (c_w kA ad) yX11_arc cX11_arc 5 .int (rm_cX11_arc) [.ref (ad 0), .int x1, .int x2, .long x3] σ res := jm_i_of (by decide) (Nat.le_of_ble_eq_true rfl) (fun p e s m below meth c C hP hS ls hl => p_cX11_arc C hap σ x1 x2 x3 hf s.heap [] ls hP hS hl)

def rm_cX11_put : Room := { frames := 2, cells := 0, slots := 0, locals := 41 }
def G_cX11_put (p : Program) (l : Launch) (e : Env) (s : State) (m : MethodId) (args : Array Value) (below : List Frame) (meth : Method) (c : Code) (dC : Nat → ClassId) (dI : Nat → Nat → Nat) (kA : Nat → ClassId) (ad : Nat → Nat) (res : Int32 × RS) (F : RS → Int32 → Int32 → Int64 → Option (Int32 × RS)) : Prop := ∀ (σ : RS) (x1 : Int32) (x2 : Int32) (x3 : Int64), F σ x1 x2 x3 = some res → ∀ (H : Heap) (locs : List Loc) (ls : Array Slot), va_P (dC, dI) vwCl (c_w kA ad σ) H → va_S (jw_A 57 ad) s.heap H locs → lv_has ls 5 [(0, .ref (ad 0)), (1, .int x1), (2, .int x2), (3, .long x3)] → W p l e rm_cX11_put s m args below meth c H locs 0 0 (c_Qi below dC dI kA ad args s res) (F0 m 0 ls [])
def s_cX11_put (σ : RS) (x1 : Int32) (x2 : Int32) (x3 : Int64) : Option (Int32 × RS) := kn_i (s_cX10_hasNode σ x1) (fun v1 σ2 => if v1 = 0 then (some ((-101), σ2)) else (kn_i (s_cX11_isState σ2 x2.toInt64) (fun v3 σ4 => if v3 = 0 then (some ((-102), σ4)) else (kn_st (rs_B σ4 1 (vp_updL (rg_B σ4 1) ((x1 * 3) + x2).toNatClampNeg x3)) 36 ((x1 * 3) + x2) (fun σ5 => kn_i (s_cX11_changed σ5 1) (fun v6 σ7 => some (v6, σ7)))))))
set_option maxRecDepth 100000 in
set_option maxHeartbeats 4000000 in
theorem p_cX11_put {p : Program} {l : Launch} {e : Env} {s : State} {m : MethodId} {args : Array Value} {below : List Frame} {meth : Method} {c : Code} {dC : Nat → ClassId} {dI : Nat → Nat → Nat} {kA : Nat → ClassId} {ad : Nat → Nat} (C : jxc cX11_put (some .int) 5 RX11 p s m args meth c dC dI kA) (hap : jw_ap 57 ad) {res : Int32 × RS} : G_cX11_put p l e s m args below meth c dC dI kA ad res (s_cX11_put) := by
  obtain ⟨hx, hb, hml, hown, hts, hr, hlocks, hK, hN⟩ := id C
  intro σ x1 x2 x3 hf H locs ls hP hS hl
  unfold s_cX11_put at hf
  refine lv_aload_n hx hb dX11_put_0 rfl (lv_at hl 0 rfl) ?_
  refine c_gX11_web hx hb hts hown hK hP (hts _ kw_410) dX11_put_1 ?_
  refine lv_iload_n hx hb dX11_put_4 rfl (lv_at hl 1 rfl) ?_
  refine jk_i hf (fun res hres => jv_run hx hb hml hown hts hK hN c_hG c_hNW hl.1 (n := 1) (As := [.int x1]) (rest := []) (c_cX10_hasNode l hap σ x1 res hres) hP (ci := 10) (q0 := 7) rfl rfl rfl kw_489 kw_494 kw_487 kw_488 kw_54 ⟨rfl, rfl⟩ (by decide +kernel) rfl ⟨Nat.le_of_ble_eq_true rfl, Nat.le_of_ble_eq_true rfl⟩ rfl (Nat.le_of_ble_eq_true rfl) dX11_put_5) hS (fun v1 σ2 H locs hP hS hf => ?_)
  refine jb_ne (tgt := 14) hx hb hf dX11_put_8 (by decide) (fun hf => ?_) (fun hf => ?_)
  · refine lv_iload_n hx hb dX11_put_14 rfl (lv_at hl 2 rfl) ?_
    refine lv_i2l (v := x2.toInt64) hx hb dX11_put_15 rfl ?_
    refine jk_i hf (fun res hres => js_run hx hb hml hown hts hK hN c_hG c_hNW hl.1 (n := 1) (As := [.long x2.toInt64]) (rest := []) (c_cX11_isState l hap σ2 x2.toInt64 res hres) hP kw_460 kw_495 kw_459 kw_52 ⟨rfl, rfl⟩ (by decide +kernel) rfl ⟨Nat.le_of_ble_eq_true rfl, Nat.le_of_ble_eq_true rfl⟩ rfl (Nat.le_of_ble_eq_true rfl) dX11_put_16) hS (fun v3 σ4 H locs hP hS hf => ?_)
    refine jb_ne (tgt := 25) hx hb hf dX11_put_19 (by decide) (fun hf => ?_) (fun hf => ?_)
    · refine lv_aload_n hx hb dX11_put_25 rfl (lv_at hl 0 rfl) ?_
      refine c_gX11_web hx hb hts hown hK hP (hts _ kw_410) dX11_put_26 ?_
      refine c_gX10_states hx hb hts hown hK hP (hts _ kw_116) dX11_put_29 ?_
      refine lv_iload_n hx hb dX11_put_32 rfl (lv_at hl 1 rfl) ?_
      refine lv_iconst (v := 3) hx hb dX11_put_33 (by decide) ?_
      refine lv_imul hx hb dX11_put_34 ?_
      refine lv_iload_n hx hb dX11_put_35 rfl (lv_at hl 2 rfl) ?_
      refine lv_iadd hx hb dX11_put_36 ?_
      refine lv_lload_n hx hb dX11_put_37 rfl (lv_at hl 3 rfl) ?_
      refine ja_lst hx hb hK (c_D hap σ4) hP hS 8 1 rfl rfl c_sB1 hf dX11_put_38 (fun σ5 H locs hP hS hf => ?_)
      refine lv_aload_n hx hb dX11_put_39 rfl (lv_at hl 0 rfl) ?_
      refine lv_iconst (v := 1) hx hb dX11_put_40 (by decide) ?_
      refine jk_i hf (fun res hres => jv_run hx hb hml hown hts hK hN c_hG c_hNW hl.1 (n := 1) (As := [.int 1]) (rest := []) (c_cX11_changed l hap σ5 1 res hres) hP (ci := 11) (q0 := 0) rfl rfl rfl kw_473 kw_470 kw_472 kw_0 kw_52 ⟨rfl, rfl⟩ (by decide +kernel) rfl ⟨Nat.le_of_ble_eq_true rfl, Nat.le_of_ble_eq_true rfl⟩ rfl (Nat.le_of_ble_eq_true rfl) dX11_put_41) hS (fun v6 σ7 H locs hP hS hf => ?_)
      exact jr_i hx hb hr hlocks hf rfl hP hS dX11_put_44
    · refine lv_bipush (v := (-102)) hx hb dX11_put_22 (by decide) ?_
      exact jr_i hx hb hr hlocks hf rfl hP hS dX11_put_24
  · refine lv_bipush (v := (-101)) hx hb dX11_put_11 (by decide) ?_
    exact jr_i hx hb hr hlocks hf rfl hP hS dX11_put_13
theorem c_cX11_put (l : Launch) {dC : Nat → ClassId} {dI : Nat → Nat → Nat} {kA : Nat → ClassId} {ad : Nat → Nat} (hap : jw_ap 57 ad) (σ : RS) (x1 : Int32) (x2 : Int32) (x3 : Int64) (res : Int32 × RS) (hf : s_cX11_put σ x1 x2 x3 = some res) : jm_i l KW NW (dC, dI) vwCl (jtys kA) (jw_A 57 ad) (c_w kA ad) yX11_put cX11_put 5 .int (rm_cX11_put) [.ref (ad 0), .int x1, .int x2, .long x3] σ res := jm_i_of (by decide) (Nat.le_of_ble_eq_true rfl) (fun p e s m below meth c C hP hS ls hl => p_cX11_put C hap σ x1 x2 x3 hf s.heap [] ls hP hS hl)
end
section
theorem dX11_wake_0 : decode cX11_wake 0 = .ok (.aload_n 0, 1) := by decide +kernel
theorem dX11_wake_1 : decode cX11_wake 1 = .ok (.getfield 19, 3) := by decide +kernel
theorem dX11_wake_4 : decode cX11_wake 4 = .ok (.iload_n 1, 1) := by decide +kernel
theorem dX11_wake_5 : decode cX11_wake 5 = .ok (.invokevirtual 101, 3) := by decide +kernel
theorem dX11_wake_8 : decode cX11_wake 8 = .ok (.ifCond .ne 6, 3) := by decide +kernel
theorem dX11_wake_11 : decode cX11_wake 11 = .ok (.bipush (-101), 2) := by decide +kernel
theorem dX11_wake_13 : decode cX11_wake 13 = .ok (.ireturn, 1) := by decide +kernel
theorem dX11_wake_14 : decode cX11_wake 14 = .ok (.aload_n 0, 1) := by decide +kernel
theorem dX11_wake_15 : decode cX11_wake 15 = .ok (.getfield 19, 3) := by decide +kernel
theorem dX11_wake_18 : decode cX11_wake 18 = .ok (.getfield 113, 3) := by decide +kernel
theorem dX11_wake_21 : decode cX11_wake 21 = .ok (.iload_n 1, 1) := by decide +kernel
theorem dX11_wake_22 : decode cX11_wake 22 = .ok (.baload, 1) := by decide +kernel
theorem dX11_wake_23 : decode cX11_wake 23 = .ok (.iload_n 2, 1) := by decide +kernel
theorem dX11_wake_24 : decode cX11_wake 24 = .ok (.if_icmp .ne 7, 3) := by decide +kernel
theorem dX11_wake_27 : decode cX11_wake 27 = .ok (.iconst 0, 1) := by decide +kernel
theorem dX11_wake_28 : decode cX11_wake 28 = .ok (.goto 4, 3) := by decide +kernel
theorem dX11_wake_31 : decode cX11_wake 31 = .ok (.iconst 1, 1) := by decide +kernel
theorem dX11_wake_32 : decode cX11_wake 32 = .ok (.istore_n 3, 1) := by decide +kernel
theorem dX11_wake_33 : decode cX11_wake 33 = .ok (.aload_n 0, 1) := by decide +kernel
theorem dX11_wake_34 : decode cX11_wake 34 = .ok (.getfield 19, 3) := by decide +kernel
theorem dX11_wake_37 : decode cX11_wake 37 = .ok (.getfield 113, 3) := by decide +kernel
theorem dX11_wake_40 : decode cX11_wake 40 = .ok (.iload_n 1, 1) := by decide +kernel
theorem dX11_wake_41 : decode cX11_wake 41 = .ok (.iload_n 2, 1) := by decide +kernel
theorem dX11_wake_42 : decode cX11_wake 42 = .ok (.bastore, 1) := by decide +kernel
theorem dX11_wake_43 : decode cX11_wake 43 = .ok (.aload_n 0, 1) := by decide +kernel
theorem dX11_wake_44 : decode cX11_wake 44 = .ok (.iload_n 3, 1) := by decide +kernel
theorem dX11_wake_45 : decode cX11_wake 45 = .ok (.invokevirtual 93, 3) := by decide +kernel
theorem dX11_wake_48 : decode cX11_wake 48 = .ok (.ireturn, 1) := by decide +kernel
theorem dX11_act_0 : decode cX11_act 0 = .ok (.iload_n 2, 1) := by decide +kernel
theorem dX11_act_1 : decode cX11_act 1 = .ok (.iconst (-1), 1) := by decide +kernel
theorem dX11_act_2 : decode cX11_act 2 = .ok (.if_icmp .eq 17, 3) := by decide +kernel
theorem dX11_act_5 : decode cX11_act 5 = .ok (.aload_n 0, 1) := by decide +kernel
theorem dX11_act_6 : decode cX11_act 6 = .ok (.getfield 10, 3) := by decide +kernel
theorem dX11_act_9 : decode cX11_act 9 = .ok (.iload_n 2, 1) := by decide +kernel
theorem dX11_act_10 : decode cX11_act 10 = .ok (.invokevirtual 117, 3) := by decide +kernel
theorem dX11_act_13 : decode cX11_act 13 = .ok (.ifCond .ne 6, 3) := by decide +kernel
theorem dX11_act_16 : decode cX11_act 16 = .ok (.bipush (-101), 2) := by decide +kernel
theorem dX11_act_18 : decode cX11_act 18 = .ok (.ireturn, 1) := by decide +kernel
theorem dX11_act_19 : decode cX11_act 19 = .ok (.iload_n 1, 1) := by decide +kernel
theorem dX11_act_20 : decode cX11_act 20 = .ok (.ifCond .lt 9, 3) := by decide +kernel
theorem dX11_act_23 : decode cX11_act 23 = .ok (.iload_n 1, 1) := by decide +kernel
theorem dX11_act_24 : decode cX11_act 24 = .ok (.bipush 7, 2) := by decide +kernel
theorem dX11_act_26 : decode cX11_act 26 = .ok (.if_icmp .lt 6, 3) := by decide +kernel
theorem dX11_act_29 : decode cX11_act 29 = .ok (.bipush (-102), 2) := by decide +kernel
theorem dX11_act_31 : decode cX11_act 31 = .ok (.ireturn, 1) := by decide +kernel
theorem dX11_act_32 : decode cX11_act 32 = .ok (.aload_n 0, 1) := by decide +kernel
theorem dX11_act_33 : decode cX11_act 33 = .ok (.getfield 26, 3) := by decide +kernel
theorem dX11_act_36 : decode cX11_act 36 = .ok (.getfield 120, 3) := by decide +kernel
theorem dX11_act_39 : decode cX11_act 39 = .ok (.iload_n 1, 1) := by decide +kernel
theorem dX11_act_40 : decode cX11_act 40 = .ok (.iaload, 1) := by decide +kernel
theorem dX11_act_41 : decode cX11_act 41 = .ok (.istore_n 3, 1) := by decide +kernel
theorem dX11_act_42 : decode cX11_act 42 = .ok (.aload_n 0, 1) := by decide +kernel
theorem dX11_act_43 : decode cX11_act 43 = .ok (.getfield 26, 3) := by decide +kernel
theorem dX11_act_46 : decode cX11_act 46 = .ok (.getfield 120, 3) := by decide +kernel
theorem dX11_act_49 : decode cX11_act 49 = .ok (.iload_n 1, 1) := by decide +kernel
theorem dX11_act_50 : decode cX11_act 50 = .ok (.iload_n 2, 1) := by decide +kernel
theorem dX11_act_51 : decode cX11_act 51 = .ok (.iastore, 1) := by decide +kernel
theorem dX11_act_52 : decode cX11_act 52 = .ok (.aload_n 0, 1) := by decide +kernel
theorem dX11_act_53 : decode cX11_act 53 = .ok (.iload_n 3, 1) := by decide +kernel
theorem dX11_act_54 : decode cX11_act 54 = .ok (.invokevirtual 93, 3) := by decide +kernel
theorem dX11_act_57 : decode cX11_act 57 = .ok (.ireturn, 1) := by decide +kernel
theorem dX11_fold_0 : decode cX11_fold 0 = .ok (.iload_n 1, 1) := by decide +kernel
theorem dX11_fold_1 : decode cX11_fold 1 = .ok (.ifCond .lt 8, 3) := by decide +kernel
theorem dX11_fold_4 : decode cX11_fold 4 = .ok (.iload_n 1, 1) := by decide +kernel
theorem dX11_fold_5 : decode cX11_fold 5 = .ok (.iconst 3, 1) := by decide +kernel
theorem dX11_fold_6 : decode cX11_fold 6 = .ok (.if_icmp .le 6, 3) := by decide +kernel
theorem dX11_fold_9 : decode cX11_fold 9 = .ok (.bipush (-102), 2) := by decide +kernel
theorem dX11_fold_11 : decode cX11_fold 11 = .ok (.ireturn, 1) := by decide +kernel
theorem dX11_fold_12 : decode cX11_fold 12 = .ok (.aload_n 0, 1) := by decide +kernel
theorem dX11_fold_13 : decode cX11_fold 13 = .ok (.getfield 26, 3) := by decide +kernel
theorem dX11_fold_16 : decode cX11_fold 16 = .ok (.getfield 124, 3) := by decide +kernel
theorem dX11_fold_19 : decode cX11_fold 19 = .ok (.istore_n 2, 1) := by decide +kernel
theorem dX11_fold_20 : decode cX11_fold 20 = .ok (.aload_n 0, 1) := by decide +kernel
theorem dX11_fold_21 : decode cX11_fold 21 = .ok (.getfield 26, 3) := by decide +kernel
theorem dX11_fold_24 : decode cX11_fold 24 = .ok (.iload_n 1, 1) := by decide +kernel
theorem dX11_fold_25 : decode cX11_fold 25 = .ok (.putfield 124, 3) := by decide +kernel
theorem dX11_fold_28 : decode cX11_fold 28 = .ok (.aload_n 0, 1) := by decide +kernel
theorem dX11_fold_29 : decode cX11_fold 29 = .ok (.iload_n 2, 1) := by decide +kernel
theorem dX11_fold_30 : decode cX11_fold 30 = .ok (.invokevirtual 93, 3) := by decide +kernel
theorem dX11_fold_33 : decode cX11_fold 33 = .ok (.ireturn, 1) := by decide +kernel
theorem dX11_ask_0 : decode cX11_ask 0 = .ok (.aload_n 0, 1) := by decide +kernel
theorem dX11_ask_1 : decode cX11_ask 1 = .ok (.iconst 0, 1) := by decide +kernel
theorem dX11_ask_2 : decode cX11_ask 2 = .ok (.putfield 144, 3) := by decide +kernel
theorem dX11_ask_5 : decode cX11_ask 5 = .ok (.aload_n 0, 1) := by decide +kernel
theorem dX11_ask_6 : decode cX11_ask 6 = .ok (.getfield 10, 3) := by decide +kernel
theorem dX11_ask_9 : decode cX11_ask 9 = .ok (.iload_n 1, 1) := by decide +kernel
theorem dX11_ask_10 : decode cX11_ask 10 = .ok (.invokevirtual 117, 3) := by decide +kernel
theorem dX11_ask_13 : decode cX11_ask 13 = .ok (.ifCond .eq 14, 3) := by decide +kernel
theorem dX11_ask_16 : decode cX11_ask 16 = .ok (.aload_n 0, 1) := by decide +kernel
theorem dX11_ask_17 : decode cX11_ask 17 = .ok (.getfield 19, 3) := by decide +kernel
theorem dX11_ask_20 : decode cX11_ask 20 = .ok (.iload_n 2, 1) := by decide +kernel
theorem dX11_ask_21 : decode cX11_ask 21 = .ok (.invokevirtual 101, 3) := by decide +kernel
theorem dX11_ask_24 : decode cX11_ask 24 = .ok (.ifCond .ne 7, 3) := by decide +kernel
theorem dX11_ask_27 : decode cX11_ask 27 = .ok (.ldc2_w 147, 3) := by decide +kernel
theorem dX11_ask_30 : decode cX11_ask 30 = .ok (.lreturn, 1) := by decide +kernel
theorem dX11_ask_31 : decode cX11_ask 31 = .ok (.iload_n 3, 1) := by decide +kernel
theorem dX11_ask_32 : decode cX11_ask 32 = .ok (.iconst (-1), 1) := by decide +kernel
theorem dX11_ask_33 : decode cX11_ask 33 = .ok (.if_icmp .eq 18, 3) := by decide +kernel
theorem dX11_ask_36 : decode cX11_ask 36 = .ok (.aload_n 0, 1) := by decide +kernel
theorem dX11_ask_37 : decode cX11_ask 37 = .ok (.getfield 19, 3) := by decide +kernel
theorem dX11_ask_40 : decode cX11_ask 40 = .ok (.iload_n 3, 1) := by decide +kernel
theorem dX11_ask_41 : decode cX11_ask 41 = .ok (.invokevirtual 149, 3) := by decide +kernel
theorem dX11_ask_44 : decode cX11_ask 44 = .ok (.ifCond .ne 7, 3) := by decide +kernel
theorem dX11_ask_47 : decode cX11_ask 47 = .ok (.ldc2_w 147, 3) := by decide +kernel
theorem dX11_ask_50 : decode cX11_ask 50 = .ok (.lreturn, 1) := by decide +kernel
theorem dX11_ask_51 : decode cX11_ask 51 = .ok (.aload_n 0, 1) := by decide +kernel
theorem dX11_ask_52 : decode cX11_ask 52 = .ok (.getfield 56, 3) := by decide +kernel
theorem dX11_ask_55 : decode cX11_ask 55 = .ok (.invokevirtual 152, 3) := by decide +kernel
theorem dX11_ask_58 : decode cX11_ask 58 = .ok (.aload_n 0, 1) := by decide +kernel
theorem dX11_ask_59 : decode cX11_ask 59 = .ok (.getfield 56, 3) := by decide +kernel
theorem dX11_ask_62 : decode cX11_ask 62 = .ok (.iload_n 1, 1) := by decide +kernel
theorem dX11_ask_63 : decode cX11_ask 63 = .ok (.iload_n 2, 1) := by decide +kernel
theorem dX11_ask_64 : decode cX11_ask 64 = .ok (.iload_n 3, 1) := by decide +kernel
theorem dX11_ask_65 : decode cX11_ask 65 = .ok (.iconst 0, 1) := by decide +kernel
theorem dX11_ask_66 : decode cX11_ask 66 = .ok (.invokevirtual 155, 3) := by decide +kernel
theorem dX11_ask_69 : decode cX11_ask 69 = .ok (.lstore 4, 2) := by decide +kernel
theorem dX11_ask_71 : decode cX11_ask 71 = .ok (.aload_n 0, 1) := by decide +kernel
theorem dX11_ask_72 : decode cX11_ask 72 = .ok (.aload_n 0, 1) := by decide +kernel
theorem dX11_ask_73 : decode cX11_ask 73 = .ok (.getfield 56, 3) := by decide +kernel
theorem dX11_ask_76 : decode cX11_ask 76 = .ok (.getfield 159, 3) := by decide +kernel
theorem dX11_ask_79 : decode cX11_ask 79 = .ok (.putfield 144, 3) := by decide +kernel
theorem dX11_ask_82 : decode cX11_ask 82 = .ok (.lload 4, 2) := by decide +kernel
theorem dX11_ask_84 : decode cX11_ask 84 = .ok (.lreturn, 1) := by decide +kernel
theorem dX11_state_0 : decode cX11_state 0 = .ok (.aload_n 0, 1) := by decide +kernel
theorem dX11_state_1 : decode cX11_state 1 = .ok (.getfield 19, 3) := by decide +kernel
theorem dX11_state_4 : decode cX11_state 4 = .ok (.iload_n 1, 1) := by decide +kernel
theorem dX11_state_5 : decode cX11_state 5 = .ok (.invokevirtual 101, 3) := by decide +kernel
theorem dX11_state_8 : decode cX11_state 8 = .ok (.ifCond .ne 7, 3) := by decide +kernel
theorem dX11_state_11 : decode cX11_state 11 = .ok (.ldc2_w 147, 3) := by decide +kernel
theorem dX11_state_14 : decode cX11_state 14 = .ok (.lreturn, 1) := by decide +kernel
theorem dX11_state_15 : decode cX11_state 15 = .ok (.iload_n 2, 1) := by decide +kernel
theorem dX11_state_16 : decode cX11_state 16 = .ok (.i2l, 1) := by decide +kernel
theorem dX11_state_17 : decode cX11_state 17 = .ok (.invokestatic 105, 3) := by decide +kernel
theorem dX11_state_20 : decode cX11_state 20 = .ok (.ifCond .eq 19, 3) := by decide +kernel
theorem dX11_state_23 : decode cX11_state 23 = .ok (.aload_n 0, 1) := by decide +kernel
theorem dX11_state_24 : decode cX11_state 24 = .ok (.getfield 19, 3) := by decide +kernel
theorem dX11_state_27 : decode cX11_state 27 = .ok (.getfield 109, 3) := by decide +kernel
theorem dX11_state_30 : decode cX11_state 30 = .ok (.iload_n 1, 1) := by decide +kernel
theorem dX11_state_31 : decode cX11_state 31 = .ok (.iconst 3, 1) := by decide +kernel
theorem dX11_state_32 : decode cX11_state 32 = .ok (.imul, 1) := by decide +kernel
theorem dX11_state_33 : decode cX11_state 33 = .ok (.iload_n 2, 1) := by decide +kernel
theorem dX11_state_34 : decode cX11_state 34 = .ok (.iadd, 1) := by decide +kernel
theorem dX11_state_35 : decode cX11_state 35 = .ok (.laload, 1) := by decide +kernel
theorem dX11_state_36 : decode cX11_state 36 = .ok (.goto 6, 3) := by decide +kernel
theorem dX11_state_39 : decode cX11_state 39 = .ok (.ldc2_w 162, 3) := by decide +kernel
theorem dX11_state_42 : decode cX11_state 42 = .ok (.lreturn, 1) := by decide +kernel
theorem dX0_comesTo_0 : decode cX0_comesTo 0 = .ok (.aload_n 0, 1) := by decide +kernel
theorem dX0_comesTo_1 : decode cX0_comesTo 1 = .ok (.getfield 15, 3) := by decide +kernel
theorem dX0_comesTo_4 : decode cX0_comesTo 4 = .ok (.getfield 27, 3) := by decide +kernel
theorem dX0_comesTo_7 : decode cX0_comesTo 7 = .ok (.iload_n 1, 1) := by decide +kernel
theorem dX0_comesTo_8 : decode cX0_comesTo 8 = .ok (.iaload, 1) := by decide +kernel
theorem dX0_comesTo_9 : decode cX0_comesTo 9 = .ok (.istore 6, 2) := by decide +kernel
theorem dX0_comesTo_11 : decode cX0_comesTo 11 = .ok (.iload 6, 2) := by decide +kernel
theorem dX0_comesTo_13 : decode cX0_comesTo 13 = .ok (.iconst (-1), 1) := by decide +kernel
theorem dX0_comesTo_14 : decode cX0_comesTo 14 = .ok (.if_icmp .ne 6, 3) := by decide +kernel
theorem dX0_comesTo_17 : decode cX0_comesTo 17 = .ok (.lload 4, 2) := by decide +kernel
theorem dX0_comesTo_19 : decode cX0_comesTo 19 = .ok (.lreturn, 1) := by decide +kernel
theorem dX0_comesTo_20 : decode cX0_comesTo 20 = .ok (.aload_n 0, 1) := by decide +kernel
theorem dX0_comesTo_21 : decode cX0_comesTo 21 = .ok (.getfield 19, 3) := by decide +kernel
theorem dX0_comesTo_24 : decode cX0_comesTo 24 = .ok (.iload 6, 2) := by decide +kernel
theorem dX0_comesTo_26 : decode cX0_comesTo 26 = .ok (.iload_n 2, 1) := by decide +kernel
theorem dX0_comesTo_27 : decode cX0_comesTo 27 = .ok (.iload_n 3, 1) := by decide +kernel
theorem dX0_comesTo_28 : decode cX0_comesTo 28 = .ok (.iconst 0, 1) := by decide +kernel
theorem dX0_comesTo_29 : decode cX0_comesTo 29 = .ok (.invokevirtual 33, 3) := by decide +kernel
theorem dX0_comesTo_32 : decode cX0_comesTo 32 = .ok (.lstore 7, 2) := by decide +kernel
theorem dX0_comesTo_34 : decode cX0_comesTo 34 = .ok (.aload_n 0, 1) := by decide +kernel
theorem dX0_comesTo_35 : decode cX0_comesTo 35 = .ok (.getfield 19, 3) := by decide +kernel
theorem dX0_comesTo_38 : decode cX0_comesTo 38 = .ok (.getfield 39, 3) := by decide +kernel
theorem dX0_comesTo_41 : decode cX0_comesTo 41 = .ok (.ifCond .eq 29, 3) := by decide +kernel
theorem dX0_comesTo_44 : decode cX0_comesTo 44 = .ok (.aload_n 0, 1) := by decide +kernel
theorem dX0_comesTo_45 : decode cX0_comesTo 45 = .ok (.getfield 23, 3) := by decide +kernel
theorem dX0_comesTo_48 : decode cX0_comesTo 48 = .ok (.aload_n 0, 1) := by decide +kernel
theorem dX0_comesTo_49 : decode cX0_comesTo 49 = .ok (.getfield 19, 3) := by decide +kernel
theorem dX0_comesTo_52 : decode cX0_comesTo 52 = .ok (.getfield 39, 3) := by decide +kernel
theorem dX0_comesTo_55 : decode cX0_comesTo 55 = .ok (.iload_n 1, 1) := by decide +kernel
theorem dX0_comesTo_56 : decode cX0_comesTo 56 = .ok (.iload_n 2, 1) := by decide +kernel
theorem dX0_comesTo_57 : decode cX0_comesTo 57 = .ok (.iload_n 3, 1) := by decide +kernel
theorem dX0_comesTo_58 : decode cX0_comesTo 58 = .ok (.aload_n 0, 1) := by decide +kernel
theorem dX0_comesTo_59 : decode cX0_comesTo 59 = .ok (.getfield 9, 3) := by decide +kernel
theorem dX0_comesTo_62 : decode cX0_comesTo 62 = .ok (.getfield 43, 3) := by decide +kernel
theorem dX0_comesTo_65 : decode cX0_comesTo 65 = .ok (.iconst 1, 1) := by decide +kernel
theorem dX0_comesTo_66 : decode cX0_comesTo 66 = .ok (.iadd, 1) := by decide +kernel
theorem dX0_comesTo_67 : decode cX0_comesTo 67 = .ok (.invokevirtual 48, 3) := by decide +kernel
theorem dX0_comesTo_70 : decode cX0_comesTo 70 = .ok (.lload 7, 2) := by decide +kernel
theorem dX0_comesTo_72 : decode cX0_comesTo 72 = .ok (.lreturn, 1) := by decide +kernel
theorem dX3_sendAlong_0 : decode cX3_sendAlong 0 = .ok (.aload_n 0, 1) := by decide +kernel
theorem dX3_sendAlong_1 : decode cX3_sendAlong 1 = .ok (.getfield 32, 3) := by decide +kernel
theorem dX3_sendAlong_4 : decode cX3_sendAlong 4 = .ok (.iconst 0, 1) := by decide +kernel
theorem dX3_sendAlong_5 : decode cX3_sendAlong 5 = .ok (.iload_n 1, 1) := by decide +kernel
theorem dX3_sendAlong_6 : decode cX3_sendAlong 6 = .ok (.iload_n 2, 1) := by decide +kernel
theorem dX3_sendAlong_7 : decode cX3_sendAlong 7 = .ok (.lconst 1, 1) := by decide +kernel
theorem dX3_sendAlong_8 : decode cX3_sendAlong 8 = .ok (.invokevirtual 118, 3) := by decide +kernel
theorem dX3_sendAlong_11 : decode cX3_sendAlong 11 = .ok (.lconst 0, 1) := by decide +kernel
theorem dX3_sendAlong_12 : decode cX3_sendAlong 12 = .ok (.lcmp, 1) := by decide +kernel
theorem dX3_sendAlong_13 : decode cX3_sendAlong 13 = .ok (.ifCond .ne 4, 3) := by decide +kernel
theorem dX3_sendAlong_16 : decode cX3_sendAlong 16 = .ok (.return_, 1) := by decide +kernel
theorem dX3_sendAlong_17 : decode cX3_sendAlong 17 = .ok (.aload_n 0, 1) := by decide +kernel
theorem dX3_sendAlong_18 : decode cX3_sendAlong 18 = .ok (.getfield 32, 3) := by decide +kernel
theorem dX3_sendAlong_21 : decode cX3_sendAlong 21 = .ok (.iconst 1, 1) := by decide +kernel
theorem dX3_sendAlong_22 : decode cX3_sendAlong 22 = .ok (.iload_n 1, 1) := by decide +kernel
theorem dX3_sendAlong_23 : decode cX3_sendAlong 23 = .ok (.iload_n 2, 1) := by decide +kernel
theorem dX3_sendAlong_24 : decode cX3_sendAlong 24 = .ok (.lconst 1, 1) := by decide +kernel
theorem dX3_sendAlong_25 : decode cX3_sendAlong 25 = .ok (.invokevirtual 118, 3) := by decide +kernel
theorem dX3_sendAlong_28 : decode cX3_sendAlong 28 = .ok (.lstore_n 3, 1) := by decide +kernel
theorem dX3_sendAlong_29 : decode cX3_sendAlong 29 = .ok (.aload_n 0, 1) := by decide +kernel
theorem dX3_sendAlong_30 : decode cX3_sendAlong 30 = .ok (.getfield 40, 3) := by decide +kernel
theorem dX3_sendAlong_33 : decode cX3_sendAlong 33 = .ok (.invokevirtual 74, 3) := by decide +kernel
theorem dX3_sendAlong_36 : decode cX3_sendAlong 36 = .ok (.ifCond .eq 4, 3) := by decide +kernel
theorem dX3_sendAlong_39 : decode cX3_sendAlong 39 = .ok (.return_, 1) := by decide +kernel
theorem dX3_sendAlong_40 : decode cX3_sendAlong 40 = .ok (.aload_n 0, 1) := by decide +kernel
theorem dX3_sendAlong_41 : decode cX3_sendAlong 41 = .ok (.getfield 68, 3) := by decide +kernel
theorem dX3_sendAlong_44 : decode cX3_sendAlong 44 = .ok (.bipush 60, 2) := by decide +kernel
theorem dX3_sendAlong_46 : decode cX3_sendAlong 46 = .ok (.if_icmp .lt 24, 3) := by decide +kernel
theorem dX3_sendAlong_49 : decode cX3_sendAlong 49 = .ok (.aload_n 0, 1) := by decide +kernel
theorem dX3_sendAlong_50 : decode cX3_sendAlong 50 = .ok (.getfield 40, 3) := by decide +kernel
theorem dX3_sendAlong_53 : decode cX3_sendAlong 53 = .ok (.iconst 5, 1) := by decide +kernel
theorem dX3_sendAlong_54 : decode cX3_sendAlong 54 = .ok (.iconst 1, 1) := by decide +kernel
theorem dX3_sendAlong_55 : decode cX3_sendAlong 55 = .ok (.iload_n 1, 1) := by decide +kernel
theorem dX3_sendAlong_56 : decode cX3_sendAlong 56 = .ok (.iload_n 2, 1) := by decide +kernel
theorem dX3_sendAlong_57 : decode cX3_sendAlong 57 = .ok (.aload_n 0, 1) := by decide +kernel
theorem dX3_sendAlong_58 : decode cX3_sendAlong 58 = .ok (.getfield 31, 3) := by decide +kernel
theorem dX3_sendAlong_61 : decode cX3_sendAlong 61 = .ok (.getfield 122, 3) := by decide +kernel
theorem dX3_sendAlong_64 : decode cX3_sendAlong 64 = .ok (.iconst 1, 1) := by decide +kernel
theorem dX3_sendAlong_65 : decode cX3_sendAlong 65 = .ok (.iadd, 1) := by decide +kernel
theorem dX3_sendAlong_66 : decode cX3_sendAlong 66 = .ok (.invokevirtual 125, 3) := by decide +kernel
theorem dX3_sendAlong_69 : decode cX3_sendAlong 69 = .ok (.return_, 1) := by decide +kernel
theorem dX3_sendAlong_70 : decode cX3_sendAlong 70 = .ok (.aload_n 0, 1) := by decide +kernel
theorem dX3_sendAlong_71 : decode cX3_sendAlong 71 = .ok (.getfield 64, 3) := by decide +kernel
theorem dX3_sendAlong_74 : decode cX3_sendAlong 74 = .ok (.aload_n 0, 1) := by decide +kernel
theorem dX3_sendAlong_75 : decode cX3_sendAlong 75 = .ok (.getfield 68, 3) := by decide +kernel
theorem dX3_sendAlong_78 : decode cX3_sendAlong 78 = .ok (.iadd, 1) := by decide +kernel
theorem dX3_sendAlong_79 : decode cX3_sendAlong 79 = .ok (.bipush 60, 2) := by decide +kernel
theorem dX3_sendAlong_81 : decode cX3_sendAlong 81 = .ok (.irem, 1) := by decide +kernel
theorem dX3_sendAlong_82 : decode cX3_sendAlong 82 = .ok (.istore 5, 2) := by decide +kernel
theorem dX3_sendAlong_84 : decode cX3_sendAlong 84 = .ok (.aload_n 0, 1) := by decide +kernel
theorem dX3_sendAlong_85 : decode cX3_sendAlong 85 = .ok (.getfield 9, 3) := by decide +kernel
theorem dX3_sendAlong_88 : decode cX3_sendAlong 88 = .ok (.iload 5, 2) := by decide +kernel
theorem dX3_sendAlong_90 : decode cX3_sendAlong 90 = .ok (.iload_n 2, 1) := by decide +kernel
theorem dX3_sendAlong_91 : decode cX3_sendAlong 91 = .ok (.iastore, 1) := by decide +kernel
theorem dX3_sendAlong_92 : decode cX3_sendAlong 92 = .ok (.aload_n 0, 1) := by decide +kernel
theorem dX3_sendAlong_93 : decode cX3_sendAlong 93 = .ok (.getfield 15, 3) := by decide +kernel
theorem dX3_sendAlong_96 : decode cX3_sendAlong 96 = .ok (.iload 5, 2) := by decide +kernel
theorem dX3_sendAlong_98 : decode cX3_sendAlong 98 = .ok (.lload_n 3, 1) := by decide +kernel
theorem dX3_sendAlong_99 : decode cX3_sendAlong 99 = .ok (.lastore, 1) := by decide +kernel
theorem dX3_sendAlong_100 : decode cX3_sendAlong 100 = .ok (.aload_n 0, 1) := by decide +kernel
theorem dX3_sendAlong_101 : decode cX3_sendAlong 101 = .ok (.dup, 1) := by decide +kernel
theorem dX3_sendAlong_102 : decode cX3_sendAlong 102 = .ok (.getfield 68, 3) := by decide +kernel
theorem dX3_sendAlong_105 : decode cX3_sendAlong 105 = .ok (.iconst 1, 1) := by decide +kernel
theorem dX3_sendAlong_106 : decode cX3_sendAlong 106 = .ok (.iadd, 1) := by decide +kernel
theorem dX3_sendAlong_107 : decode cX3_sendAlong 107 = .ok (.putfield 68, 3) := by decide +kernel
theorem dX3_sendAlong_110 : decode cX3_sendAlong 110 = .ok (.return_, 1) := by decide +kernel
theorem dX3_takeStates_0 : decode cX3_takeStates 0 = .ok (.iconst 0, 1) := by decide +kernel
theorem dX3_takeStates_1 : decode cX3_takeStates 1 = .ok (.istore_n 2, 1) := by decide +kernel
theorem dX3_takeStates_2 : decode cX3_takeStates 2 = .ok (.iload_n 2, 1) := by decide +kernel
theorem dX3_takeStates_3 : decode cX3_takeStates 3 = .ok (.iconst 3, 1) := by decide +kernel
theorem dX3_takeStates_4 : decode cX3_takeStates 4 = .ok (.if_icmp .ge 44, 3) := by decide +kernel
theorem dX3_takeStates_7 : decode cX3_takeStates 7 = .ok (.aload_n 0, 1) := by decide +kernel
theorem dX3_takeStates_8 : decode cX3_takeStates 8 = .ok (.getfield 19, 3) := by decide +kernel
theorem dX3_takeStates_11 : decode cX3_takeStates 11 = .ok (.iload_n 2, 1) := by decide +kernel
theorem dX3_takeStates_12 : decode cX3_takeStates 12 = .ok (.aload_n 0, 1) := by decide +kernel
theorem dX3_takeStates_13 : decode cX3_takeStates 13 = .ok (.getfield 32, 3) := by decide +kernel
theorem dX3_takeStates_16 : decode cX3_takeStates 16 = .ok (.iconst 2, 1) := by decide +kernel
theorem dX3_takeStates_17 : decode cX3_takeStates 17 = .ok (.iload_n 2, 1) := by decide +kernel
theorem dX3_takeStates_18 : decode cX3_takeStates 18 = .ok (.iadd, 1) := by decide +kernel
theorem dX3_takeStates_19 : decode cX3_takeStates 19 = .ok (.iload_n 1, 1) := by decide +kernel
theorem dX3_takeStates_20 : decode cX3_takeStates 20 = .ok (.iconst (-1), 1) := by decide +kernel
theorem dX3_takeStates_21 : decode cX3_takeStates 21 = .ok (.aload_n 0, 1) := by decide +kernel
theorem dX3_takeStates_22 : decode cX3_takeStates 22 = .ok (.getfield 22, 3) := by decide +kernel
theorem dX3_takeStates_25 : decode cX3_takeStates 25 = .ok (.iload_n 2, 1) := by decide +kernel
theorem dX3_takeStates_26 : decode cX3_takeStates 26 = .ok (.laload, 1) := by decide +kernel
theorem dX3_takeStates_27 : decode cX3_takeStates 27 = .ok (.invokevirtual 118, 3) := by decide +kernel
theorem dX3_takeStates_30 : decode cX3_takeStates 30 = .ok (.lastore, 1) := by decide +kernel
theorem dX3_takeStates_31 : decode cX3_takeStates 31 = .ok (.aload_n 0, 1) := by decide +kernel
theorem dX3_takeStates_32 : decode cX3_takeStates 32 = .ok (.getfield 40, 3) := by decide +kernel
theorem dX3_takeStates_35 : decode cX3_takeStates 35 = .ok (.invokevirtual 74, 3) := by decide +kernel
theorem dX3_takeStates_38 : decode cX3_takeStates 38 = .ok (.ifCond .eq 4, 3) := by decide +kernel
theorem dX3_takeStates_41 : decode cX3_takeStates 41 = .ok (.return_, 1) := by decide +kernel
theorem dX3_takeStates_42 : decode cX3_takeStates 42 = .ok (.iinc 2 1, 3) := by decide +kernel
theorem dX3_takeStates_45 : decode cX3_takeStates 45 = .ok (.goto (-43), 3) := by decide +kernel
theorem dX3_takeStates_48 : decode cX3_takeStates 48 = .ok (.aload_n 0, 1) := by decide +kernel
theorem dX3_takeStates_49 : decode cX3_takeStates 49 = .ok (.getfield 19, 3) := by decide +kernel
theorem dX3_takeStates_52 : decode cX3_takeStates 52 = .ok (.iconst 0, 1) := by decide +kernel
theorem dX3_takeStates_53 : decode cX3_takeStates 53 = .ok (.aload_n 0, 1) := by decide +kernel
theorem dX3_takeStates_54 : decode cX3_takeStates 54 = .ok (.getfield 31, 3) := by decide +kernel
theorem dX3_takeStates_57 : decode cX3_takeStates 57 = .ok (.getfield 132, 3) := by decide +kernel
theorem dX3_takeStates_60 : decode cX3_takeStates 60 = .ok (.iload_n 1, 1) := by decide +kernel
theorem dX3_takeStates_61 : decode cX3_takeStates 61 = .ok (.iconst 3, 1) := by decide +kernel
theorem dX3_takeStates_62 : decode cX3_takeStates 62 = .ok (.imul, 1) := by decide +kernel
theorem dX3_takeStates_63 : decode cX3_takeStates 63 = .ok (.iconst 3, 1) := by decide +kernel
theorem dX3_takeStates_64 : decode cX3_takeStates 64 = .ok (.invokestatic 135, 3) := by decide +kernel
theorem dX3_takeStates_67 : decode cX3_takeStates 67 = .ok (.return_, 1) := by decide +kernel
theorem dX7_sendAlong_0 : decode cX7_sendAlong 0 = .ok (.aload_n 0, 1) := by decide +kernel
theorem dX7_sendAlong_1 : decode cX7_sendAlong 1 = .ok (.getfield 38, 3) := by decide +kernel
theorem dX7_sendAlong_4 : decode cX7_sendAlong 4 = .ok (.getfield 120, 3) := by decide +kernel
theorem dX7_sendAlong_7 : decode cX7_sendAlong 7 = .ok (.iload_n 1, 1) := by decide +kernel
theorem dX7_sendAlong_8 : decode cX7_sendAlong 8 = .ok (.iaload, 1) := by decide +kernel
theorem dX7_sendAlong_9 : decode cX7_sendAlong 9 = .ok (.istore_n 2, 1) := by decide +kernel
theorem dX7_sendAlong_10 : decode cX7_sendAlong 10 = .ok (.aload_n 0, 1) := by decide +kernel
theorem dX7_sendAlong_11 : decode cX7_sendAlong 11 = .ok (.getfield 114, 3) := by decide +kernel
theorem dX7_sendAlong_14 : decode cX7_sendAlong 14 = .ok (.bipush 40, 2) := by decide +kernel
theorem dX7_sendAlong_16 : decode cX7_sendAlong 16 = .ok (.if_icmp .ge 19, 3) := by decide +kernel
theorem dX7_sendAlong_19 : decode cX7_sendAlong 19 = .ok (.aload_n 0, 1) := by decide +kernel
theorem dX7_sendAlong_20 : decode cX7_sendAlong 20 = .ok (.getfield 39, 3) := by decide +kernel
theorem dX7_sendAlong_23 : decode cX7_sendAlong 23 = .ok (.iconst 0, 1) := by decide +kernel
theorem dX7_sendAlong_24 : decode cX7_sendAlong 24 = .ok (.iload_n 2, 1) := by decide +kernel
theorem dX7_sendAlong_25 : decode cX7_sendAlong 25 = .ok (.iload_n 1, 1) := by decide +kernel
theorem dX7_sendAlong_26 : decode cX7_sendAlong 26 = .ok (.lconst 1, 1) := by decide +kernel
theorem dX7_sendAlong_27 : decode cX7_sendAlong 27 = .ok (.invokevirtual 136, 3) := by decide +kernel
theorem dX7_sendAlong_30 : decode cX7_sendAlong 30 = .ok (.lconst 0, 1) := by decide +kernel
theorem dX7_sendAlong_31 : decode cX7_sendAlong 31 = .ok (.lcmp, 1) := by decide +kernel
theorem dX7_sendAlong_32 : decode cX7_sendAlong 32 = .ok (.ifCond .ne 4, 3) := by decide +kernel
theorem dX7_sendAlong_35 : decode cX7_sendAlong 35 = .ok (.return_, 1) := by decide +kernel
theorem dX7_sendAlong_36 : decode cX7_sendAlong 36 = .ok (.aload_n 0, 1) := by decide +kernel
theorem dX7_sendAlong_37 : decode cX7_sendAlong 37 = .ok (.getfield 19, 3) := by decide +kernel
theorem dX7_sendAlong_40 : decode cX7_sendAlong 40 = .ok (.iload_n 1, 1) := by decide +kernel
theorem dX7_sendAlong_41 : decode cX7_sendAlong 41 = .ok (.aload_n 0, 1) := by decide +kernel
theorem dX7_sendAlong_42 : decode cX7_sendAlong 42 = .ok (.getfield 39, 3) := by decide +kernel
theorem dX7_sendAlong_45 : decode cX7_sendAlong 45 = .ok (.iconst 1, 1) := by decide +kernel
theorem dX7_sendAlong_46 : decode cX7_sendAlong 46 = .ok (.iload_n 2, 1) := by decide +kernel
theorem dX7_sendAlong_47 : decode cX7_sendAlong 47 = .ok (.iload_n 1, 1) := by decide +kernel
theorem dX7_sendAlong_48 : decode cX7_sendAlong 48 = .ok (.lconst 1, 1) := by decide +kernel
theorem dX7_sendAlong_49 : decode cX7_sendAlong 49 = .ok (.invokevirtual 136, 3) := by decide +kernel
theorem dX7_sendAlong_52 : decode cX7_sendAlong 52 = .ok (.lastore, 1) := by decide +kernel
theorem dX7_sendAlong_53 : decode cX7_sendAlong 53 = .ok (.aload_n 0, 1) := by decide +kernel
theorem dX7_sendAlong_54 : decode cX7_sendAlong 54 = .ok (.getfield 15, 3) := by decide +kernel
theorem dX7_sendAlong_57 : decode cX7_sendAlong 57 = .ok (.iload_n 1, 1) := by decide +kernel
theorem dX7_sendAlong_58 : decode cX7_sendAlong 58 = .ok (.iconst 1, 1) := by decide +kernel
theorem dX7_sendAlong_59 : decode cX7_sendAlong 59 = .ok (.bastore, 1) := by decide +kernel
theorem dX7_sendAlong_60 : decode cX7_sendAlong 60 = .ok (.aload_n 0, 1) := by decide +kernel
theorem dX7_sendAlong_61 : decode cX7_sendAlong 61 = .ok (.getfield 9, 3) := by decide +kernel
theorem dX7_sendAlong_64 : decode cX7_sendAlong 64 = .ok (.aload_n 0, 1) := by decide +kernel
theorem dX7_sendAlong_65 : decode cX7_sendAlong 65 = .ok (.getfield 114, 3) := by decide +kernel
theorem dX7_sendAlong_68 : decode cX7_sendAlong 68 = .ok (.iload_n 1, 1) := by decide +kernel
theorem dX7_sendAlong_69 : decode cX7_sendAlong 69 = .ok (.iastore, 1) := by decide +kernel
theorem dX7_sendAlong_70 : decode cX7_sendAlong 70 = .ok (.aload_n 0, 1) := by decide +kernel
theorem dX7_sendAlong_71 : decode cX7_sendAlong 71 = .ok (.dup, 1) := by decide +kernel
theorem dX7_sendAlong_72 : decode cX7_sendAlong 72 = .ok (.getfield 114, 3) := by decide +kernel
theorem dX7_sendAlong_75 : decode cX7_sendAlong 75 = .ok (.iconst 1, 1) := by decide +kernel
theorem dX7_sendAlong_76 : decode cX7_sendAlong 76 = .ok (.iadd, 1) := by decide +kernel
theorem dX7_sendAlong_77 : decode cX7_sendAlong 77 = .ok (.putfield 114, 3) := by decide +kernel
theorem dX7_sendAlong_80 : decode cX7_sendAlong 80 = .ok (.return_, 1) := by decide +kernel
def rm_cX11_wake : Room := { frames := 2, cells := 0, slots := 0, locals := 41 }
def G_cX11_wake_b32 (p : Program) (l : Launch) (e : Env) (s : State) (m : MethodId) (args : Array Value) (below : List Frame) (meth : Method) (c : Code) (dC : Nat → ClassId) (dI : Nat → Nat → Nat) (kA : Nat → ClassId) (ad : Nat → Nat) (res : Int32 × RS) (F : RS → Int32 → Int32 → Int32 → Option (Int32 × RS)) : Prop := ∀ (σ : RS) (x1 : Int32) (x2 : Int32) (s0 : Int32), F σ x1 x2 s0 = some res → ∀ (H : Heap) (locs : List Loc) (ls : Array Slot), va_P (dC, dI) vwCl (c_w kA ad σ) H → va_S (jw_A 57 ad) s.heap H locs → lv_has ls 4 [(0, .ref (ad 0)), (1, .int x1), (2, .int x2)] → W p l e rm_cX11_wake s m args below meth c H locs 0 0 (c_Qi below dC dI kA ad args s res) (F0 m 32 ls [.int s0])
def G_cX11_wake (p : Program) (l : Launch) (e : Env) (s : State) (m : MethodId) (args : Array Value) (below : List Frame) (meth : Method) (c : Code) (dC : Nat → ClassId) (dI : Nat → Nat → Nat) (kA : Nat → ClassId) (ad : Nat → Nat) (res : Int32 × RS) (F : RS → Int32 → Int32 → Option (Int32 × RS)) : Prop := ∀ (σ : RS) (x1 : Int32) (x2 : Int32), F σ x1 x2 = some res → ∀ (H : Heap) (locs : List Loc) (ls : Array Slot), va_P (dC, dI) vwCl (c_w kA ad σ) H → va_S (jw_A 57 ad) s.heap H locs → lv_has ls 4 [(0, .ref (ad 0)), (1, .int x1), (2, .int x2)] → W p l e rm_cX11_wake s m args below meth c H locs 0 0 (c_Qi below dC dI kA ad args s res) (F0 m 0 ls [])
def s_cX11_wake_b32 (σ : RS) (x1 : Int32) (x2 : Int32) (s0 : Int32) : Option (Int32 × RS) := kn_st (rs_A σ 4 (upd (rg_A σ 4) x1.toNatClampNeg (vp_nar .boolean x2))) 12 x1 (fun σ1 => kn_i (s_cX11_changed σ1 s0) (fun v2 σ3 => some (v2, σ3)))
set_option maxRecDepth 100000 in
set_option maxHeartbeats 4000000 in
theorem p_cX11_wake_b32 {p : Program} {l : Launch} {e : Env} {s : State} {m : MethodId} {args : Array Value} {below : List Frame} {meth : Method} {c : Code} {dC : Nat → ClassId} {dI : Nat → Nat → Nat} {kA : Nat → ClassId} {ad : Nat → Nat} (C : jxc cX11_wake (some .int) 4 RX11 p s m args meth c dC dI kA) (hap : jw_ap 57 ad) {res : Int32 × RS} : G_cX11_wake_b32 p l e s m args below meth c dC dI kA ad res (s_cX11_wake_b32) := by
  obtain ⟨hx, hb, hml, hown, hts, hr, hlocks, hK, hN⟩ := id C
  intro σ x1 x2 s0 hf H locs ls hP hS hl
  unfold s_cX11_wake_b32 at hf
  refine lv_istore_n (lv' := [(3, .int s0), (0, .ref (ad 0)), (1, .int x1), (2, .int x2)]) hx hb dX11_wake_32 rfl hl (by decide) rfl (fun ls hl => ?_)
  refine lv_aload_n hx hb dX11_wake_33 rfl (lv_at hl 1 rfl) ?_
  refine c_gX11_web hx hb hts hown hK hP (hts _ kw_410) dX11_wake_34 ?_
  refine c_gX10_awake hx hb hts hown hK hP (hts _ kw_124) dX11_wake_37 ?_
  refine lv_iload_n hx hb dX11_wake_40 rfl (lv_at hl 2 rfl) ?_
  refine lv_iload_n hx hb dX11_wake_41 rfl (lv_at hl 3 rfl) ?_
  refine ja_zst hx hb hK (c_D hap σ) hP hS 9 2 rfl rfl rfl c_sA4 hf dX11_wake_42 (fun σ1 H locs hP hS hf => ?_)
  refine lv_aload_n hx hb dX11_wake_43 rfl (lv_at hl 1 rfl) ?_
  refine lv_iload_n hx hb dX11_wake_44 rfl (lv_at hl 0 rfl) ?_
  refine jk_i hf (fun res hres => jv_run hx hb hml hown hts hK hN c_hG c_hNW hl.1 (n := 1) (As := [.int s0]) (rest := []) (c_cX11_changed l hap σ1 s0 res hres) hP (ci := 11) (q0 := 0) rfl rfl rfl kw_473 kw_470 kw_472 kw_0 kw_52 ⟨rfl, rfl⟩ (by decide +kernel) rfl ⟨Nat.le_of_ble_eq_true rfl, Nat.le_of_ble_eq_true rfl⟩ rfl (Nat.le_of_ble_eq_true rfl) dX11_wake_45) hS (fun v2 σ3 H locs hP hS hf => ?_)
  exact jr_i hx hb hr hlocks hf rfl hP hS dX11_wake_48
def s_cX11_wake (σ : RS) (x1 : Int32) (x2 : Int32) : Option (Int32 × RS) := kn_i (s_cX10_hasNode σ x1) (fun v1 σ2 => if v1 = 0 then (some ((-101), σ2)) else (kn_ld (rg_A σ2 4) 12 x1 (fun v3 => if v3 = x2 then (s_cX11_wake_b32 σ2 x1 x2 0) else (s_cX11_wake_b32 σ2 x1 x2 1))))
set_option maxRecDepth 100000 in
set_option maxHeartbeats 4000000 in
theorem p_cX11_wake {p : Program} {l : Launch} {e : Env} {s : State} {m : MethodId} {args : Array Value} {below : List Frame} {meth : Method} {c : Code} {dC : Nat → ClassId} {dI : Nat → Nat → Nat} {kA : Nat → ClassId} {ad : Nat → Nat} (C : jxc cX11_wake (some .int) 4 RX11 p s m args meth c dC dI kA) (hap : jw_ap 57 ad) {res : Int32 × RS} : G_cX11_wake p l e s m args below meth c dC dI kA ad res (s_cX11_wake) := by
  obtain ⟨hx, hb, hml, hown, hts, hr, hlocks, hK, hN⟩ := id C
  intro σ x1 x2 hf H locs ls hP hS hl
  unfold s_cX11_wake at hf
  refine lv_aload_n hx hb dX11_wake_0 rfl (lv_at hl 0 rfl) ?_
  refine c_gX11_web hx hb hts hown hK hP (hts _ kw_410) dX11_wake_1 ?_
  refine lv_iload_n hx hb dX11_wake_4 rfl (lv_at hl 1 rfl) ?_
  refine jk_i hf (fun res hres => jv_run hx hb hml hown hts hK hN c_hG c_hNW hl.1 (n := 1) (As := [.int x1]) (rest := []) (c_cX10_hasNode l hap σ x1 res hres) hP (ci := 10) (q0 := 7) rfl rfl rfl kw_489 kw_494 kw_487 kw_488 kw_54 ⟨rfl, rfl⟩ (by decide +kernel) rfl ⟨Nat.le_of_ble_eq_true rfl, Nat.le_of_ble_eq_true rfl⟩ rfl (Nat.le_of_ble_eq_true rfl) dX11_wake_5) hS (fun v1 σ2 H locs hP hS hf => ?_)
  refine jb_ne (tgt := 14) hx hb hf dX11_wake_8 (by decide) (fun hf => ?_) (fun hf => ?_)
  · refine lv_aload_n hx hb dX11_wake_14 rfl (lv_at hl 0 rfl) ?_
    refine c_gX11_web hx hb hts hown hK hP (hts _ kw_410) dX11_wake_15 ?_
    refine c_gX10_awake hx hb hts hown hK hP (hts _ kw_124) dX11_wake_18 ?_
    refine lv_iload_n hx hb dX11_wake_21 rfl (lv_at hl 1 rfl) ?_
    refine ja_zld hx hb hK hP 9 2 rfl rfl hf dX11_wake_22 (fun v3 hf => ?_)
    refine lv_iload_n hx hb dX11_wake_23 rfl (lv_at hl 2 rfl) ?_
    refine jc_ne (tgt := 31) hx hb hf dX11_wake_24 (by decide) (fun hf => ?_) (fun hf => ?_)
    · refine lv_iconst (v := 1) hx hb dX11_wake_31 (by decide) ?_
      exact (p_cX11_wake_b32 C hap) σ2 x1 x2 1 hf H locs ls hP hS (lv_sub hl [0, 1, 2] rfl)
    · refine lv_iconst (v := 0) hx hb dX11_wake_27 (by decide) ?_
      refine lv_goto (tgt := 32) hx hb dX11_wake_28 (by decide) ?_
      exact (p_cX11_wake_b32 C hap) σ2 x1 x2 0 hf H locs ls hP hS (lv_sub hl [0, 1, 2] rfl)
  · refine lv_bipush (v := (-101)) hx hb dX11_wake_11 (by decide) ?_
    exact jr_i hx hb hr hlocks hf rfl hP hS dX11_wake_13
theorem c_cX11_wake (l : Launch) {dC : Nat → ClassId} {dI : Nat → Nat → Nat} {kA : Nat → ClassId} {ad : Nat → Nat} (hap : jw_ap 57 ad) (σ : RS) (x1 : Int32) (x2 : Int32) (res : Int32 × RS) (hf : s_cX11_wake σ x1 x2 = some res) : jm_i l KW NW (dC, dI) vwCl (jtys kA) (jw_A 57 ad) (c_w kA ad) yX11_wake cX11_wake 4 .int (rm_cX11_wake) [.ref (ad 0), .int x1, .int x2] σ res := jm_i_of (by decide) (Nat.le_of_ble_eq_true rfl) (fun p e s m below meth c C hP hS ls hl => p_cX11_wake C hap σ x1 x2 hf s.heap [] ls hP hS hl)

def rm_cX11_act : Room := { frames := 2, cells := 0, slots := 0, locals := 41 }
def G_cX11_act_b19 (p : Program) (l : Launch) (e : Env) (s : State) (m : MethodId) (args : Array Value) (below : List Frame) (meth : Method) (c : Code) (dC : Nat → ClassId) (dI : Nat → Nat → Nat) (kA : Nat → ClassId) (ad : Nat → Nat) (res : Int32 × RS) (F : RS → Int32 → Int32 → Option (Int32 × RS)) : Prop := ∀ (σ : RS) (x1 : Int32) (x2 : Int32), F σ x1 x2 = some res → ∀ (H : Heap) (locs : List Loc) (ls : Array Slot), va_P (dC, dI) vwCl (c_w kA ad σ) H → va_S (jw_A 57 ad) s.heap H locs → lv_has ls 4 [(0, .ref (ad 0)), (1, .int x1), (2, .int x2)] → W p l e rm_cX11_act s m args below meth c H locs 0 0 (c_Qi below dC dI kA ad args s res) (F0 m 19 ls [])
def G_cX11_act (p : Program) (l : Launch) (e : Env) (s : State) (m : MethodId) (args : Array Value) (below : List Frame) (meth : Method) (c : Code) (dC : Nat → ClassId) (dI : Nat → Nat → Nat) (kA : Nat → ClassId) (ad : Nat → Nat) (res : Int32 × RS) (F : RS → Int32 → Int32 → Option (Int32 × RS)) : Prop := ∀ (σ : RS) (x1 : Int32) (x2 : Int32), F σ x1 x2 = some res → ∀ (H : Heap) (locs : List Loc) (ls : Array Slot), va_P (dC, dI) vwCl (c_w kA ad σ) H → va_S (jw_A 57 ad) s.heap H locs → lv_has ls 4 [(0, .ref (ad 0)), (1, .int x1), (2, .int x2)] → W p l e rm_cX11_act s m args below meth c H locs 0 0 (c_Qi below dC dI kA ad args s res) (F0 m 0 ls [])
def s_cX11_act_b19 (σ : RS) (x1 : Int32) (x2 : Int32) : Option (Int32 × RS) := if x1 < 0 then (some ((-102), σ)) else (if x1 < 7 then (kn_ld (rg_A σ 8) 7 x1 (fun v1 => kn_st (rs_A σ 8 (upd (rg_A σ 8) x1.toNatClampNeg x2)) 7 x1 (fun σ2 => kn_i (s_cX11_changed σ2 v1) (fun v3 σ4 => some (v3, σ4))))) else (some ((-102), σ)))
set_option maxRecDepth 100000 in
set_option maxHeartbeats 4000000 in
theorem p_cX11_act_b19 {p : Program} {l : Launch} {e : Env} {s : State} {m : MethodId} {args : Array Value} {below : List Frame} {meth : Method} {c : Code} {dC : Nat → ClassId} {dI : Nat → Nat → Nat} {kA : Nat → ClassId} {ad : Nat → Nat} (C : jxc cX11_act (some .int) 4 RX11 p s m args meth c dC dI kA) (hap : jw_ap 57 ad) {res : Int32 × RS} : G_cX11_act_b19 p l e s m args below meth c dC dI kA ad res (s_cX11_act_b19) := by
  obtain ⟨hx, hb, hml, hown, hts, hr, hlocks, hK, hN⟩ := id C
  intro σ x1 x2 hf H locs ls hP hS hl
  unfold s_cX11_act_b19 at hf
  refine lv_iload_n hx hb dX11_act_19 rfl (lv_at hl 1 rfl) ?_
  refine jb_lt (tgt := 29) hx hb hf dX11_act_20 (by decide) (fun hf => ?_) (fun hf => ?_)
  · refine lv_bipush (v := (-102)) hx hb dX11_act_29 (by decide) ?_
    exact jr_i hx hb hr hlocks hf rfl hP hS dX11_act_31
  · refine lv_iload_n hx hb dX11_act_23 rfl (lv_at hl 1 rfl) ?_
    refine lv_bipush (v := 7) hx hb dX11_act_24 (by decide) ?_
    refine jc_lt (tgt := 32) hx hb hf dX11_act_26 (by decide) (fun hf => ?_) (fun hf => ?_)
    · refine lv_aload_n hx hb dX11_act_32 rfl (lv_at hl 0 rfl) ?_
      refine c_gX11_program hx hb hts hown hK hP (hts _ kw_411) dX11_act_33 ?_
      refine c_gX6_acts hx hb hts hown hK hP (hts _ kw_183) dX11_act_36 ?_
      refine lv_iload_n hx hb dX11_act_39 rfl (lv_at hl 1 rfl) ?_
      refine ja_ild hx hb hK hP 15 0 rfl rfl hf dX11_act_40 (fun v1 hf => ?_)
      refine lv_istore_n (lv' := [(3, .int v1), (0, .ref (ad 0)), (1, .int x1), (2, .int x2)]) hx hb dX11_act_41 rfl hl (by decide) rfl (fun ls hl => ?_)
      refine lv_aload_n hx hb dX11_act_42 rfl (lv_at hl 1 rfl) ?_
      refine c_gX11_program hx hb hts hown hK hP (hts _ kw_411) dX11_act_43 ?_
      refine c_gX6_acts hx hb hts hown hK hP (hts _ kw_183) dX11_act_46 ?_
      refine lv_iload_n hx hb dX11_act_49 rfl (lv_at hl 2 rfl) ?_
      refine lv_iload_n hx hb dX11_act_50 rfl (lv_at hl 3 rfl) ?_
      refine ja_ist hx hb hK (c_D hap σ) hP hS 15 0 rfl rfl c_sA8 hf dX11_act_51 (fun σ2 H locs hP hS hf => ?_)
      refine lv_aload_n hx hb dX11_act_52 rfl (lv_at hl 1 rfl) ?_
      refine lv_iload_n hx hb dX11_act_53 rfl (lv_at hl 0 rfl) ?_
      refine jk_i hf (fun res hres => jv_run hx hb hml hown hts hK hN c_hG c_hNW hl.1 (n := 1) (As := [.int v1]) (rest := []) (c_cX11_changed l hap σ2 v1 res hres) hP (ci := 11) (q0 := 0) rfl rfl rfl kw_473 kw_470 kw_472 kw_0 kw_52 ⟨rfl, rfl⟩ (by decide +kernel) rfl ⟨Nat.le_of_ble_eq_true rfl, Nat.le_of_ble_eq_true rfl⟩ rfl (Nat.le_of_ble_eq_true rfl) dX11_act_54) hS (fun v3 σ4 H locs hP hS hf => ?_)
      exact jr_i hx hb hr hlocks hf rfl hP hS dX11_act_57
    · refine lv_bipush (v := (-102)) hx hb dX11_act_29 (by decide) ?_
      exact jr_i hx hb hr hlocks hf rfl hP hS dX11_act_31
def s_cX11_act (σ : RS) (x1 : Int32) (x2 : Int32) : Option (Int32 × RS) := if x2 = (-1) then (s_cX11_act_b19 σ x1 x2) else (kn_i (s_cX8_has σ x2) (fun v1 σ2 => if v1 = 0 then (some ((-101), σ2)) else (s_cX11_act_b19 σ2 x1 x2)))
set_option maxRecDepth 100000 in
set_option maxHeartbeats 4000000 in
theorem p_cX11_act {p : Program} {l : Launch} {e : Env} {s : State} {m : MethodId} {args : Array Value} {below : List Frame} {meth : Method} {c : Code} {dC : Nat → ClassId} {dI : Nat → Nat → Nat} {kA : Nat → ClassId} {ad : Nat → Nat} (C : jxc cX11_act (some .int) 4 RX11 p s m args meth c dC dI kA) (hap : jw_ap 57 ad) {res : Int32 × RS} : G_cX11_act p l e s m args below meth c dC dI kA ad res (s_cX11_act) := by
  obtain ⟨hx, hb, hml, hown, hts, hr, hlocks, hK, hN⟩ := id C
  intro σ x1 x2 hf H locs ls hP hS hl
  unfold s_cX11_act at hf
  refine lv_iload_n hx hb dX11_act_0 rfl (lv_at hl 2 rfl) ?_
  refine lv_iconst (v := (-1)) hx hb dX11_act_1 (by decide) ?_
  refine jc_eq (tgt := 19) hx hb hf dX11_act_2 (by decide) (fun hf => ?_) (fun hf => ?_)
  · exact (p_cX11_act_b19 C hap) σ x1 x2 hf H locs ls hP hS (lv_sub hl [0, 1, 2] rfl)
  · refine lv_aload_n hx hb dX11_act_5 rfl (lv_at hl 0 rfl) ?_
    refine c_gX11_terms hx hb hts hown hK hP (hts _ kw_409) dX11_act_6 ?_
    refine lv_iload_n hx hb dX11_act_9 rfl (lv_at hl 2 rfl) ?_
    refine jk_i hf (fun res hres => jv_run hx hb hml hown hts hK hN c_hG c_hNW hl.1 (n := 1) (As := [.int x2]) (rest := []) (c_cX8_has l hap σ x2 res hres) hP (ci := 8) (q0 := 1) rfl rfl rfl kw_457 kw_504 kw_455 kw_456 kw_53 ⟨rfl, rfl⟩ (by decide +kernel) rfl ⟨Nat.le_of_ble_eq_true rfl, Nat.le_of_ble_eq_true rfl⟩ rfl (Nat.le_of_ble_eq_true rfl) dX11_act_10) hS (fun v1 σ2 H locs hP hS hf => ?_)
    refine jb_ne (tgt := 19) hx hb hf dX11_act_13 (by decide) (fun hf => ?_) (fun hf => ?_)
    · exact (p_cX11_act_b19 C hap) σ2 x1 x2 hf H locs ls hP hS (lv_sub hl [0, 1, 2] rfl)
    · refine lv_bipush (v := (-101)) hx hb dX11_act_16 (by decide) ?_
      exact jr_i hx hb hr hlocks hf rfl hP hS dX11_act_18
theorem c_cX11_act (l : Launch) {dC : Nat → ClassId} {dI : Nat → Nat → Nat} {kA : Nat → ClassId} {ad : Nat → Nat} (hap : jw_ap 57 ad) (σ : RS) (x1 : Int32) (x2 : Int32) (res : Int32 × RS) (hf : s_cX11_act σ x1 x2 = some res) : jm_i l KW NW (dC, dI) vwCl (jtys kA) (jw_A 57 ad) (c_w kA ad) yX11_act cX11_act 4 .int (rm_cX11_act) [.ref (ad 0), .int x1, .int x2] σ res := jm_i_of (by decide) (Nat.le_of_ble_eq_true rfl) (fun p e s m below meth c C hP hS ls hl => p_cX11_act C hap σ x1 x2 hf s.heap [] ls hP hS hl)

def rm_cX11_fold : Room := { frames := 2, cells := 0, slots := 0, locals := 41 }
def G_cX11_fold (p : Program) (l : Launch) (e : Env) (s : State) (m : MethodId) (args : Array Value) (below : List Frame) (meth : Method) (c : Code) (dC : Nat → ClassId) (dI : Nat → Nat → Nat) (kA : Nat → ClassId) (ad : Nat → Nat) (res : Int32 × RS) (F : RS → Int32 → Option (Int32 × RS)) : Prop := ∀ (σ : RS) (x1 : Int32), F σ x1 = some res → ∀ (H : Heap) (locs : List Loc) (ls : Array Slot), va_P (dC, dI) vwCl (c_w kA ad σ) H → va_S (jw_A 57 ad) s.heap H locs → lv_has ls 3 [(0, .ref (ad 0)), (1, .int x1)] → W p l e rm_cX11_fold s m args below meth c H locs 0 0 (c_Qi below dC dI kA ad args s res) (F0 m 0 ls [])
def s_cX11_fold (σ : RS) (x1 : Int32) : Option (Int32 × RS) := if x1 < 0 then (some ((-102), σ)) else (if x1 ≤ 3 then (kn_v (rg_I σ 5) (fun v1 => kn_v (rs_I σ 5 x1) (fun σ2 => kn_i (s_cX11_changed σ2 v1) (fun v3 σ4 => some (v3, σ4))))) else (some ((-102), σ)))
set_option maxRecDepth 100000 in
set_option maxHeartbeats 4000000 in
theorem p_cX11_fold {p : Program} {l : Launch} {e : Env} {s : State} {m : MethodId} {args : Array Value} {below : List Frame} {meth : Method} {c : Code} {dC : Nat → ClassId} {dI : Nat → Nat → Nat} {kA : Nat → ClassId} {ad : Nat → Nat} (C : jxc cX11_fold (some .int) 3 RX11 p s m args meth c dC dI kA) (hap : jw_ap 57 ad) {res : Int32 × RS} : G_cX11_fold p l e s m args below meth c dC dI kA ad res (s_cX11_fold) := by
  obtain ⟨hx, hb, hml, hown, hts, hr, hlocks, hK, hN⟩ := id C
  intro σ x1 hf H locs ls hP hS hl
  unfold s_cX11_fold at hf
  refine lv_iload_n hx hb dX11_fold_0 rfl (lv_at hl 1 rfl) ?_
  refine jb_lt (tgt := 9) hx hb hf dX11_fold_1 (by decide) (fun hf => ?_) (fun hf => ?_)
  · refine lv_bipush (v := (-102)) hx hb dX11_fold_9 (by decide) ?_
    exact jr_i hx hb hr hlocks hf rfl hP hS dX11_fold_11
  · refine lv_iload_n hx hb dX11_fold_4 rfl (lv_at hl 1 rfl) ?_
    refine lv_iconst (v := 3) hx hb dX11_fold_5 (by decide) ?_
    refine jc_le (tgt := 12) hx hb hf dX11_fold_6 (by decide) (fun hf => ?_) (fun hf => ?_)
    · refine lv_aload_n hx hb dX11_fold_12 rfl (lv_at hl 0 rfl) ?_
      refine c_gX11_program hx hb hts hown hK hP (hts _ kw_411) dX11_fold_13 ?_
      refine c_gX6_foldSort hx hb hts hown hK hP (hts _ kw_184) dX11_fold_16 ?_
      refine jn_i hf (fun v1 hf => ?_)
      refine lv_istore_n (lv' := [(2, .int v1), (0, .ref (ad 0)), (1, .int x1)]) hx hb dX11_fold_19 rfl hl (by decide) rfl (fun ls hl => ?_)
      refine lv_aload_n hx hb dX11_fold_20 rfl (lv_at hl 1 rfl) ?_
      refine c_gX11_program hx hb hts hown hK hP (hts _ kw_411) dX11_fold_21 ?_
      refine lv_iload_n hx hb dX11_fold_24 rfl (lv_at hl 2 rfl) ?_
      refine c_pX6_foldSort hx hb hts hown hK hap hP hS hf (hts _ kw_184) dX11_fold_25 (fun σ2 H locs hP hS hf => ?_)
      refine lv_aload_n hx hb dX11_fold_28 rfl (lv_at hl 1 rfl) ?_
      refine lv_iload_n hx hb dX11_fold_29 rfl (lv_at hl 0 rfl) ?_
      refine jk_i hf (fun res hres => jv_run hx hb hml hown hts hK hN c_hG c_hNW hl.1 (n := 1) (As := [.int v1]) (rest := []) (c_cX11_changed l hap σ2 v1 res hres) hP (ci := 11) (q0 := 0) rfl rfl rfl kw_473 kw_470 kw_472 kw_0 kw_52 ⟨rfl, rfl⟩ (by decide +kernel) rfl ⟨Nat.le_of_ble_eq_true rfl, Nat.le_of_ble_eq_true rfl⟩ rfl (Nat.le_of_ble_eq_true rfl) dX11_fold_30) hS (fun v3 σ4 H locs hP hS hf => ?_)
      exact jr_i hx hb hr hlocks hf rfl hP hS dX11_fold_33
    · refine lv_bipush (v := (-102)) hx hb dX11_fold_9 (by decide) ?_
      exact jr_i hx hb hr hlocks hf rfl hP hS dX11_fold_11
theorem c_cX11_fold (l : Launch) {dC : Nat → ClassId} {dI : Nat → Nat → Nat} {kA : Nat → ClassId} {ad : Nat → Nat} (hap : jw_ap 57 ad) (σ : RS) (x1 : Int32) (res : Int32 × RS) (hf : s_cX11_fold σ x1 = some res) : jm_i l KW NW (dC, dI) vwCl (jtys kA) (jw_A 57 ad) (c_w kA ad) yX11_fold cX11_fold 3 .int (rm_cX11_fold) [.ref (ad 0), .int x1] σ res := jm_i_of (by decide) (Nat.le_of_ble_eq_true rfl) (fun p e s m below meth c C hP hS ls hl => p_cX11_fold C hap σ x1 hf s.heap [] ls hP hS hl)

def rm_cX11_ask : Room := { frames := 43, cells := 0, slots := 0, locals := 1243 }
def G_cX11_ask_b27 (p : Program) (l : Launch) (e : Env) (s : State) (m : MethodId) (args : Array Value) (below : List Frame) (meth : Method) (c : Code) (dC : Nat → ClassId) (dI : Nat → Nat → Nat) (kA : Nat → ClassId) (ad : Nat → Nat) (res : Int64 × RS) (F : RS → Option (Int64 × RS)) : Prop := ∀ (σ : RS), F σ = some res → ∀ (H : Heap) (locs : List Loc) (ls : Array Slot), va_P (dC, dI) vwCl (c_w kA ad σ) H → va_S (jw_A 57 ad) s.heap H locs → lv_has ls 6 [] → W p l e rm_cX11_ask s m args below meth c H locs 0 0 (c_Ql below dC dI kA ad args s res) (F0 m 27 ls [])
def G_cX11_ask_b51 (p : Program) (l : Launch) (e : Env) (s : State) (m : MethodId) (args : Array Value) (below : List Frame) (meth : Method) (c : Code) (dC : Nat → ClassId) (dI : Nat → Nat → Nat) (kA : Nat → ClassId) (ad : Nat → Nat) (res : Int64 × RS) (F : RS → Int32 → Int32 → Int32 → Option (Int64 × RS)) : Prop := ∀ (σ : RS) (x1 : Int32) (x2 : Int32) (x3 : Int32), F σ x1 x2 x3 = some res → ∀ (H : Heap) (locs : List Loc) (ls : Array Slot), va_P (dC, dI) vwCl (c_w kA ad σ) H → va_S (jw_A 57 ad) s.heap H locs → lv_has ls 6 [(0, .ref (ad 0)), (1, .int x1), (2, .int x2), (3, .int x3)] → W p l e rm_cX11_ask s m args below meth c H locs 0 0 (c_Ql below dC dI kA ad args s res) (F0 m 51 ls [])
def G_cX11_ask (p : Program) (l : Launch) (e : Env) (s : State) (m : MethodId) (args : Array Value) (below : List Frame) (meth : Method) (c : Code) (dC : Nat → ClassId) (dI : Nat → Nat → Nat) (kA : Nat → ClassId) (ad : Nat → Nat) (res : Int64 × RS) (F : RS → Int32 → Int32 → Int32 → Option (Int64 × RS)) : Prop := ∀ (σ : RS) (x1 : Int32) (x2 : Int32) (x3 : Int32), F σ x1 x2 x3 = some res → ∀ (H : Heap) (locs : List Loc) (ls : Array Slot), va_P (dC, dI) vwCl (c_w kA ad σ) H → va_S (jw_A 57 ad) s.heap H locs → lv_has ls 6 [(0, .ref (ad 0)), (1, .int x1), (2, .int x2), (3, .int x3)] → W p l e rm_cX11_ask s m args below meth c H locs 0 0 (c_Ql below dC dI kA ad args s res) (F0 m 0 ls [])
def s_cX11_ask_b27 (σ : RS) : Option (Int64 × RS) := some ((-101), σ)
set_option maxRecDepth 100000 in
set_option maxHeartbeats 4000000 in
theorem p_cX11_ask_b27 {p : Program} {l : Launch} {e : Env} {s : State} {m : MethodId} {args : Array Value} {below : List Frame} {meth : Method} {c : Code} {dC : Nat → ClassId} {dI : Nat → Nat → Nat} {kA : Nat → ClassId} {ad : Nat → Nat} (C : jxc cX11_ask (some .long) 6 RX11 p s m args meth c dC dI kA) (hap : jw_ap 57 ad) {res : Int64 × RS} : G_cX11_ask_b27 p l e s m args below meth c dC dI kA ad res (s_cX11_ask_b27) := by
  obtain ⟨hx, hb, hml, hown, hts, hr, hlocks, hK, hN⟩ := id C
  intro σ hf H locs ls hP hS hl
  unfold s_cX11_ask_b27 at hf
  refine lv_ldc2 (v := (-101)) hx hb hown (hts _ kw_708) dX11_ask_27 ?_
  exact jr_l hx hb hr hlocks hf hP hS dX11_ask_30
def s_cX11_ask_b51 (σ : RS) (x1 : Int32) (x2 : Int32) (x3 : Int32) : Option (Int64 × RS) := kn_u (s_cX1_begin σ) (fun σ2 => kn_l (r_cX1_valueOf 41 σ2 x1 x2 x3 0) (fun v3 σ4 => kn_v (rs_I σ4 0 (rg_I σ4 16)) (fun σ5 => some (v3, σ5))))
set_option maxRecDepth 100000 in
set_option maxHeartbeats 4000000 in
theorem p_cX11_ask_b51 {p : Program} {l : Launch} {e : Env} {s : State} {m : MethodId} {args : Array Value} {below : List Frame} {meth : Method} {c : Code} {dC : Nat → ClassId} {dI : Nat → Nat → Nat} {kA : Nat → ClassId} {ad : Nat → Nat} (C : jxc cX11_ask (some .long) 6 RX11 p s m args meth c dC dI kA) (hap : jw_ap 57 ad) {res : Int64 × RS} : G_cX11_ask_b51 p l e s m args below meth c dC dI kA ad res (s_cX11_ask_b51) := by
  obtain ⟨hx, hb, hml, hown, hts, hr, hlocks, hK, hN⟩ := id C
  intro σ x1 x2 x3 hf H locs ls hP hS hl
  unfold s_cX11_ask_b51 at hf
  refine lv_aload_n hx hb dX11_ask_51 rfl (lv_at hl 0 rfl) ?_
  refine c_gX11_asker hx hb hts hown hK hP (hts _ kw_415) dX11_ask_52 ?_
  refine jk_u hf (fun res hres => jv_run hx hb hml hown hts hK hN c_hG c_hNW hl.1 (n := 0) (As := []) (rest := []) (c_cX1_begin l hap σ res hres) hP (ci := 1) (q0 := 22) rfl rfl rfl kw_535 kw_713 kw_533 kw_534 kw_60 ⟨rfl, rfl⟩ (by decide +kernel) rfl ⟨Nat.le_of_ble_eq_true rfl, Nat.le_of_ble_eq_true rfl⟩ rfl (Nat.le_of_ble_eq_true rfl) dX11_ask_55) hS (fun σ2 H locs hP hS hf => ?_)
  refine lv_aload_n hx hb dX11_ask_58 rfl (lv_at hl 0 rfl) ?_
  refine c_gX11_asker hx hb hts hown hK hP (hts _ kw_415) dX11_ask_59 ?_
  refine lv_iload_n hx hb dX11_ask_62 rfl (lv_at hl 1 rfl) ?_
  refine lv_iload_n hx hb dX11_ask_63 rfl (lv_at hl 2 rfl) ?_
  refine lv_iload_n hx hb dX11_ask_64 rfl (lv_at hl 3 rfl) ?_
  refine lv_iconst (v := 0) hx hb dX11_ask_65 (by decide) ?_
  refine jk_l hf (fun res hres => jv_runN hx hb hml hown hts hK hN c_hG c_hNW hl.1 (n := 4) (As := [.int x1, .int x2, .int x3, .int 0]) (rest := []) (c_cX1_valueOf l hap 41 σ2 x1 x2 x3 0 res hres) hP (ci := 1) (q0 := 22) rfl rfl rfl kw_559 nw_714 kw_558 kw_4 kw_60 ⟨rfl, rfl⟩ (by decide +kernel) rfl ⟨Nat.le_of_ble_eq_true rfl, Nat.le_of_ble_eq_true rfl⟩ rfl (Nat.le_of_ble_eq_true rfl) dX11_ask_66) hS (fun v3 σ4 H locs hP hS hf => ?_)
  refine lv_lstore (lv' := [(4, .long v3), (0, .ref (ad 0)), (1, .int x1), (2, .int x2), (3, .int x3)]) hx hb dX11_ask_69 hl (by decide) rfl (fun ls hl => ?_)
  refine lv_aload_n hx hb dX11_ask_71 rfl (lv_at hl 1 rfl) ?_
  refine lv_aload_n hx hb dX11_ask_72 rfl (lv_at hl 1 rfl) ?_
  refine c_gX11_asker hx hb hts hown hK hP (hts _ kw_415) dX11_ask_73 ?_
  refine c_gX1_fault hx hb hts hown hK hP (hts _ kw_282) dX11_ask_76 ?_
  refine c_pX11_whyAsked hx hb hts hown hK hap hP hS hf (hts _ kw_419) dX11_ask_79 (fun σ5 H locs hP hS hf => ?_)
  refine lv_lload hx hb dX11_ask_82 (lv_at hl 0 rfl) ?_
  exact jr_l hx hb hr hlocks hf hP hS dX11_ask_84
def s_cX11_ask (σ : RS) (x1 : Int32) (x2 : Int32) (x3 : Int32) : Option (Int64 × RS) := kn_v (rs_I σ 0 0) (fun σ1 => kn_i (s_cX8_has σ1 x1) (fun v2 σ3 => if v2 = 0 then (s_cX11_ask_b27 σ3) else (kn_i (s_cX10_hasNode σ3 x2) (fun v4 σ5 => if v4 = 0 then (s_cX11_ask_b27 σ5) else (if x3 = (-1) then (s_cX11_ask_b51 σ5 x1 x2 x3) else (kn_i (s_cX10_hasArc σ5 x3) (fun v6 σ7 => if v6 = 0 then (some ((-101), σ7)) else (s_cX11_ask_b51 σ7 x1 x2 x3))))))))
set_option maxRecDepth 100000 in
set_option maxHeartbeats 4000000 in
theorem p_cX11_ask {p : Program} {l : Launch} {e : Env} {s : State} {m : MethodId} {args : Array Value} {below : List Frame} {meth : Method} {c : Code} {dC : Nat → ClassId} {dI : Nat → Nat → Nat} {kA : Nat → ClassId} {ad : Nat → Nat} (C : jxc cX11_ask (some .long) 6 RX11 p s m args meth c dC dI kA) (hap : jw_ap 57 ad) {res : Int64 × RS} : G_cX11_ask p l e s m args below meth c dC dI kA ad res (s_cX11_ask) := by
  obtain ⟨hx, hb, hml, hown, hts, hr, hlocks, hK, hN⟩ := id C
  intro σ x1 x2 x3 hf H locs ls hP hS hl
  unfold s_cX11_ask at hf
  refine lv_aload_n hx hb dX11_ask_0 rfl (lv_at hl 0 rfl) ?_
  refine lv_iconst (v := 0) hx hb dX11_ask_1 (by decide) ?_
  refine c_pX11_whyAsked hx hb hts hown hK hap hP hS hf (hts _ kw_419) dX11_ask_2 (fun σ1 H locs hP hS hf => ?_)
  refine lv_aload_n hx hb dX11_ask_5 rfl (lv_at hl 0 rfl) ?_
  refine c_gX11_terms hx hb hts hown hK hP (hts _ kw_409) dX11_ask_6 ?_
  refine lv_iload_n hx hb dX11_ask_9 rfl (lv_at hl 1 rfl) ?_
  refine jk_i hf (fun res hres => jv_run hx hb hml hown hts hK hN c_hG c_hNW hl.1 (n := 1) (As := [.int x1]) (rest := []) (c_cX8_has l hap σ1 x1 res hres) hP (ci := 8) (q0 := 1) rfl rfl rfl kw_457 kw_504 kw_455 kw_456 kw_53 ⟨rfl, rfl⟩ (by decide +kernel) rfl ⟨Nat.le_of_ble_eq_true rfl, Nat.le_of_ble_eq_true rfl⟩ rfl (Nat.le_of_ble_eq_true rfl) dX11_ask_10) hS (fun v2 σ3 H locs hP hS hf => ?_)
  refine jb_eq (tgt := 27) hx hb hf dX11_ask_13 (by decide) (fun hf => ?_) (fun hf => ?_)
  · exact (p_cX11_ask_b27 C hap) σ3 hf H locs ls hP hS (lv_sub hl [] rfl)
  · refine lv_aload_n hx hb dX11_ask_16 rfl (lv_at hl 0 rfl) ?_
    refine c_gX11_web hx hb hts hown hK hP (hts _ kw_410) dX11_ask_17 ?_
    refine lv_iload_n hx hb dX11_ask_20 rfl (lv_at hl 2 rfl) ?_
    refine jk_i hf (fun res hres => jv_run hx hb hml hown hts hK hN c_hG c_hNW hl.1 (n := 1) (As := [.int x2]) (rest := []) (c_cX10_hasNode l hap σ3 x2 res hres) hP (ci := 10) (q0 := 7) rfl rfl rfl kw_489 kw_494 kw_487 kw_488 kw_54 ⟨rfl, rfl⟩ (by decide +kernel) rfl ⟨Nat.le_of_ble_eq_true rfl, Nat.le_of_ble_eq_true rfl⟩ rfl (Nat.le_of_ble_eq_true rfl) dX11_ask_21) hS (fun v4 σ5 H locs hP hS hf => ?_)
    refine jb_ne (tgt := 31) hx hb hf dX11_ask_24 (by decide) (fun hf => ?_) (fun hf => ?_)
    · refine lv_iload_n hx hb dX11_ask_31 rfl (lv_at hl 3 rfl) ?_
      refine lv_iconst (v := (-1)) hx hb dX11_ask_32 (by decide) ?_
      refine jc_eq (tgt := 51) hx hb hf dX11_ask_33 (by decide) (fun hf => ?_) (fun hf => ?_)
      · exact (p_cX11_ask_b51 C hap) σ5 x1 x2 x3 hf H locs ls hP hS (lv_sub hl [0, 1, 2, 3] rfl)
      · refine lv_aload_n hx hb dX11_ask_36 rfl (lv_at hl 0 rfl) ?_
        refine c_gX11_web hx hb hts hown hK hP (hts _ kw_410) dX11_ask_37 ?_
        refine lv_iload_n hx hb dX11_ask_40 rfl (lv_at hl 3 rfl) ?_
        refine jk_i hf (fun res hres => jv_run hx hb hml hown hts hK hN c_hG c_hNW hl.1 (n := 1) (As := [.int x3]) (rest := []) (c_cX10_hasArc l hap σ5 x3 res hres) hP (ci := 10) (q0 := 7) rfl rfl rfl kw_712 kw_709 kw_710 kw_711 kw_54 ⟨rfl, rfl⟩ (by decide +kernel) rfl ⟨Nat.le_of_ble_eq_true rfl, Nat.le_of_ble_eq_true rfl⟩ rfl (Nat.le_of_ble_eq_true rfl) dX11_ask_41) hS (fun v6 σ7 H locs hP hS hf => ?_)
        refine jb_ne (tgt := 51) hx hb hf dX11_ask_44 (by decide) (fun hf => ?_) (fun hf => ?_)
        · exact (p_cX11_ask_b51 C hap) σ7 x1 x2 x3 hf H locs ls hP hS (lv_sub hl [0, 1, 2, 3] rfl)
        · refine lv_ldc2 (v := (-101)) hx hb hown (hts _ kw_708) dX11_ask_47 ?_
          exact jr_l hx hb hr hlocks hf hP hS dX11_ask_50
    · exact (p_cX11_ask_b27 C hap) σ5 hf H locs ls hP hS (lv_sub hl [] rfl)
theorem c_cX11_ask (l : Launch) {dC : Nat → ClassId} {dI : Nat → Nat → Nat} {kA : Nat → ClassId} {ad : Nat → Nat} (hap : jw_ap 57 ad) (σ : RS) (x1 : Int32) (x2 : Int32) (x3 : Int32) (res : Int64 × RS) (hf : s_cX11_ask σ x1 x2 x3 = some res) : jm_l l KW NW (dC, dI) vwCl (jtys kA) (jw_A 57 ad) (c_w kA ad) yX11_ask cX11_ask 6 (rm_cX11_ask) [.ref (ad 0), .int x1, .int x2, .int x3] σ res := jm_l_of (by decide) (Nat.le_of_ble_eq_true rfl) (fun p e s m below meth c C hP hS ls hl => p_cX11_ask C hap σ x1 x2 x3 hf s.heap [] ls hP hS hl)

def rm_cX11_state : Room := { frames := 1, cells := 0, slots := 0, locals := 21 }
def G_cX11_state (p : Program) (l : Launch) (e : Env) (s : State) (m : MethodId) (args : Array Value) (below : List Frame) (meth : Method) (c : Code) (dC : Nat → ClassId) (dI : Nat → Nat → Nat) (kA : Nat → ClassId) (ad : Nat → Nat) (res : Int64 × RS) (F : RS → Int32 → Int32 → Option (Int64 × RS)) : Prop := ∀ (σ : RS) (x1 : Int32) (x2 : Int32), F σ x1 x2 = some res → ∀ (H : Heap) (locs : List Loc) (ls : Array Slot), va_P (dC, dI) vwCl (c_w kA ad σ) H → va_S (jw_A 57 ad) s.heap H locs → lv_has ls 3 [(0, .ref (ad 0)), (1, .int x1), (2, .int x2)] → W p l e rm_cX11_state s m args below meth c H locs 0 0 (c_Ql below dC dI kA ad args s res) (F0 m 0 ls [])
def s_cX11_state (σ : RS) (x1 : Int32) (x2 : Int32) : Option (Int64 × RS) := kn_i (s_cX10_hasNode σ x1) (fun v1 σ2 => if v1 = 0 then (some ((-101), σ2)) else (kn_i (s_cX11_isState σ2 x2.toInt64) (fun v3 σ4 => if v3 = 0 then (some ((-102), σ4)) else (kn_ld (rg_B σ4 1) 36 ((x1 * 3) + x2) (fun v5 => some (v5, σ4))))))
set_option maxRecDepth 100000 in
set_option maxHeartbeats 4000000 in
theorem p_cX11_state {p : Program} {l : Launch} {e : Env} {s : State} {m : MethodId} {args : Array Value} {below : List Frame} {meth : Method} {c : Code} {dC : Nat → ClassId} {dI : Nat → Nat → Nat} {kA : Nat → ClassId} {ad : Nat → Nat} (C : jxc cX11_state (some .long) 3 RX11 p s m args meth c dC dI kA) (hap : jw_ap 57 ad) {res : Int64 × RS} : G_cX11_state p l e s m args below meth c dC dI kA ad res (s_cX11_state) := by
  obtain ⟨hx, hb, hml, hown, hts, hr, hlocks, hK, hN⟩ := id C
  intro σ x1 x2 hf H locs ls hP hS hl
  unfold s_cX11_state at hf
  refine lv_aload_n hx hb dX11_state_0 rfl (lv_at hl 0 rfl) ?_
  refine c_gX11_web hx hb hts hown hK hP (hts _ kw_410) dX11_state_1 ?_
  refine lv_iload_n hx hb dX11_state_4 rfl (lv_at hl 1 rfl) ?_
  refine jk_i hf (fun res hres => jv_run hx hb hml hown hts hK hN c_hG c_hNW hl.1 (n := 1) (As := [.int x1]) (rest := []) (c_cX10_hasNode l hap σ x1 res hres) hP (ci := 10) (q0 := 7) rfl rfl rfl kw_489 kw_494 kw_487 kw_488 kw_54 ⟨rfl, rfl⟩ (by decide +kernel) rfl ⟨Nat.le_of_ble_eq_true rfl, Nat.le_of_ble_eq_true rfl⟩ rfl (Nat.le_of_ble_eq_true rfl) dX11_state_5) hS (fun v1 σ2 H locs hP hS hf => ?_)
  refine jb_ne (tgt := 15) hx hb hf dX11_state_8 (by decide) (fun hf => ?_) (fun hf => ?_)
  · refine lv_iload_n hx hb dX11_state_15 rfl (lv_at hl 2 rfl) ?_
    refine lv_i2l (v := x2.toInt64) hx hb dX11_state_16 rfl ?_
    refine jk_i hf (fun res hres => js_run hx hb hml hown hts hK hN c_hG c_hNW hl.1 (n := 1) (As := [.long x2.toInt64]) (rest := []) (c_cX11_isState l hap σ2 x2.toInt64 res hres) hP kw_460 kw_495 kw_459 kw_52 ⟨rfl, rfl⟩ (by decide +kernel) rfl ⟨Nat.le_of_ble_eq_true rfl, Nat.le_of_ble_eq_true rfl⟩ rfl (Nat.le_of_ble_eq_true rfl) dX11_state_17) hS (fun v3 σ4 H locs hP hS hf => ?_)
    refine jb_eq (tgt := 39) hx hb hf dX11_state_20 (by decide) (fun hf => ?_) (fun hf => ?_)
    · refine lv_ldc2 (v := (-102)) hx hb hown (hts _ kw_723) dX11_state_39 ?_
      exact jr_l hx hb hr hlocks hf hP hS dX11_state_42
    · refine lv_aload_n hx hb dX11_state_23 rfl (lv_at hl 0 rfl) ?_
      refine c_gX11_web hx hb hts hown hK hP (hts _ kw_410) dX11_state_24 ?_
      refine c_gX10_states hx hb hts hown hK hP (hts _ kw_116) dX11_state_27 ?_
      refine lv_iload_n hx hb dX11_state_30 rfl (lv_at hl 1 rfl) ?_
      refine lv_iconst (v := 3) hx hb dX11_state_31 (by decide) ?_
      refine lv_imul hx hb dX11_state_32 ?_
      refine lv_iload_n hx hb dX11_state_33 rfl (lv_at hl 2 rfl) ?_
      refine lv_iadd hx hb dX11_state_34 ?_
      refine ja_lld hx hb hK hP 8 1 rfl rfl hf dX11_state_35 (fun v5 hf => ?_)
      refine lv_goto (tgt := 42) hx hb dX11_state_36 (by decide) ?_
      exact jr_l hx hb hr hlocks hf hP hS dX11_state_42
  · refine lv_ldc2 (v := (-101)) hx hb hown (hts _ kw_708) dX11_state_11 ?_
    exact jr_l hx hb hr hlocks hf hP hS dX11_state_14
theorem c_cX11_state (l : Launch) {dC : Nat → ClassId} {dI : Nat → Nat → Nat} {kA : Nat → ClassId} {ad : Nat → Nat} (hap : jw_ap 57 ad) (σ : RS) (x1 : Int32) (x2 : Int32) (res : Int64 × RS) (hf : s_cX11_state σ x1 x2 = some res) : jm_l l KW NW (dC, dI) vwCl (jtys kA) (jw_A 57 ad) (c_w kA ad) yX11_state cX11_state 3 (rm_cX11_state) [.ref (ad 0), .int x1, .int x2] σ res := jm_l_of (by decide) (Nat.le_of_ble_eq_true rfl) (fun p e s m below meth c C hP hS ls hl => p_cX11_state C hap σ x1 x2 hf s.heap [] ls hP hS hl)

def rm_cX0_comesTo : Room := { frames := 43, cells := 0, slots := 0, locals := 1243 }
def G_cX0_comesTo (p : Program) (l : Launch) (e : Env) (s : State) (m : MethodId) (args : Array Value) (below : List Frame) (meth : Method) (c : Code) (dC : Nat → ClassId) (dI : Nat → Nat → Nat) (kA : Nat → ClassId) (ad : Nat → Nat) (res : Int64 × RS) (F : RS → Int32 → Int32 → Int32 → Int64 → Option (Int64 × RS)) : Prop := ∀ (σ : RS) (x1 : Int32) (x2 : Int32) (x3 : Int32) (x4 : Int64), F σ x1 x2 x3 x4 = some res → ∀ (H : Heap) (locs : List Loc) (ls : Array Slot), va_P (dC, dI) vwCl (c_w kA ad σ) H → va_S (jw_A 57 ad) s.heap H locs → lv_has ls 9 [(0, .ref (ad 23)), (1, .int x1), (2, .int x2), (3, .int x3), (4, .long x4)] → W p l e rm_cX0_comesTo s m args below meth c H locs 0 0 (c_Ql below dC dI kA ad args s res) (F0 m 0 ls [])
def s_cX0_comesTo (σ : RS) (x1 : Int32) (x2 : Int32) (x3 : Int32) (x4 : Int64) : Option (Int64 × RS) := kn_ld (rg_A σ 8) 7 x1 (fun v1 => if v1 = (-1) then (some (x4, σ)) else (kn_l (r_cX1_valueOf 41 σ v1 x2 x3 0) (fun v2 σ3 => if (rg_I σ3 16) = 0 then (some (v2, σ3)) else (kn_u (s_cX2_keep σ3 (rg_I σ3 16) x1 x2 x3 ((rg_I σ3 4) + 1)) (fun σ5 => some (v2, σ5))))))
set_option maxRecDepth 100000 in
set_option maxHeartbeats 4000000 in
theorem p_cX0_comesTo {p : Program} {l : Launch} {e : Env} {s : State} {m : MethodId} {args : Array Value} {below : List Frame} {meth : Method} {c : Code} {dC : Nat → ClassId} {dI : Nat → Nat → Nat} {kA : Nat → ClassId} {ad : Nat → Nat} (C : jxc cX0_comesTo (some .long) 9 RX0 p s m args meth c dC dI kA) (hap : jw_ap 57 ad) {res : Int64 × RS} : G_cX0_comesTo p l e s m args below meth c dC dI kA ad res (s_cX0_comesTo) := by
  obtain ⟨hx, hb, hml, hown, hts, hr, hlocks, hK, hN⟩ := id C
  intro σ x1 x2 x3 x4 hf H locs ls hP hS hl
  unfold s_cX0_comesTo at hf
  refine lv_aload_n hx hb dX0_comesTo_0 rfl (lv_at hl 0 rfl) ?_
  refine c_gX0_program hx hb hts hown hK hP (hts _ kw_309) dX0_comesTo_1 ?_
  refine c_gX6_acts hx hb hts hown hK hP (hts _ kw_182) dX0_comesTo_4 ?_
  refine lv_iload_n hx hb dX0_comesTo_7 rfl (lv_at hl 1 rfl) ?_
  refine ja_ild hx hb hK hP 15 0 rfl rfl hf dX0_comesTo_8 (fun v1 hf => ?_)
  refine lv_istore (lv' := [(6, .int v1), (0, .ref (ad 23)), (1, .int x1), (2, .int x2), (3, .int x3), (4, .long x4)]) hx hb dX0_comesTo_9 hl (by decide) rfl (fun ls hl => ?_)
  refine lv_iload hx hb dX0_comesTo_11 (lv_at hl 0 rfl) ?_
  refine lv_iconst (v := (-1)) hx hb dX0_comesTo_13 (by decide) ?_
  refine jc_ne (tgt := 20) hx hb hf dX0_comesTo_14 (by decide) (fun hf => ?_) (fun hf => ?_)
  · refine lv_aload_n hx hb dX0_comesTo_20 rfl (lv_at hl 1 rfl) ?_
    refine c_gX0_asker hx hb hts hown hK hP (hts _ kw_311) dX0_comesTo_21 ?_
    refine lv_iload hx hb dX0_comesTo_24 (lv_at hl 0 rfl) ?_
    refine lv_iload_n hx hb dX0_comesTo_26 rfl (lv_at hl 3 rfl) ?_
    refine lv_iload_n hx hb dX0_comesTo_27 rfl (lv_at hl 4 rfl) ?_
    refine lv_iconst (v := 0) hx hb dX0_comesTo_28 (by decide) ?_
    refine jk_l hf (fun res hres => jv_runN hx hb hml hown hts hK hN c_hG c_hNW hl.1 (n := 4) (As := [.int v1, .int x2, .int x3, .int 0]) (rest := []) (c_cX1_valueOf l hap 41 σ v1 x2 x3 0 res hres) hP (ci := 1) (q0 := 22) rfl rfl rfl kw_559 nw_556 kw_558 kw_4 kw_60 ⟨rfl, rfl⟩ (by decide +kernel) rfl ⟨Nat.le_of_ble_eq_true rfl, Nat.le_of_ble_eq_true rfl⟩ rfl (Nat.le_of_ble_eq_true rfl) dX0_comesTo_29) hS (fun v2 σ3 H locs hP hS hf => ?_)
    refine lv_lstore (lv' := [(7, .long v2), (6, .int v1), (0, .ref (ad 23)), (1, .int x1), (2, .int x2), (3, .int x3), (4, .long x4)]) hx hb dX0_comesTo_32 hl (by decide) rfl (fun ls hl => ?_)
    refine lv_aload_n hx hb dX0_comesTo_34 rfl (lv_at hl 2 rfl) ?_
    refine c_gX0_asker hx hb hts hown hK hP (hts _ kw_311) dX0_comesTo_35 ?_
    refine c_gX1_fault hx hb hts hown hK hP (hts _ kw_281) dX0_comesTo_38 ?_
    refine jb_eq (tgt := 70) hx hb hf dX0_comesTo_41 (by decide) (fun hf => ?_) (fun hf => ?_)
    · refine lv_lload hx hb dX0_comesTo_70 (lv_at hl 0 rfl) ?_
      exact jr_l hx hb hr hlocks hf hP hS dX0_comesTo_72
    · refine lv_aload_n hx hb dX0_comesTo_44 rfl (lv_at hl 2 rfl) ?_
      refine c_gX0_failure hx hb hts hown hK hP (hts _ kw_314) dX0_comesTo_45 ?_
      refine lv_aload_n hx hb dX0_comesTo_48 rfl (lv_at hl 2 rfl) ?_
      refine c_gX0_asker hx hb hts hown hK hP (hts _ kw_311) dX0_comesTo_49 ?_
      refine c_gX1_fault hx hb hts hown hK hP (hts _ kw_281) dX0_comesTo_52 ?_
      refine lv_iload_n hx hb dX0_comesTo_55 rfl (lv_at hl 3 rfl) ?_
      refine lv_iload_n hx hb dX0_comesTo_56 rfl (lv_at hl 4 rfl) ?_
      refine lv_iload_n hx hb dX0_comesTo_57 rfl (lv_at hl 5 rfl) ?_
      refine lv_aload_n hx hb dX0_comesTo_58 rfl (lv_at hl 2 rfl) ?_
      refine c_gX0_web hx hb hts hown hK hP (hts _ kw_306) dX0_comesTo_59 ?_
      refine c_gX10_rounds hx hb hts hown hK hP (hts _ kw_144) dX0_comesTo_62 ?_
      refine lv_iconst (v := 1) hx hb dX0_comesTo_65 (by decide) ?_
      refine lv_iadd hx hb dX0_comesTo_66 ?_
      refine jk_u hf (fun res hres => jv_run hx hb hml hown hts hK hN c_hG c_hNW hl.1 (n := 5) (As := [.int (rg_I σ3 16), .int x1, .int x2, .int x3, .int ((rg_I σ3 4) + 1)]) (rest := []) (c_cX2_keep l hap σ3 (rg_I σ3 16) x1 x2 x3 ((rg_I σ3 4) + 1) res hres) hP (ci := 2) (q0 := 16) rfl rfl rfl kw_580 kw_577 kw_578 kw_579 kw_56 ⟨rfl, rfl⟩ (by decide +kernel) rfl ⟨Nat.le_of_ble_eq_true rfl, Nat.le_of_ble_eq_true rfl⟩ rfl (Nat.le_of_ble_eq_true rfl) dX0_comesTo_67) hS (fun σ5 H locs hP hS hf => ?_)
      refine lv_lload hx hb dX0_comesTo_70 (lv_at hl 0 rfl) ?_
      exact jr_l hx hb hr hlocks hf hP hS dX0_comesTo_72
  · refine lv_lload hx hb dX0_comesTo_17 (lv_at hl 5 rfl) ?_
    exact jr_l hx hb hr hlocks hf hP hS dX0_comesTo_19
theorem c_cX0_comesTo (l : Launch) {dC : Nat → ClassId} {dI : Nat → Nat → Nat} {kA : Nat → ClassId} {ad : Nat → Nat} (hap : jw_ap 57 ad) (σ : RS) (x1 : Int32) (x2 : Int32) (x3 : Int32) (x4 : Int64) (res : Int64 × RS) (hf : s_cX0_comesTo σ x1 x2 x3 x4 = some res) : jm_l l KW NW (dC, dI) vwCl (jtys kA) (jw_A 57 ad) (c_w kA ad) yX0_comesTo cX0_comesTo 9 (rm_cX0_comesTo) [.ref (ad 23), .int x1, .int x2, .int x3, .long x4] σ res := jm_l_of (by decide) (Nat.le_of_ble_eq_true rfl) (fun p e s m below meth c C hP hS ls hl => p_cX0_comesTo C hap σ x1 x2 x3 x4 hf s.heap [] ls hP hS hl)

def rm_cX3_sendAlong : Room := { frames := 44, cells := 0, slots := 0, locals := 1271 }
def G_cX3_sendAlong (p : Program) (l : Launch) (e : Env) (s : State) (m : MethodId) (args : Array Value) (below : List Frame) (meth : Method) (c : Code) (dC : Nat → ClassId) (dI : Nat → Nat → Nat) (kA : Nat → ClassId) (ad : Nat → Nat) (res : RS) (F : RS → Int32 → Int32 → Option (RS)) : Prop := ∀ (σ : RS) (x1 : Int32) (x2 : Int32), F σ x1 x2 = some res → ∀ (H : Heap) (locs : List Loc) (ls : Array Slot), va_P (dC, dI) vwCl (c_w kA ad σ) H → va_S (jw_A 57 ad) s.heap H locs → lv_has ls 6 [(0, .ref (ad 31)), (1, .int x1), (2, .int x2)] → W p l e rm_cX3_sendAlong s m args below meth c H locs 0 0 (c_Qu below dC dI kA ad args s res) (F0 m 0 ls [])
def s_cX3_sendAlong (σ : RS) (x1 : Int32) (x2 : Int32) : Option (RS) := kn_l (s_cX0_comesTo σ 0 x1 x2 1) (fun v1 σ2 => if v1 = 0 then some σ2 else (kn_l (s_cX0_comesTo σ2 1 x1 x2 1) (fun v3 σ4 => kn_i (s_cX2_is σ4) (fun v5 σ6 => if v5 = 0 then (if (rg_I σ6 20) < 60 then (kn_v (((rg_I σ6 19) + (rg_I σ6 20)) - ((rg_I σ6 19) + (rg_I σ6 20)) / 60 * 60) (fun v7 => kn_st (rs_A σ6 14 (upd (rg_A σ6 14) v7.toNatClampNeg x2)) 60 v7 (fun σ8 => kn_st (rs_B σ8 6 (vp_updL (rg_B σ8 6) v7.toNatClampNeg v3)) 60 v7 (fun σ9 => kn_v (rs_I σ9 20 ((rg_I σ9 20) + 1)) (fun σ10 => some σ10))))) else (kn_u (s_cX2_keep σ6 5 1 x1 x2 ((rg_I σ6 4) + 1)) (fun σ12 => some σ12))) else some σ6))))
set_option maxRecDepth 100000 in
set_option maxHeartbeats 4000000 in
theorem p_cX3_sendAlong {p : Program} {l : Launch} {e : Env} {s : State} {m : MethodId} {args : Array Value} {below : List Frame} {meth : Method} {c : Code} {dC : Nat → ClassId} {dI : Nat → Nat → Nat} {kA : Nat → ClassId} {ad : Nat → Nat} (C : jxc cX3_sendAlong none 6 RX3 p s m args meth c dC dI kA) (hap : jw_ap 57 ad) {res : RS} : G_cX3_sendAlong p l e s m args below meth c dC dI kA ad res (s_cX3_sendAlong) := by
  obtain ⟨hx, hb, hml, hown, hts, hr, hlocks, hK, hN⟩ := id C
  intro σ x1 x2 hf H locs ls hP hS hl
  unfold s_cX3_sendAlong at hf
  refine lv_aload_n hx hb dX3_sendAlong_0 rfl (lv_at hl 0 rfl) ?_
  refine c_gX3_actor hx hb hts hown hK hP (hts _ kw_376) dX3_sendAlong_1 ?_
  refine lv_iconst (v := 0) hx hb dX3_sendAlong_4 (by decide) ?_
  refine lv_iload_n hx hb dX3_sendAlong_5 rfl (lv_at hl 1 rfl) ?_
  refine lv_iload_n hx hb dX3_sendAlong_6 rfl (lv_at hl 2 rfl) ?_
  refine lv_lconst (v := 1) hx hb dX3_sendAlong_7 (by decide) ?_
  refine jk_l hf (fun res hres => jv_run hx hb hml hown hts hK hN c_hG c_hNW hl.1 (n := 4) (As := [.int 0, .int x1, .int x2, .long 1]) (rest := []) (c_cX0_comesTo l hap σ 0 x1 x2 1 res hres) hP (ci := 0) (q0 := 23) rfl rfl rfl kw_555 kw_552 kw_553 kw_554 kw_61 ⟨rfl, rfl⟩ (by decide +kernel) rfl ⟨Nat.le_of_ble_eq_true rfl, Nat.le_of_ble_eq_true rfl⟩ rfl (Nat.le_of_ble_eq_true rfl) dX3_sendAlong_8) hS (fun v1 σ2 H locs hP hS hf => ?_)
  refine lv_lconst (v := 0) hx hb dX3_sendAlong_11 (by decide) ?_
  refine jl_ne (tgt := 17) hx hb hf dX3_sendAlong_12 dX3_sendAlong_13 (by decide) (fun hf => ?_) (fun hf => ?_)
  · refine lv_aload_n hx hb dX3_sendAlong_17 rfl (lv_at hl 0 rfl) ?_
    refine c_gX3_actor hx hb hts hown hK hP (hts _ kw_376) dX3_sendAlong_18 ?_
    refine lv_iconst (v := 1) hx hb dX3_sendAlong_21 (by decide) ?_
    refine lv_iload_n hx hb dX3_sendAlong_22 rfl (lv_at hl 1 rfl) ?_
    refine lv_iload_n hx hb dX3_sendAlong_23 rfl (lv_at hl 2 rfl) ?_
    refine lv_lconst (v := 1) hx hb dX3_sendAlong_24 (by decide) ?_
    refine jk_l hf (fun res hres => jv_run hx hb hml hown hts hK hN c_hG c_hNW hl.1 (n := 4) (As := [.int 1, .int x1, .int x2, .long 1]) (rest := []) (c_cX0_comesTo l hap σ2 1 x1 x2 1 res hres) hP (ci := 0) (q0 := 23) rfl rfl rfl kw_555 kw_552 kw_553 kw_554 kw_61 ⟨rfl, rfl⟩ (by decide +kernel) rfl ⟨Nat.le_of_ble_eq_true rfl, Nat.le_of_ble_eq_true rfl⟩ rfl (Nat.le_of_ble_eq_true rfl) dX3_sendAlong_25) hS (fun v3 σ4 H locs hP hS hf => ?_)
    refine lv_lstore_n (lv' := [(3, .long v3), (0, .ref (ad 31)), (1, .int x1), (2, .int x2)]) hx hb dX3_sendAlong_28 rfl hl (by decide) rfl (fun ls hl => ?_)
    refine lv_aload_n hx hb dX3_sendAlong_29 rfl (lv_at hl 1 rfl) ?_
    refine c_gX3_failure hx hb hts hown hK hP (hts _ kw_377) dX3_sendAlong_30 ?_
    refine jk_i hf (fun res hres => jv_run hx hb hml hown hts hK hN c_hG c_hNW hl.1 (n := 0) (As := []) (rest := []) (c_cX2_is l hap σ4 res hres) hP (ci := 2) (q0 := 16) rfl rfl rfl kw_584 kw_581 kw_582 kw_583 kw_56 ⟨rfl, rfl⟩ (by decide +kernel) rfl ⟨Nat.le_of_ble_eq_true rfl, Nat.le_of_ble_eq_true rfl⟩ rfl (Nat.le_of_ble_eq_true rfl) dX3_sendAlong_33) hS (fun v5 σ6 H locs hP hS hf => ?_)
    refine jb_eq (tgt := 40) hx hb hf dX3_sendAlong_36 (by decide) (fun hf => ?_) (fun hf => ?_)
    · refine lv_aload_n hx hb dX3_sendAlong_40 rfl (lv_at hl 1 rfl) ?_
      refine c_gX3_size hx hb hts hown hK hP (hts _ kw_385) dX3_sendAlong_41 ?_
      refine lv_bipush (v := 60) hx hb dX3_sendAlong_44 (by decide) ?_
      refine jc_lt (tgt := 70) hx hb hf dX3_sendAlong_46 (by decide) (fun hf => ?_) (fun hf => ?_)
      · refine lv_aload_n hx hb dX3_sendAlong_70 rfl (lv_at hl 1 rfl) ?_
        refine c_gX3_first hx hb hts hown hK hP (hts _ kw_384) dX3_sendAlong_71 ?_
        refine lv_aload_n hx hb dX3_sendAlong_74 rfl (lv_at hl 1 rfl) ?_
        refine c_gX3_size hx hb hts hown hK hP (hts _ kw_385) dX3_sendAlong_75 ?_
        refine lv_iadd hx hb dX3_sendAlong_78 ?_
        refine lv_bipush (v := 60) hx hb dX3_sendAlong_79 (by decide) ?_
        refine lv_irem hx hb dX3_sendAlong_81 (by decide) ?_
        refine jn_i hf (fun v7 hf => ?_)
        refine lv_istore (lv' := [(5, .int v7), (3, .long v3), (0, .ref (ad 31)), (1, .int x1), (2, .int x2)]) hx hb dX3_sendAlong_82 hl (by decide) rfl (fun ls hl => ?_)
        refine lv_aload_n hx hb dX3_sendAlong_84 rfl (lv_at hl 2 rfl) ?_
        refine c_gX3_arcs hx hb hts hown hK hP (hts _ kw_380) dX3_sendAlong_85 ?_
        refine lv_iload hx hb dX3_sendAlong_88 (lv_at hl 0 rfl) ?_
        refine lv_iload_n hx hb dX3_sendAlong_90 rfl (lv_at hl 4 rfl) ?_
        refine ja_ist hx hb hK (c_D hap σ6) hP hS 32 0 rfl rfl c_sA14 hf dX3_sendAlong_91 (fun σ8 H locs hP hS hf => ?_)
        refine lv_aload_n hx hb dX3_sendAlong_92 rfl (lv_at hl 2 rfl) ?_
        refine c_gX3_values hx hb hts hown hK hP (hts _ kw_381) dX3_sendAlong_93 ?_
        refine lv_iload hx hb dX3_sendAlong_96 (lv_at hl 0 rfl) ?_
        refine lv_lload_n hx hb dX3_sendAlong_98 rfl (lv_at hl 1 rfl) ?_
        refine ja_lst hx hb hK (c_D hap σ8) hP hS 33 1 rfl rfl c_sB6 hf dX3_sendAlong_99 (fun σ9 H locs hP hS hf => ?_)
        refine lv_aload_n hx hb dX3_sendAlong_100 rfl (lv_at hl 2 rfl) ?_
        refine lv_dup hx hb dX3_sendAlong_101 rfl ?_
        refine c_gX3_size hx hb hts hown hK hP (hts _ kw_385) dX3_sendAlong_102 ?_
        refine lv_iconst (v := 1) hx hb dX3_sendAlong_105 (by decide) ?_
        refine lv_iadd hx hb dX3_sendAlong_106 ?_
        refine c_pX3_size hx hb hts hown hK hap hP hS hf (hts _ kw_385) dX3_sendAlong_107 (fun σ10 H locs hP hS hf => ?_)
        exact jr_u hx hb hr hlocks hf hP hS dX3_sendAlong_110
      · refine lv_aload_n hx hb dX3_sendAlong_49 rfl (lv_at hl 1 rfl) ?_
        refine c_gX3_failure hx hb hts hown hK hP (hts _ kw_377) dX3_sendAlong_50 ?_
        refine lv_iconst (v := 5) hx hb dX3_sendAlong_53 (by decide) ?_
        refine lv_iconst (v := 1) hx hb dX3_sendAlong_54 (by decide) ?_
        refine lv_iload_n hx hb dX3_sendAlong_55 rfl (lv_at hl 2 rfl) ?_
        refine lv_iload_n hx hb dX3_sendAlong_56 rfl (lv_at hl 3 rfl) ?_
        refine lv_aload_n hx hb dX3_sendAlong_57 rfl (lv_at hl 1 rfl) ?_
        refine c_gX3_web hx hb hts hown hK hP (hts _ kw_375) dX3_sendAlong_58 ?_
        refine c_gX10_rounds hx hb hts hown hK hP (hts _ kw_146) dX3_sendAlong_61 ?_
        refine lv_iconst (v := 1) hx hb dX3_sendAlong_64 (by decide) ?_
        refine lv_iadd hx hb dX3_sendAlong_65 ?_
        refine jk_u hf (fun res hres => jv_run hx hb hml hown hts hK hN c_hG c_hNW hl.1 (n := 5) (As := [.int 5, .int 1, .int x1, .int x2, .int ((rg_I σ6 4) + 1)]) (rest := []) (c_cX2_keep l hap σ6 5 1 x1 x2 ((rg_I σ6 4) + 1) res hres) hP (ci := 2) (q0 := 16) rfl rfl rfl kw_580 kw_585 kw_578 kw_579 kw_56 ⟨rfl, rfl⟩ (by decide +kernel) rfl ⟨Nat.le_of_ble_eq_true rfl, Nat.le_of_ble_eq_true rfl⟩ rfl (Nat.le_of_ble_eq_true rfl) dX3_sendAlong_66) hS (fun σ12 H locs hP hS hf => ?_)
        exact jr_u hx hb hr hlocks hf hP hS dX3_sendAlong_69
    · exact jr_u hx hb hr hlocks hf hP hS dX3_sendAlong_39
  · exact jr_u hx hb hr hlocks hf hP hS dX3_sendAlong_16
theorem c_cX3_sendAlong (l : Launch) {dC : Nat → ClassId} {dI : Nat → Nat → Nat} {kA : Nat → ClassId} {ad : Nat → Nat} (hap : jw_ap 57 ad) (σ : RS) (x1 : Int32) (x2 : Int32) (res : RS) (hf : s_cX3_sendAlong σ x1 x2 = some res) : jm_u l KW NW (dC, dI) vwCl (jtys kA) (jw_A 57 ad) (c_w kA ad) yX3_sendAlong cX3_sendAlong 6 (rm_cX3_sendAlong) [.ref (ad 31), .int x1, .int x2] σ res := jm_u_of (by decide) (Nat.le_of_ble_eq_true rfl) (fun p e s m below meth c C hP hS ls hl => p_cX3_sendAlong C hap σ x1 x2 hf s.heap [] ls hP hS hl)

def rm_cX3_takeStates : Room := { frames := 44, cells := 0, slots := 0, locals := 1271 }
def G_cX3_takeStates_b48 (p : Program) (l : Launch) (e : Env) (s : State) (m : MethodId) (args : Array Value) (below : List Frame) (meth : Method) (c : Code) (dC : Nat → ClassId) (dI : Nat → Nat → Nat) (kA : Nat → ClassId) (ad : Nat → Nat) (res : RS) (F : RS → Int32 → Option (RS)) : Prop := ∀ (σ : RS) (x1 : Int32), F σ x1 = some res → ∀ (H : Heap) (locs : List Loc) (ls : Array Slot), va_P (dC, dI) vwCl (c_w kA ad σ) H → va_S (jw_A 57 ad) s.heap H locs → lv_has ls 3 [(0, .ref (ad 31)), (1, .int x1)] → W p l e rm_cX3_takeStates s m args below meth c H locs 0 0 (c_Qu below dC dI kA ad args s res) (F0 m 48 ls [])
def G_cX3_takeStates_b2 (p : Program) (l : Launch) (e : Env) (s : State) (m : MethodId) (args : Array Value) (below : List Frame) (meth : Method) (c : Code) (dC : Nat → ClassId) (dI : Nat → Nat → Nat) (kA : Nat → ClassId) (ad : Nat → Nat) (res : RS) (F : RS → Int32 → Int32 → Option (RS)) : Prop := ∀ (σ : RS) (x1 : Int32) (x2 : Int32), F σ x1 x2 = some res → ∀ (H : Heap) (locs : List Loc) (ls : Array Slot), va_P (dC, dI) vwCl (c_w kA ad σ) H → va_S (jw_A 57 ad) s.heap H locs → lv_has ls 3 [(0, .ref (ad 31)), (1, .int x1), (2, .int x2)] → W p l e rm_cX3_takeStates s m args below meth c H locs 0 0 (c_Qu below dC dI kA ad args s res) (F0 m 2 ls [])
def G_cX3_takeStates (p : Program) (l : Launch) (e : Env) (s : State) (m : MethodId) (args : Array Value) (below : List Frame) (meth : Method) (c : Code) (dC : Nat → ClassId) (dI : Nat → Nat → Nat) (kA : Nat → ClassId) (ad : Nat → Nat) (res : RS) (F : RS → Int32 → Option (RS)) : Prop := ∀ (σ : RS) (x1 : Int32), F σ x1 = some res → ∀ (H : Heap) (locs : List Loc) (ls : Array Slot), va_P (dC, dI) vwCl (c_w kA ad σ) H → va_S (jw_A 57 ad) s.heap H locs → lv_has ls 3 [(0, .ref (ad 31)), (1, .int x1)] → W p l e rm_cX3_takeStates s m args below meth c H locs 0 0 (c_Qu below dC dI kA ad args s res) (F0 m 0 ls [])
def s_cX3_takeStates_b48 (σ : RS) (x1 : Int32) : Option (RS) := kn_cp 3 36 (0 : Int32) (x1 * 3) (3 : Int32) (rs_B σ 1 (va_cpy (rg_B σ 7) (rg_B σ 1) (0 : Int32).toNatClampNeg (x1 * 3).toNatClampNeg (3 : Int32).toNatClampNeg)) (fun σ1 => some σ1)
set_option maxRecDepth 100000 in
set_option maxHeartbeats 4000000 in
theorem p_cX3_takeStates_b48 {p : Program} {l : Launch} {e : Env} {s : State} {m : MethodId} {args : Array Value} {below : List Frame} {meth : Method} {c : Code} {dC : Nat → ClassId} {dI : Nat → Nat → Nat} {kA : Nat → ClassId} {ad : Nat → Nat} (C : jxc cX3_takeStates none 3 RX3 p s m args meth c dC dI kA) (hap : jw_ap 57 ad) {res : RS} : G_cX3_takeStates_b48 p l e s m args below meth c dC dI kA ad res (s_cX3_takeStates_b48) := by
  obtain ⟨hx, hb, hml, hown, hts, hr, hlocks, hK, hN⟩ := id C
  intro σ x1 hf H locs ls hP hS hl
  unfold s_cX3_takeStates_b48 at hf
  refine lv_aload_n hx hb dX3_takeStates_48 rfl (lv_at hl 0 rfl) ?_
  refine c_gX3_newStates hx hb hts hown hK hP (hts _ kw_382) dX3_takeStates_49 ?_
  refine lv_iconst (v := 0) hx hb dX3_takeStates_52 (by decide) ?_
  refine lv_aload_n hx hb dX3_takeStates_53 rfl (lv_at hl 0 rfl) ?_
  refine c_gX3_web hx hb hts hown hK hP (hts _ kw_375) dX3_takeStates_54 ?_
  refine c_gX10_states hx hb hts hown hK hP (hts _ kw_118) dX3_takeStates_57 ?_
  refine lv_iload_n hx hb dX3_takeStates_60 rfl (lv_at hl 1 rfl) ?_
  refine lv_iconst (v := 3) hx hb dX3_takeStates_61 (by decide) ?_
  refine lv_imul hx hb dX3_takeStates_62 ?_
  refine lv_iconst (v := 3) hx hb dX3_takeStates_63 (by decide) ?_
  refine ja_cpl hx hb (hml.trans hl.1.symm) hown (hts _ kw_590) (hts _ kw_531) (hts _ kw_530) (hts _ kw_65) hK (c_D hap σ) hP hS 34 8 1 rfl rfl rfl c_sB1 hf (Nat.le_of_ble_eq_true rfl) (Nat.le_of_ble_eq_true rfl) dX3_takeStates_64 (fun σ1 H locs hP hS hf => ?_)
  exact jr_u hx hb hr hlocks hf hP hS dX3_takeStates_67
def s_cX3_takeStates_b2 (k2 : RS → Int32 → Int32 → Option (RS)) (σ : RS) (x1 : Int32) (x2 : Int32) : Option (RS) := if 3 ≤ x2 then (s_cX3_takeStates_b48 σ x1) else (kn_ld (rg_B σ 8) 3 x2 (fun v1 => kn_l (s_cX0_comesTo σ (2 + x2) x1 (-1) v1) (fun v2 σ3 => kn_st (rs_B σ3 7 (vp_updL (rg_B σ3 7) x2.toNatClampNeg v2)) 3 x2 (fun σ4 => kn_i (s_cX2_is σ4) (fun v5 σ6 => if v5 = 0 then (kn_v (x2 + 1) (fun v7 => k2 σ6 x1 v7)) else some σ6)))))
set_option maxRecDepth 100000 in
set_option maxHeartbeats 4000000 in
theorem p_cX3_takeStates_b2 {p : Program} {l : Launch} {e : Env} {s : State} {m : MethodId} {args : Array Value} {below : List Frame} {meth : Method} {c : Code} {dC : Nat → ClassId} {dI : Nat → Nat → Nat} {kA : Nat → ClassId} {ad : Nat → Nat} (C : jxc cX3_takeStates none 3 RX3 p s m args meth c dC dI kA) (hap : jw_ap 57 ad) {res : RS} {k2 : RS → Int32 → Int32 → Option (RS)} (hk2 : G_cX3_takeStates_b2 p l e s m args below meth c dC dI kA ad res k2) : G_cX3_takeStates_b2 p l e s m args below meth c dC dI kA ad res (s_cX3_takeStates_b2 k2) := by
  obtain ⟨hx, hb, hml, hown, hts, hr, hlocks, hK, hN⟩ := id C
  intro σ x1 x2 hf H locs ls hP hS hl
  unfold s_cX3_takeStates_b2 at hf
  refine lv_iload_n hx hb dX3_takeStates_2 rfl (lv_at hl 2 rfl) ?_
  refine lv_iconst (v := 3) hx hb dX3_takeStates_3 (by decide) ?_
  refine jc_ge (tgt := 48) hx hb hf dX3_takeStates_4 (by decide) (fun hf => ?_) (fun hf => ?_)
  · exact (p_cX3_takeStates_b48 C hap) σ x1 hf H locs ls hP hS (lv_sub hl [0, 1] rfl)
  · refine lv_aload_n hx hb dX3_takeStates_7 rfl (lv_at hl 0 rfl) ?_
    refine c_gX3_newStates hx hb hts hown hK hP (hts _ kw_382) dX3_takeStates_8 ?_
    refine lv_iload_n hx hb dX3_takeStates_11 rfl (lv_at hl 2 rfl) ?_
    refine lv_aload_n hx hb dX3_takeStates_12 rfl (lv_at hl 0 rfl) ?_
    refine c_gX3_actor hx hb hts hown hK hP (hts _ kw_376) dX3_takeStates_13 ?_
    refine lv_iconst (v := 2) hx hb dX3_takeStates_16 (by decide) ?_
    refine lv_iload_n hx hb dX3_takeStates_17 rfl (lv_at hl 2 rfl) ?_
    refine lv_iadd hx hb dX3_takeStates_18 ?_
    refine lv_iload_n hx hb dX3_takeStates_19 rfl (lv_at hl 1 rfl) ?_
    refine lv_iconst (v := (-1)) hx hb dX3_takeStates_20 (by decide) ?_
    refine lv_aload_n hx hb dX3_takeStates_21 rfl (lv_at hl 0 rfl) ?_
    refine c_gX3_oldStates hx hb hts hown hK hP (hts _ kw_383) dX3_takeStates_22 ?_
    refine lv_iload_n hx hb dX3_takeStates_25 rfl (lv_at hl 2 rfl) ?_
    refine ja_lld hx hb hK hP 35 1 rfl rfl hf dX3_takeStates_26 (fun v1 hf => ?_)
    refine jk_l hf (fun res hres => jv_run hx hb hml hown hts hK hN c_hG c_hNW hl.1 (n := 4) (As := [.int (2 + x2), .int x1, .int (-1), .long v1]) (rest := [.int x2, .ref (ad 34)]) (c_cX0_comesTo l hap σ (2 + x2) x1 (-1) v1 res hres) hP (ci := 0) (q0 := 23) rfl rfl rfl kw_555 kw_552 kw_553 kw_554 kw_61 ⟨rfl, rfl⟩ (by decide +kernel) rfl ⟨Nat.le_of_ble_eq_true rfl, Nat.le_of_ble_eq_true rfl⟩ rfl (Nat.le_of_ble_eq_true rfl) dX3_takeStates_27) hS (fun v2 σ3 H locs hP hS hf => ?_)
    refine ja_lst hx hb hK (c_D hap σ3) hP hS 34 1 rfl rfl c_sB7 hf dX3_takeStates_30 (fun σ4 H locs hP hS hf => ?_)
    refine lv_aload_n hx hb dX3_takeStates_31 rfl (lv_at hl 0 rfl) ?_
    refine c_gX3_failure hx hb hts hown hK hP (hts _ kw_377) dX3_takeStates_32 ?_
    refine jk_i hf (fun res hres => jv_run hx hb hml hown hts hK hN c_hG c_hNW hl.1 (n := 0) (As := []) (rest := []) (c_cX2_is l hap σ4 res hres) hP (ci := 2) (q0 := 16) rfl rfl rfl kw_584 kw_581 kw_582 kw_583 kw_56 ⟨rfl, rfl⟩ (by decide +kernel) rfl ⟨Nat.le_of_ble_eq_true rfl, Nat.le_of_ble_eq_true rfl⟩ rfl (Nat.le_of_ble_eq_true rfl) dX3_takeStates_35) hS (fun v5 σ6 H locs hP hS hf => ?_)
    refine jb_eq (tgt := 42) hx hb hf dX3_takeStates_38 (by decide) (fun hf => ?_) (fun hf => ?_)
    · obtain ⟨v7, e_v7, hf⟩ := kn_v_e hf
      refine lv_iinc (v := v7) (lv' := [(2, .int v7), (0, .ref (ad 31)), (1, .int x1)]) hx hb dX3_takeStates_42 hl (k := 2) rfl e_v7 (by decide) rfl (fun ls hl => ?_)
      refine lv_goto (tgt := 2) hx hb dX3_takeStates_45 (by decide) ?_
      exact hk2 σ6 x1 v7 hf H locs ls hP hS (lv_sub hl [1, 2, 0] rfl)
    · exact jr_u hx hb hr hlocks hf hP hS dX3_takeStates_41
def f_cX3_takeStates_b2 : RS → Int32 → Int32 → Option (RS) := kn_fix (fun _ _ _ => none) (s_cX3_takeStates_b2) FU
theorem q_cX3_takeStates_b2 {p : Program} {l : Launch} {e : Env} {s : State} {m : MethodId} {args : Array Value} {below : List Frame} {meth : Method} {c : Code} {dC : Nat → ClassId} {dI : Nat → Nat → Nat} {kA : Nat → ClassId} {ad : Nat → Nat} (C : jxc cX3_takeStates none 3 RX3 p s m args meth c dC dI kA) (hap : jw_ap 57 ad) {res : RS} : G_cX3_takeStates_b2 p l e s m args below meth c dC dI kA ad res (f_cX3_takeStates_b2) := kn_fix_ind (G := fun F => G_cX3_takeStates_b2 p l e s m args below meth c dC dI kA ad res F) (fun _ _ _ hf => by cases hf) (fun k2 hk2 => p_cX3_takeStates_b2 C hap hk2) FU
def s_cX3_takeStates (σ : RS) (x1 : Int32) : Option (RS) := f_cX3_takeStates_b2 σ x1 0
set_option maxRecDepth 100000 in
set_option maxHeartbeats 4000000 in
theorem p_cX3_takeStates {p : Program} {l : Launch} {e : Env} {s : State} {m : MethodId} {args : Array Value} {below : List Frame} {meth : Method} {c : Code} {dC : Nat → ClassId} {dI : Nat → Nat → Nat} {kA : Nat → ClassId} {ad : Nat → Nat} (C : jxc cX3_takeStates none 3 RX3 p s m args meth c dC dI kA) (hap : jw_ap 57 ad) {res : RS} : G_cX3_takeStates p l e s m args below meth c dC dI kA ad res (s_cX3_takeStates) := by
  obtain ⟨hx, hb, hml, hown, hts, hr, hlocks, hK, hN⟩ := id C
  intro σ x1 hf H locs ls hP hS hl
  unfold s_cX3_takeStates at hf
  refine lv_iconst (v := 0) hx hb dX3_takeStates_0 (by decide) ?_
  refine lv_istore_n (lv' := [(2, .int 0), (0, .ref (ad 31)), (1, .int x1)]) hx hb dX3_takeStates_1 rfl hl (by decide) rfl (fun ls hl => ?_)
  exact (q_cX3_takeStates_b2 C hap) σ x1 0 hf H locs ls hP hS (lv_sub hl [1, 2, 0] rfl)
theorem c_cX3_takeStates (l : Launch) {dC : Nat → ClassId} {dI : Nat → Nat → Nat} {kA : Nat → ClassId} {ad : Nat → Nat} (hap : jw_ap 57 ad) (σ : RS) (x1 : Int32) (res : RS) (hf : s_cX3_takeStates σ x1 = some res) : jm_u l KW NW (dC, dI) vwCl (jtys kA) (jw_A 57 ad) (c_w kA ad) yX3_takeStates cX3_takeStates 3 (rm_cX3_takeStates) [.ref (ad 31), .int x1] σ res := jm_u_of (by decide) (Nat.le_of_ble_eq_true rfl) (fun p e s m below meth c C hP hS ls hl => p_cX3_takeStates C hap σ x1 hf s.heap [] ls hP hS hl)

def rm_cX7_sendAlong : Room := { frames := 44, cells := 0, slots := 0, locals := 1271 }
def G_cX7_sendAlong (p : Program) (l : Launch) (e : Env) (s : State) (m : MethodId) (args : Array Value) (below : List Frame) (meth : Method) (c : Code) (dC : Nat → ClassId) (dI : Nat → Nat → Nat) (kA : Nat → ClassId) (ad : Nat → Nat) (res : RS) (F : RS → Int32 → Option (RS)) : Prop := ∀ (σ : RS) (x1 : Int32), F σ x1 = some res → ∀ (H : Heap) (locs : List Loc) (ls : Array Slot), va_P (dC, dI) vwCl (c_w kA ad σ) H → va_S (jw_A 57 ad) s.heap H locs → lv_has ls 3 [(0, .ref (ad 24)), (1, .int x1)] → W p l e rm_cX7_sendAlong s m args below meth c H locs 0 0 (c_Qu below dC dI kA ad args s res) (F0 m 0 ls [])
def s_cX7_sendAlong (σ : RS) (x1 : Int32) : Option (RS) := kn_ld (rg_A σ 6) 40 x1 (fun v1 => if 40 ≤ (rg_I σ 18) then some σ else (kn_l (s_cX0_comesTo σ 0 v1 x1 1) (fun v2 σ3 => if v2 = 0 then some σ3 else (kn_l (s_cX0_comesTo σ3 1 v1 x1 1) (fun v4 σ5 => kn_st (rs_B σ5 4 (vp_updL (rg_B σ5 4) x1.toNatClampNeg v4)) 40 x1 (fun σ6 => kn_st (rs_A σ6 11 (upd (rg_A σ6 11) x1.toNatClampNeg 1)) 40 x1 (fun σ7 => kn_st (rs_A σ7 10 (upd (rg_A σ7 10) (rg_I σ7 18).toNatClampNeg x1)) 40 (rg_I σ7 18) (fun σ8 => kn_v (rs_I σ8 18 ((rg_I σ8 18) + 1)) (fun σ9 => some σ9)))))))))
set_option maxRecDepth 100000 in
set_option maxHeartbeats 4000000 in
theorem p_cX7_sendAlong {p : Program} {l : Launch} {e : Env} {s : State} {m : MethodId} {args : Array Value} {below : List Frame} {meth : Method} {c : Code} {dC : Nat → ClassId} {dI : Nat → Nat → Nat} {kA : Nat → ClassId} {ad : Nat → Nat} (C : jxc cX7_sendAlong none 3 RX7 p s m args meth c dC dI kA) (hap : jw_ap 57 ad) {res : RS} : G_cX7_sendAlong p l e s m args below meth c dC dI kA ad res (s_cX7_sendAlong) := by
  obtain ⟨hx, hb, hml, hown, hts, hr, hlocks, hK, hN⟩ := id C
  intro σ x1 hf H locs ls hP hS hl
  unfold s_cX7_sendAlong at hf
  refine lv_aload_n hx hb dX7_sendAlong_0 rfl (lv_at hl 0 rfl) ?_
  refine c_gX7_web hx hb hts hown hK hP (hts _ kw_332) dX7_sendAlong_1 ?_
  refine c_gX10_from hx hb hts hown hK hP (hts _ kw_129) dX7_sendAlong_4 ?_
  refine lv_iload_n hx hb dX7_sendAlong_7 rfl (lv_at hl 1 rfl) ?_
  refine ja_ild hx hb hK hP 11 0 rfl rfl hf dX7_sendAlong_8 (fun v1 hf => ?_)
  refine lv_istore_n (lv' := [(2, .int v1), (0, .ref (ad 24)), (1, .int x1)]) hx hb dX7_sendAlong_9 rfl hl (by decide) rfl (fun ls hl => ?_)
  refine lv_aload_n hx hb dX7_sendAlong_10 rfl (lv_at hl 1 rfl) ?_
  refine c_gX7_sent hx hb hts hown hK hP (hts _ kw_343) dX7_sendAlong_11 ?_
  refine lv_bipush (v := 40) hx hb dX7_sendAlong_14 (by decide) ?_
  refine jc_ge (tgt := 35) hx hb hf dX7_sendAlong_16 (by decide) (fun hf => ?_) (fun hf => ?_)
  · exact jr_u hx hb hr hlocks hf hP hS dX7_sendAlong_35
  · refine lv_aload_n hx hb dX7_sendAlong_19 rfl (lv_at hl 1 rfl) ?_
    refine c_gX7_actor hx hb hts hown hK hP (hts _ kw_333) dX7_sendAlong_20 ?_
    refine lv_iconst (v := 0) hx hb dX7_sendAlong_23 (by decide) ?_
    refine lv_iload_n hx hb dX7_sendAlong_24 rfl (lv_at hl 0 rfl) ?_
    refine lv_iload_n hx hb dX7_sendAlong_25 rfl (lv_at hl 2 rfl) ?_
    refine lv_lconst (v := 1) hx hb dX7_sendAlong_26 (by decide) ?_
    refine jk_l hf (fun res hres => jv_run hx hb hml hown hts hK hN c_hG c_hNW hl.1 (n := 4) (As := [.int 0, .int v1, .int x1, .long 1]) (rest := []) (c_cX0_comesTo l hap σ 0 v1 x1 1 res hres) hP (ci := 0) (q0 := 23) rfl rfl rfl kw_555 kw_634 kw_553 kw_554 kw_61 ⟨rfl, rfl⟩ (by decide +kernel) rfl ⟨Nat.le_of_ble_eq_true rfl, Nat.le_of_ble_eq_true rfl⟩ rfl (Nat.le_of_ble_eq_true rfl) dX7_sendAlong_27) hS (fun v2 σ3 H locs hP hS hf => ?_)
    refine lv_lconst (v := 0) hx hb dX7_sendAlong_30 (by decide) ?_
    refine jl_ne (tgt := 36) hx hb hf dX7_sendAlong_31 dX7_sendAlong_32 (by decide) (fun hf => ?_) (fun hf => ?_)
    · refine lv_aload_n hx hb dX7_sendAlong_36 rfl (lv_at hl 1 rfl) ?_
      refine c_gX7_carried hx hb hts hown hK hP (hts _ kw_339) dX7_sendAlong_37 ?_
      refine lv_iload_n hx hb dX7_sendAlong_40 rfl (lv_at hl 2 rfl) ?_
      refine lv_aload_n hx hb dX7_sendAlong_41 rfl (lv_at hl 1 rfl) ?_
      refine c_gX7_actor hx hb hts hown hK hP (hts _ kw_333) dX7_sendAlong_42 ?_
      refine lv_iconst (v := 1) hx hb dX7_sendAlong_45 (by decide) ?_
      refine lv_iload_n hx hb dX7_sendAlong_46 rfl (lv_at hl 0 rfl) ?_
      refine lv_iload_n hx hb dX7_sendAlong_47 rfl (lv_at hl 2 rfl) ?_
      refine lv_lconst (v := 1) hx hb dX7_sendAlong_48 (by decide) ?_
      refine jk_l hf (fun res hres => jv_run hx hb hml hown hts hK hN c_hG c_hNW hl.1 (n := 4) (As := [.int 1, .int v1, .int x1, .long 1]) (rest := [.int x1, .ref (ad 27)]) (c_cX0_comesTo l hap σ3 1 v1 x1 1 res hres) hP (ci := 0) (q0 := 23) rfl rfl rfl kw_555 kw_634 kw_553 kw_554 kw_61 ⟨rfl, rfl⟩ (by decide +kernel) rfl ⟨Nat.le_of_ble_eq_true rfl, Nat.le_of_ble_eq_true rfl⟩ rfl (Nat.le_of_ble_eq_true rfl) dX7_sendAlong_49) hS (fun v4 σ5 H locs hP hS hf => ?_)
      refine ja_lst hx hb hK (c_D hap σ5) hP hS 27 1 rfl rfl c_sB4 hf dX7_sendAlong_52 (fun σ6 H locs hP hS hf => ?_)
      refine lv_aload_n hx hb dX7_sendAlong_53 rfl (lv_at hl 1 rfl) ?_
      refine c_gX7_carries hx hb hts hown hK hP (hts _ kw_338) dX7_sendAlong_54 ?_
      refine lv_iload_n hx hb dX7_sendAlong_57 rfl (lv_at hl 2 rfl) ?_
      refine lv_iconst (v := 1) hx hb dX7_sendAlong_58 (by decide) ?_
      refine ja_zst hx hb hK (c_D hap σ6) hP hS 26 2 rfl rfl (by decide) c_sA11 hf dX7_sendAlong_59 (fun σ7 H locs hP hS hf => ?_)
      refine lv_aload_n hx hb dX7_sendAlong_60 rfl (lv_at hl 1 rfl) ?_
      refine c_gX7_sentArcs hx hb hts hown hK hP (hts _ kw_337) dX7_sendAlong_61 ?_
      refine lv_aload_n hx hb dX7_sendAlong_64 rfl (lv_at hl 1 rfl) ?_
      refine c_gX7_sent hx hb hts hown hK hP (hts _ kw_343) dX7_sendAlong_65 ?_
      refine lv_iload_n hx hb dX7_sendAlong_68 rfl (lv_at hl 2 rfl) ?_
      refine ja_ist hx hb hK (c_D hap σ7) hP hS 25 0 rfl rfl c_sA10 hf dX7_sendAlong_69 (fun σ8 H locs hP hS hf => ?_)
      refine lv_aload_n hx hb dX7_sendAlong_70 rfl (lv_at hl 1 rfl) ?_
      refine lv_dup hx hb dX7_sendAlong_71 rfl ?_
      refine c_gX7_sent hx hb hts hown hK hP (hts _ kw_343) dX7_sendAlong_72 ?_
      refine lv_iconst (v := 1) hx hb dX7_sendAlong_75 (by decide) ?_
      refine lv_iadd hx hb dX7_sendAlong_76 ?_
      refine c_pX7_sent hx hb hts hown hK hap hP hS hf (hts _ kw_343) dX7_sendAlong_77 (fun σ9 H locs hP hS hf => ?_)
      exact jr_u hx hb hr hlocks hf hP hS dX7_sendAlong_80
    · exact jr_u hx hb hr hlocks hf hP hS dX7_sendAlong_35
theorem c_cX7_sendAlong (l : Launch) {dC : Nat → ClassId} {dI : Nat → Nat → Nat} {kA : Nat → ClassId} {ad : Nat → Nat} (hap : jw_ap 57 ad) (σ : RS) (x1 : Int32) (res : RS) (hf : s_cX7_sendAlong σ x1 = some res) : jm_u l KW NW (dC, dI) vwCl (jtys kA) (jw_A 57 ad) (c_w kA ad) yX7_sendAlong cX7_sendAlong 3 (rm_cX7_sendAlong) [.ref (ad 24), .int x1] σ res := jm_u_of (by decide) (Nat.le_of_ble_eq_true rfl) (fun p e s m below meth c C hP hS ls hl => p_cX7_sendAlong C hap σ x1 hf s.heap [] ls hP hS hl)
end
section
theorem dX7_askNode_0 : decode cX7_askNode 0 = .ok (.aload_n 0, 1) := by decide +kernel
theorem dX7_askNode_1 : decode cX7_askNode 1 = .ok (.getfield 39, 3) := by decide +kernel
theorem dX7_askNode_4 : decode cX7_askNode 4 = .ok (.getfield 107, 3) := by decide +kernel
theorem dX7_askNode_7 : decode cX7_askNode 7 = .ok (.aload_n 0, 1) := by decide +kernel
theorem dX7_askNode_8 : decode cX7_askNode 8 = .ok (.iload_n 1, 1) := by decide +kernel
theorem dX7_askNode_9 : decode cX7_askNode 9 = .ok (.invokevirtual 148, 3) := by decide +kernel
theorem dX7_askNode_12 : decode cX7_askNode 12 = .ok (.iload_n 2, 1) := by decide +kernel
theorem dX7_askNode_13 : decode cX7_askNode 13 = .ok (.invokevirtual 152, 3) := by decide +kernel
theorem dX7_askNode_16 : decode cX7_askNode 16 = .ok (.iload_n 1, 1) := by decide +kernel
theorem dX7_askNode_17 : decode cX7_askNode 17 = .ok (.iconst 3, 1) := by decide +kernel
theorem dX7_askNode_18 : decode cX7_askNode 18 = .ok (.imul, 1) := by decide +kernel
theorem dX7_askNode_19 : decode cX7_askNode 19 = .ok (.istore_n 3, 1) := by decide +kernel
theorem dX7_askNode_20 : decode cX7_askNode 20 = .ok (.iload_n 3, 1) := by decide +kernel
theorem dX7_askNode_21 : decode cX7_askNode 21 = .ok (.iload_n 1, 1) := by decide +kernel
theorem dX7_askNode_22 : decode cX7_askNode 22 = .ok (.iconst 3, 1) := by decide +kernel
theorem dX7_askNode_23 : decode cX7_askNode 23 = .ok (.imul, 1) := by decide +kernel
theorem dX7_askNode_24 : decode cX7_askNode 24 = .ok (.iconst 3, 1) := by decide +kernel
theorem dX7_askNode_25 : decode cX7_askNode 25 = .ok (.iadd, 1) := by decide +kernel
theorem dX7_askNode_26 : decode cX7_askNode 26 = .ok (.if_icmp .ge 49, 3) := by decide +kernel
theorem dX7_askNode_29 : decode cX7_askNode 29 = .ok (.aload_n 0, 1) := by decide +kernel
theorem dX7_askNode_30 : decode cX7_askNode 30 = .ok (.getfield 47, 3) := by decide +kernel
theorem dX7_askNode_33 : decode cX7_askNode 33 = .ok (.invokevirtual 79, 3) := by decide +kernel
theorem dX7_askNode_36 : decode cX7_askNode 36 = .ok (.ifCond .eq 4, 3) := by decide +kernel
theorem dX7_askNode_39 : decode cX7_askNode 39 = .ok (.return_, 1) := by decide +kernel
theorem dX7_askNode_40 : decode cX7_askNode 40 = .ok (.aload_n 0, 1) := by decide +kernel
theorem dX7_askNode_41 : decode cX7_askNode 41 = .ok (.getfield 29, 3) := by decide +kernel
theorem dX7_askNode_44 : decode cX7_askNode 44 = .ok (.iload_n 3, 1) := by decide +kernel
theorem dX7_askNode_45 : decode cX7_askNode 45 = .ok (.aload_n 0, 1) := by decide +kernel
theorem dX7_askNode_46 : decode cX7_askNode 46 = .ok (.getfield 39, 3) := by decide +kernel
theorem dX7_askNode_49 : decode cX7_askNode 49 = .ok (.iconst 2, 1) := by decide +kernel
theorem dX7_askNode_50 : decode cX7_askNode 50 = .ok (.iload_n 3, 1) := by decide +kernel
theorem dX7_askNode_51 : decode cX7_askNode 51 = .ok (.iconst 3, 1) := by decide +kernel
theorem dX7_askNode_52 : decode cX7_askNode 52 = .ok (.irem, 1) := by decide +kernel
theorem dX7_askNode_53 : decode cX7_askNode 53 = .ok (.iadd, 1) := by decide +kernel
theorem dX7_askNode_54 : decode cX7_askNode 54 = .ok (.iload_n 1, 1) := by decide +kernel
theorem dX7_askNode_55 : decode cX7_askNode 55 = .ok (.iconst (-1), 1) := by decide +kernel
theorem dX7_askNode_56 : decode cX7_askNode 56 = .ok (.aload_n 0, 1) := by decide +kernel
theorem dX7_askNode_57 : decode cX7_askNode 57 = .ok (.getfield 38, 3) := by decide +kernel
theorem dX7_askNode_60 : decode cX7_askNode 60 = .ok (.getfield 156, 3) := by decide +kernel
theorem dX7_askNode_63 : decode cX7_askNode 63 = .ok (.iload_n 3, 1) := by decide +kernel
theorem dX7_askNode_64 : decode cX7_askNode 64 = .ok (.laload, 1) := by decide +kernel
theorem dX7_askNode_65 : decode cX7_askNode 65 = .ok (.invokevirtual 136, 3) := by decide +kernel
theorem dX7_askNode_68 : decode cX7_askNode 68 = .ok (.lastore, 1) := by decide +kernel
theorem dX7_askNode_69 : decode cX7_askNode 69 = .ok (.iinc 3 1, 3) := by decide +kernel
theorem dX7_askNode_72 : decode cX7_askNode 72 = .ok (.goto (-52), 3) := by decide +kernel
theorem dX7_askNode_75 : decode cX7_askNode 75 = .ok (.aload_n 0, 1) := by decide +kernel
theorem dX7_askNode_76 : decode cX7_askNode 76 = .ok (.getfield 47, 3) := by decide +kernel
theorem dX7_askNode_79 : decode cX7_askNode 79 = .ok (.invokevirtual 79, 3) := by decide +kernel
theorem dX7_askNode_82 : decode cX7_askNode 82 = .ok (.ifCond .eq 4, 3) := by decide +kernel
theorem dX7_askNode_85 : decode cX7_askNode 85 = .ok (.return_, 1) := by decide +kernel
theorem dX7_askNode_86 : decode cX7_askNode 86 = .ok (.aload_n 0, 1) := by decide +kernel
theorem dX7_askNode_87 : decode cX7_askNode 87 = .ok (.getfield 26, 3) := by decide +kernel
theorem dX7_askNode_90 : decode cX7_askNode 90 = .ok (.iload_n 1, 1) := by decide +kernel
theorem dX7_askNode_91 : decode cX7_askNode 91 = .ok (.aload_n 0, 1) := by decide +kernel
theorem dX7_askNode_92 : decode cX7_askNode 92 = .ok (.getfield 39, 3) := by decide +kernel
theorem dX7_askNode_95 : decode cX7_askNode 95 = .ok (.iconst 5, 1) := by decide +kernel
theorem dX7_askNode_96 : decode cX7_askNode 96 = .ok (.iload_n 1, 1) := by decide +kernel
theorem dX7_askNode_97 : decode cX7_askNode 97 = .ok (.iconst (-1), 1) := by decide +kernel
theorem dX7_askNode_98 : decode cX7_askNode 98 = .ok (.lconst 0, 1) := by decide +kernel
theorem dX7_askNode_99 : decode cX7_askNode 99 = .ok (.invokevirtual 136, 3) := by decide +kernel
theorem dX7_askNode_102 : decode cX7_askNode 102 = .ok (.lconst 0, 1) := by decide +kernel
theorem dX7_askNode_103 : decode cX7_askNode 103 = .ok (.lcmp, 1) := by decide +kernel
theorem dX7_askNode_104 : decode cX7_askNode 104 = .ok (.ifCond .eq 7, 3) := by decide +kernel
theorem dX7_askNode_107 : decode cX7_askNode 107 = .ok (.iconst 1, 1) := by decide +kernel
theorem dX7_askNode_108 : decode cX7_askNode 108 = .ok (.goto 4, 3) := by decide +kernel
theorem dX7_askNode_111 : decode cX7_askNode 111 = .ok (.iconst 0, 1) := by decide +kernel
theorem dX7_askNode_112 : decode cX7_askNode 112 = .ok (.bastore, 1) := by decide +kernel
theorem dX7_askNode_113 : decode cX7_askNode 113 = .ok (.return_, 1) := by decide +kernel
theorem dX7_sumParts_0 : decode cX7_sumParts 0 = .ok (.aload_n 0, 1) := by decide +kernel
theorem dX7_sumParts_1 : decode cX7_sumParts 1 = .ok (.getfield 39, 3) := by decide +kernel
theorem dX7_sumParts_4 : decode cX7_sumParts 4 = .ok (.getfield 107, 3) := by decide +kernel
theorem dX7_sumParts_7 : decode cX7_sumParts 7 = .ok (.lconst 0, 1) := by decide +kernel
theorem dX7_sumParts_8 : decode cX7_sumParts 8 = .ok (.iconst 0, 1) := by decide +kernel
theorem dX7_sumParts_9 : decode cX7_sumParts 9 = .ok (.invokevirtual 152, 3) := by decide +kernel
theorem dX7_sumParts_12 : decode cX7_sumParts 12 = .ok (.lconst 0, 1) := by decide +kernel
theorem dX7_sumParts_13 : decode cX7_sumParts 13 = .ok (.lstore_n 1, 1) := by decide +kernel
theorem dX7_sumParts_14 : decode cX7_sumParts 14 = .ok (.iconst 0, 1) := by decide +kernel
theorem dX7_sumParts_15 : decode cX7_sumParts 15 = .ok (.istore_n 3, 1) := by decide +kernel
theorem dX7_sumParts_16 : decode cX7_sumParts 16 = .ok (.iload_n 3, 1) := by decide +kernel
theorem dX7_sumParts_17 : decode cX7_sumParts 17 = .ok (.aload_n 0, 1) := by decide +kernel
theorem dX7_sumParts_18 : decode cX7_sumParts 18 = .ok (.getfield 38, 3) := by decide +kernel
theorem dX7_sumParts_21 : decode cX7_sumParts 21 = .ok (.getfield 123, 3) := by decide +kernel
theorem dX7_sumParts_24 : decode cX7_sumParts 24 = .ok (.if_icmp .ge 35, 3) := by decide +kernel
theorem dX7_sumParts_27 : decode cX7_sumParts 27 = .ok (.lload_n 1, 1) := by decide +kernel
theorem dX7_sumParts_28 : decode cX7_sumParts 28 = .ok (.aload_n 0, 1) := by decide +kernel
theorem dX7_sumParts_29 : decode cX7_sumParts 29 = .ok (.getfield 39, 3) := by decide +kernel
theorem dX7_sumParts_32 : decode cX7_sumParts 32 = .ok (.bipush 6, 2) := by decide +kernel
theorem dX7_sumParts_34 : decode cX7_sumParts 34 = .ok (.iload_n 3, 1) := by decide +kernel
theorem dX7_sumParts_35 : decode cX7_sumParts 35 = .ok (.iconst (-1), 1) := by decide +kernel
theorem dX7_sumParts_36 : decode cX7_sumParts 36 = .ok (.lconst 0, 1) := by decide +kernel
theorem dX7_sumParts_37 : decode cX7_sumParts 37 = .ok (.invokevirtual 136, 3) := by decide +kernel
theorem dX7_sumParts_40 : decode cX7_sumParts 40 = .ok (.ladd, 1) := by decide +kernel
theorem dX7_sumParts_41 : decode cX7_sumParts 41 = .ok (.lstore_n 1, 1) := by decide +kernel
theorem dX7_sumParts_42 : decode cX7_sumParts 42 = .ok (.aload_n 0, 1) := by decide +kernel
theorem dX7_sumParts_43 : decode cX7_sumParts 43 = .ok (.getfield 47, 3) := by decide +kernel
theorem dX7_sumParts_46 : decode cX7_sumParts 46 = .ok (.invokevirtual 79, 3) := by decide +kernel
theorem dX7_sumParts_49 : decode cX7_sumParts 49 = .ok (.ifCond .eq 4, 3) := by decide +kernel
theorem dX7_sumParts_52 : decode cX7_sumParts 52 = .ok (.return_, 1) := by decide +kernel
theorem dX7_sumParts_53 : decode cX7_sumParts 53 = .ok (.iinc 3 1, 3) := by decide +kernel
theorem dX7_sumParts_56 : decode cX7_sumParts 56 = .ok (.goto (-40), 3) := by decide +kernel
theorem dX7_sumParts_59 : decode cX7_sumParts 59 = .ok (.aload_n 0, 1) := by decide +kernel
theorem dX7_sumParts_60 : decode cX7_sumParts 60 = .ok (.getfield 38, 3) := by decide +kernel
theorem dX7_sumParts_63 : decode cX7_sumParts 63 = .ok (.lload_n 1, 1) := by decide +kernel
theorem dX7_sumParts_64 : decode cX7_sumParts 64 = .ok (.putfield 191, 3) := by decide +kernel
theorem dX7_sumParts_67 : decode cX7_sumParts 67 = .ok (.return_, 1) := by decide +kernel
theorem dX3_sendOn_0 : decode cX3_sendOn 0 = .ok (.iconst 0, 1) := by decide +kernel
theorem dX3_sendOn_1 : decode cX3_sendOn 1 = .ok (.istore_n 2, 1) := by decide +kernel
theorem dX3_sendOn_2 : decode cX3_sendOn 2 = .ok (.iload_n 2, 1) := by decide +kernel
theorem dX3_sendOn_3 : decode cX3_sendOn 3 = .ok (.aload_n 0, 1) := by decide +kernel
theorem dX3_sendOn_4 : decode cX3_sendOn 4 = .ok (.getfield 31, 3) := by decide +kernel
theorem dX3_sendOn_7 : decode cX3_sendOn 7 = .ok (.getfield 109, 3) := by decide +kernel
theorem dX3_sendOn_10 : decode cX3_sendOn 10 = .ok (.if_icmp .ge 39, 3) := by decide +kernel
theorem dX3_sendOn_13 : decode cX3_sendOn 13 = .ok (.aload_n 0, 1) := by decide +kernel
theorem dX3_sendOn_14 : decode cX3_sendOn 14 = .ok (.getfield 31, 3) := by decide +kernel
theorem dX3_sendOn_17 : decode cX3_sendOn 17 = .ok (.getfield 111, 3) := by decide +kernel
theorem dX3_sendOn_20 : decode cX3_sendOn 20 = .ok (.iload_n 2, 1) := by decide +kernel
theorem dX3_sendOn_21 : decode cX3_sendOn 21 = .ok (.iaload, 1) := by decide +kernel
theorem dX3_sendOn_22 : decode cX3_sendOn 22 = .ok (.iload_n 1, 1) := by decide +kernel
theorem dX3_sendOn_23 : decode cX3_sendOn 23 = .ok (.if_icmp .ne 9, 3) := by decide +kernel
theorem dX3_sendOn_26 : decode cX3_sendOn 26 = .ok (.aload_n 0, 1) := by decide +kernel
theorem dX3_sendOn_27 : decode cX3_sendOn 27 = .ok (.iload_n 1, 1) := by decide +kernel
theorem dX3_sendOn_28 : decode cX3_sendOn 28 = .ok (.iload_n 2, 1) := by decide +kernel
theorem dX3_sendOn_29 : decode cX3_sendOn 29 = .ok (.invokevirtual 114, 3) := by decide +kernel
theorem dX3_sendOn_32 : decode cX3_sendOn 32 = .ok (.aload_n 0, 1) := by decide +kernel
theorem dX3_sendOn_33 : decode cX3_sendOn 33 = .ok (.getfield 40, 3) := by decide +kernel
theorem dX3_sendOn_36 : decode cX3_sendOn 36 = .ok (.invokevirtual 74, 3) := by decide +kernel
theorem dX3_sendOn_39 : decode cX3_sendOn 39 = .ok (.ifCond .eq 4, 3) := by decide +kernel
theorem dX3_sendOn_42 : decode cX3_sendOn 42 = .ok (.return_, 1) := by decide +kernel
theorem dX3_sendOn_43 : decode cX3_sendOn 43 = .ok (.iinc 2 1, 3) := by decide +kernel
theorem dX3_sendOn_46 : decode cX3_sendOn 46 = .ok (.goto (-44), 3) := by decide +kernel
theorem dX3_sendOn_49 : decode cX3_sendOn 49 = .ok (.return_, 1) := by decide +kernel
theorem dX3_isDone_0 : decode cX3_isDone 0 = .ok (.aload_n 0, 1) := by decide +kernel
theorem dX3_isDone_1 : decode cX3_isDone 1 = .ok (.aload_n 0, 1) := by decide +kernel
theorem dX3_isDone_2 : decode cX3_isDone 2 = .ok (.getfield 64, 3) := by decide +kernel
theorem dX3_isDone_5 : decode cX3_isDone 5 = .ok (.iconst 1, 1) := by decide +kernel
theorem dX3_isDone_6 : decode cX3_isDone 6 = .ok (.iadd, 1) := by decide +kernel
theorem dX3_isDone_7 : decode cX3_isDone 7 = .ok (.bipush 60, 2) := by decide +kernel
theorem dX3_isDone_9 : decode cX3_isDone 9 = .ok (.irem, 1) := by decide +kernel
theorem dX3_isDone_10 : decode cX3_isDone 10 = .ok (.putfield 64, 3) := by decide +kernel
theorem dX3_isDone_13 : decode cX3_isDone 13 = .ok (.aload_n 0, 1) := by decide +kernel
theorem dX3_isDone_14 : decode cX3_isDone 14 = .ok (.dup, 1) := by decide +kernel
theorem dX3_isDone_15 : decode cX3_isDone 15 = .ok (.getfield 68, 3) := by decide +kernel
theorem dX3_isDone_18 : decode cX3_isDone 18 = .ok (.iconst 1, 1) := by decide +kernel
theorem dX3_isDone_19 : decode cX3_isDone 19 = .ok (.isub, 1) := by decide +kernel
theorem dX3_isDone_20 : decode cX3_isDone 20 = .ok (.putfield 68, 3) := by decide +kernel
theorem dX3_isDone_23 : decode cX3_isDone 23 = .ok (.aload_n 0, 1) := by decide +kernel
theorem dX3_isDone_24 : decode cX3_isDone 24 = .ok (.getfield 31, 3) := by decide +kernel
theorem dX3_isDone_27 : decode cX3_isDone 27 = .ok (.getfield 129, 3) := by decide +kernel
theorem dX3_isDone_30 : decode cX3_isDone 30 = .ok (.iload_n 1, 1) := by decide +kernel
theorem dX3_isDone_31 : decode cX3_isDone 31 = .ok (.iaload, 1) := by decide +kernel
theorem dX3_isDone_32 : decode cX3_isDone 32 = .ok (.istore 4, 2) := by decide +kernel
theorem dX3_isDone_34 : decode cX3_isDone 34 = .ok (.aload_n 0, 1) := by decide +kernel
theorem dX3_isDone_35 : decode cX3_isDone 35 = .ok (.getfield 31, 3) := by decide +kernel
theorem dX3_isDone_38 : decode cX3_isDone 38 = .ok (.getfield 132, 3) := by decide +kernel
theorem dX3_isDone_41 : decode cX3_isDone 41 = .ok (.iload 4, 2) := by decide +kernel
theorem dX3_isDone_43 : decode cX3_isDone 43 = .ok (.iconst 3, 1) := by decide +kernel
theorem dX3_isDone_44 : decode cX3_isDone 44 = .ok (.imul, 1) := by decide +kernel
theorem dX3_isDone_45 : decode cX3_isDone 45 = .ok (.aload_n 0, 1) := by decide +kernel
theorem dX3_isDone_46 : decode cX3_isDone 46 = .ok (.getfield 22, 3) := by decide +kernel
theorem dX3_isDone_49 : decode cX3_isDone 49 = .ok (.iconst 0, 1) := by decide +kernel
theorem dX3_isDone_50 : decode cX3_isDone 50 = .ok (.iconst 3, 1) := by decide +kernel
theorem dX3_isDone_51 : decode cX3_isDone 51 = .ok (.invokestatic 135, 3) := by decide +kernel
theorem dX3_isDone_54 : decode cX3_isDone 54 = .ok (.aload_n 0, 1) := by decide +kernel
theorem dX3_isDone_55 : decode cX3_isDone 55 = .ok (.getfield 32, 3) := by decide +kernel
theorem dX3_isDone_58 : decode cX3_isDone 58 = .ok (.getfield 55, 3) := by decide +kernel
theorem dX3_isDone_61 : decode cX3_isDone 61 = .ok (.lload_n 2, 1) := by decide +kernel
theorem dX3_isDone_62 : decode cX3_isDone 62 = .ok (.iconst 1, 1) := by decide +kernel
theorem dX3_isDone_63 : decode cX3_isDone 63 = .ok (.invokevirtual 141, 3) := by decide +kernel
theorem dX3_isDone_66 : decode cX3_isDone 66 = .ok (.aload_n 0, 1) := by decide +kernel
theorem dX3_isDone_67 : decode cX3_isDone 67 = .ok (.iload 4, 2) := by decide +kernel
theorem dX3_isDone_69 : decode cX3_isDone 69 = .ok (.invokevirtual 145, 3) := by decide +kernel
theorem dX3_isDone_72 : decode cX3_isDone 72 = .ok (.aload_n 0, 1) := by decide +kernel
theorem dX3_isDone_73 : decode cX3_isDone 73 = .ok (.getfield 40, 3) := by decide +kernel
theorem dX3_isDone_76 : decode cX3_isDone 76 = .ok (.invokevirtual 74, 3) := by decide +kernel
theorem dX3_isDone_79 : decode cX3_isDone 79 = .ok (.ifCond .ne 24, 3) := by decide +kernel
theorem dX3_isDone_82 : decode cX3_isDone 82 = .ok (.aload_n 0, 1) := by decide +kernel
theorem dX3_isDone_83 : decode cX3_isDone 83 = .ok (.getfield 32, 3) := by decide +kernel
theorem dX3_isDone_86 : decode cX3_isDone 86 = .ok (.iconst 5, 1) := by decide +kernel
theorem dX3_isDone_87 : decode cX3_isDone 87 = .ok (.iload 4, 2) := by decide +kernel
theorem dX3_isDone_89 : decode cX3_isDone 89 = .ok (.iconst (-1), 1) := by decide +kernel
theorem dX3_isDone_90 : decode cX3_isDone 90 = .ok (.lconst 0, 1) := by decide +kernel
theorem dX3_isDone_91 : decode cX3_isDone 91 = .ok (.invokevirtual 118, 3) := by decide +kernel
theorem dX3_isDone_94 : decode cX3_isDone 94 = .ok (.lconst 0, 1) := by decide +kernel
theorem dX3_isDone_95 : decode cX3_isDone 95 = .ok (.lcmp, 1) := by decide +kernel
theorem dX3_isDone_96 : decode cX3_isDone 96 = .ok (.ifCond .eq 7, 3) := by decide +kernel
theorem dX3_isDone_99 : decode cX3_isDone 99 = .ok (.iconst 1, 1) := by decide +kernel
theorem dX3_isDone_100 : decode cX3_isDone 100 = .ok (.goto 4, 3) := by decide +kernel
theorem dX3_isDone_103 : decode cX3_isDone 103 = .ok (.iconst 0, 1) := by decide +kernel
theorem dX3_isDone_104 : decode cX3_isDone 104 = .ok (.istore 5, 2) := by decide +kernel
theorem dX3_isDone_106 : decode cX3_isDone 106 = .ok (.aload_n 0, 1) := by decide +kernel
theorem dX3_isDone_107 : decode cX3_isDone 107 = .ok (.getfield 32, 3) := by decide +kernel
theorem dX3_isDone_110 : decode cX3_isDone 110 = .ok (.getfield 55, 3) := by decide +kernel
theorem dX3_isDone_113 : decode cX3_isDone 113 = .ok (.lconst 0, 1) := by decide +kernel
theorem dX3_isDone_114 : decode cX3_isDone 114 = .ok (.iconst 0, 1) := by decide +kernel
theorem dX3_isDone_115 : decode cX3_isDone 115 = .ok (.invokevirtual 141, 3) := by decide +kernel
theorem dX3_isDone_118 : decode cX3_isDone 118 = .ok (.aload_n 0, 1) := by decide +kernel
theorem dX3_isDone_119 : decode cX3_isDone 119 = .ok (.getfield 40, 3) := by decide +kernel
theorem dX3_isDone_122 : decode cX3_isDone 122 = .ok (.invokevirtual 74, 3) := by decide +kernel
theorem dX3_isDone_125 : decode cX3_isDone 125 = .ok (.ifCond .ne 14, 3) := by decide +kernel
theorem dX3_isDone_128 : decode cX3_isDone 128 = .ok (.iload 5, 2) := by decide +kernel
theorem dX3_isDone_130 : decode cX3_isDone 130 = .ok (.ifCond .ne 9, 3) := by decide +kernel
theorem dX3_isDone_133 : decode cX3_isDone 133 = .ok (.aload_n 0, 1) := by decide +kernel
theorem dX3_isDone_134 : decode cX3_isDone 134 = .ok (.iload 4, 2) := by decide +kernel
theorem dX3_isDone_136 : decode cX3_isDone 136 = .ok (.invokevirtual 105, 3) := by decide +kernel
theorem dX3_isDone_139 : decode cX3_isDone 139 = .ok (.aload_n 0, 1) := by decide +kernel
theorem dX3_isDone_140 : decode cX3_isDone 140 = .ok (.getfield 40, 3) := by decide +kernel
theorem dX3_isDone_143 : decode cX3_isDone 143 = .ok (.invokevirtual 74, 3) := by decide +kernel
theorem dX3_isDone_146 : decode cX3_isDone 146 = .ok (.ifCond .ne 5, 3) := by decide +kernel
theorem dX3_isDone_149 : decode cX3_isDone 149 = .ok (.iconst 1, 1) := by decide +kernel
theorem dX3_isDone_150 : decode cX3_isDone 150 = .ok (.ireturn, 1) := by decide +kernel
theorem dX3_isDone_151 : decode cX3_isDone 151 = .ok (.aload_n 0, 1) := by decide +kernel
theorem dX3_isDone_152 : decode cX3_isDone 152 = .ok (.getfield 22, 3) := by decide +kernel
theorem dX3_isDone_155 : decode cX3_isDone 155 = .ok (.iconst 0, 1) := by decide +kernel
theorem dX3_isDone_156 : decode cX3_isDone 156 = .ok (.aload_n 0, 1) := by decide +kernel
theorem dX3_isDone_157 : decode cX3_isDone 157 = .ok (.getfield 31, 3) := by decide +kernel
theorem dX3_isDone_160 : decode cX3_isDone 160 = .ok (.getfield 132, 3) := by decide +kernel
theorem dX3_isDone_163 : decode cX3_isDone 163 = .ok (.iload 4, 2) := by decide +kernel
theorem dX3_isDone_165 : decode cX3_isDone 165 = .ok (.iconst 3, 1) := by decide +kernel
theorem dX3_isDone_166 : decode cX3_isDone 166 = .ok (.imul, 1) := by decide +kernel
theorem dX3_isDone_167 : decode cX3_isDone 167 = .ok (.iconst 3, 1) := by decide +kernel
theorem dX3_isDone_168 : decode cX3_isDone 168 = .ok (.invokestatic 135, 3) := by decide +kernel
theorem dX3_isDone_171 : decode cX3_isDone 171 = .ok (.iconst 0, 1) := by decide +kernel
theorem dX3_isDone_172 : decode cX3_isDone 172 = .ok (.ireturn, 1) := by decide +kernel
theorem dX7_sendAll_0 : decode cX7_sendAll 0 = .ok (.iload_n 1, 1) := by decide +kernel
theorem dX7_sendAll_1 : decode cX7_sendAll 1 = .ok (.ifCond .eq 13, 3) := by decide +kernel
theorem dX7_sendAll_4 : decode cX7_sendAll 4 = .ok (.aload_n 0, 1) := by decide +kernel
theorem dX7_sendAll_5 : decode cX7_sendAll 5 = .ok (.getfield 38, 3) := by decide +kernel
theorem dX7_sendAll_8 : decode cX7_sendAll 8 = .ok (.getfield 117, 3) := by decide +kernel
theorem dX7_sendAll_11 : decode cX7_sendAll 11 = .ok (.goto 10, 3) := by decide +kernel
theorem dX7_sendAll_14 : decode cX7_sendAll 14 = .ok (.aload_n 0, 1) := by decide +kernel
theorem dX7_sendAll_15 : decode cX7_sendAll 15 = .ok (.getfield 38, 3) := by decide +kernel
theorem dX7_sendAll_18 : decode cX7_sendAll 18 = .ok (.getfield 120, 3) := by decide +kernel
theorem dX7_sendAll_21 : decode cX7_sendAll 21 = .ok (.astore_n 2, 1) := by decide +kernel
theorem dX7_sendAll_22 : decode cX7_sendAll 22 = .ok (.iconst 0, 1) := by decide +kernel
theorem dX7_sendAll_23 : decode cX7_sendAll 23 = .ok (.istore_n 3, 1) := by decide +kernel
theorem dX7_sendAll_24 : decode cX7_sendAll 24 = .ok (.iload_n 3, 1) := by decide +kernel
theorem dX7_sendAll_25 : decode cX7_sendAll 25 = .ok (.aload_n 0, 1) := by decide +kernel
theorem dX7_sendAll_26 : decode cX7_sendAll 26 = .ok (.getfield 38, 3) := by decide +kernel
theorem dX7_sendAll_29 : decode cX7_sendAll 29 = .ok (.getfield 123, 3) := by decide +kernel
theorem dX7_sendAll_32 : decode cX7_sendAll 32 = .ok (.if_icmp .ge 76, 3) := by decide +kernel
theorem dX7_sendAll_35 : decode cX7_sendAll 35 = .ok (.iconst 0, 1) := by decide +kernel
theorem dX7_sendAll_36 : decode cX7_sendAll 36 = .ok (.istore 4, 2) := by decide +kernel
theorem dX7_sendAll_38 : decode cX7_sendAll 38 = .ok (.iload 4, 2) := by decide +kernel
theorem dX7_sendAll_40 : decode cX7_sendAll 40 = .ok (.aload_n 0, 1) := by decide +kernel
theorem dX7_sendAll_41 : decode cX7_sendAll 41 = .ok (.getfield 38, 3) := by decide +kernel
theorem dX7_sendAll_44 : decode cX7_sendAll 44 = .ok (.getfield 126, 3) := by decide +kernel
theorem dX7_sendAll_47 : decode cX7_sendAll 47 = .ok (.if_icmp .ge 55, 3) := by decide +kernel
theorem dX7_sendAll_50 : decode cX7_sendAll 50 = .ok (.aload_n 2, 1) := by decide +kernel
theorem dX7_sendAll_51 : decode cX7_sendAll 51 = .ok (.iload 4, 2) := by decide +kernel
theorem dX7_sendAll_53 : decode cX7_sendAll 53 = .ok (.iaload, 1) := by decide +kernel
theorem dX7_sendAll_54 : decode cX7_sendAll 54 = .ok (.iload_n 3, 1) := by decide +kernel
theorem dX7_sendAll_55 : decode cX7_sendAll 55 = .ok (.if_icmp .ne 30, 3) := by decide +kernel
theorem dX7_sendAll_58 : decode cX7_sendAll 58 = .ok (.aload_n 0, 1) := by decide +kernel
theorem dX7_sendAll_59 : decode cX7_sendAll 59 = .ok (.getfield 38, 3) := by decide +kernel
theorem dX7_sendAll_62 : decode cX7_sendAll 62 = .ok (.getfield 129, 3) := by decide +kernel
theorem dX7_sendAll_65 : decode cX7_sendAll 65 = .ok (.aload_n 0, 1) := by decide +kernel
theorem dX7_sendAll_66 : decode cX7_sendAll 66 = .ok (.getfield 38, 3) := by decide +kernel
theorem dX7_sendAll_69 : decode cX7_sendAll 69 = .ok (.getfield 120, 3) := by decide +kernel
theorem dX7_sendAll_72 : decode cX7_sendAll 72 = .ok (.iload 4, 2) := by decide +kernel
theorem dX7_sendAll_74 : decode cX7_sendAll 74 = .ok (.iaload, 1) := by decide +kernel
theorem dX7_sendAll_75 : decode cX7_sendAll 75 = .ok (.baload, 1) := by decide +kernel
theorem dX7_sendAll_76 : decode cX7_sendAll 76 = .ok (.ifCond .eq 9, 3) := by decide +kernel
theorem dX7_sendAll_79 : decode cX7_sendAll 79 = .ok (.aload_n 0, 1) := by decide +kernel
theorem dX7_sendAll_80 : decode cX7_sendAll 80 = .ok (.iload 4, 2) := by decide +kernel
theorem dX7_sendAll_82 : decode cX7_sendAll 82 = .ok (.invokevirtual 132, 3) := by decide +kernel
theorem dX7_sendAll_85 : decode cX7_sendAll 85 = .ok (.aload_n 0, 1) := by decide +kernel
theorem dX7_sendAll_86 : decode cX7_sendAll 86 = .ok (.getfield 47, 3) := by decide +kernel
theorem dX7_sendAll_89 : decode cX7_sendAll 89 = .ok (.invokevirtual 79, 3) := by decide +kernel
theorem dX7_sendAll_92 : decode cX7_sendAll 92 = .ok (.ifCond .eq 4, 3) := by decide +kernel
theorem dX7_sendAll_95 : decode cX7_sendAll 95 = .ok (.return_, 1) := by decide +kernel
theorem dX7_sendAll_96 : decode cX7_sendAll 96 = .ok (.iinc 4 1, 3) := by decide +kernel
theorem dX7_sendAll_99 : decode cX7_sendAll 99 = .ok (.goto (-61), 3) := by decide +kernel
theorem dX7_sendAll_102 : decode cX7_sendAll 102 = .ok (.iinc 3 1, 3) := by decide +kernel
theorem dX7_sendAll_105 : decode cX7_sendAll 105 = .ok (.goto (-81), 3) := by decide +kernel
theorem dX7_sendAll_108 : decode cX7_sendAll 108 = .ok (.return_, 1) := by decide +kernel
def rm_cX7_askNode : Room := { frames := 44, cells := 0, slots := 0, locals := 1271 }
def G_cX7_askNode_b112 (p : Program) (l : Launch) (e : Env) (s : State) (m : MethodId) (args : Array Value) (below : List Frame) (meth : Method) (c : Code) (dC : Nat → ClassId) (dI : Nat → Nat → Nat) (kA : Nat → ClassId) (ad : Nat → Nat) (res : RS) (F : RS → Int32 → Int32 → Option (RS)) : Prop := ∀ (σ : RS) (s0 : Int32) (s1 : Int32), F σ s0 s1 = some res → ∀ (H : Heap) (locs : List Loc) (ls : Array Slot), va_P (dC, dI) vwCl (c_w kA ad σ) H → va_S (jw_A 57 ad) s.heap H locs → lv_has ls 4 [] → W p l e rm_cX7_askNode s m args below meth c H locs 0 0 (c_Qu below dC dI kA ad args s res) (F0 m 112 ls [.int s0, .int s1, .ref (ad 29)])
def G_cX7_askNode_b75 (p : Program) (l : Launch) (e : Env) (s : State) (m : MethodId) (args : Array Value) (below : List Frame) (meth : Method) (c : Code) (dC : Nat → ClassId) (dI : Nat → Nat → Nat) (kA : Nat → ClassId) (ad : Nat → Nat) (res : RS) (F : RS → Int32 → Option (RS)) : Prop := ∀ (σ : RS) (x1 : Int32), F σ x1 = some res → ∀ (H : Heap) (locs : List Loc) (ls : Array Slot), va_P (dC, dI) vwCl (c_w kA ad σ) H → va_S (jw_A 57 ad) s.heap H locs → lv_has ls 4 [(0, .ref (ad 24)), (1, .int x1)] → W p l e rm_cX7_askNode s m args below meth c H locs 0 0 (c_Qu below dC dI kA ad args s res) (F0 m 75 ls [])
def G_cX7_askNode_b20 (p : Program) (l : Launch) (e : Env) (s : State) (m : MethodId) (args : Array Value) (below : List Frame) (meth : Method) (c : Code) (dC : Nat → ClassId) (dI : Nat → Nat → Nat) (kA : Nat → ClassId) (ad : Nat → Nat) (res : RS) (F : RS → Int32 → Int32 → Option (RS)) : Prop := ∀ (σ : RS) (x1 : Int32) (x3 : Int32), F σ x1 x3 = some res → ∀ (H : Heap) (locs : List Loc) (ls : Array Slot), va_P (dC, dI) vwCl (c_w kA ad σ) H → va_S (jw_A 57 ad) s.heap H locs → lv_has ls 4 [(0, .ref (ad 24)), (1, .int x1), (3, .int x3)] → W p l e rm_cX7_askNode s m args below meth c H locs 0 0 (c_Qu below dC dI kA ad args s res) (F0 m 20 ls [])
def G_cX7_askNode (p : Program) (l : Launch) (e : Env) (s : State) (m : MethodId) (args : Array Value) (below : List Frame) (meth : Method) (c : Code) (dC : Nat → ClassId) (dI : Nat → Nat → Nat) (kA : Nat → ClassId) (ad : Nat → Nat) (res : RS) (F : RS → Int32 → Int32 → Option (RS)) : Prop := ∀ (σ : RS) (x1 : Int32) (x2 : Int32), F σ x1 x2 = some res → ∀ (H : Heap) (locs : List Loc) (ls : Array Slot), va_P (dC, dI) vwCl (c_w kA ad σ) H → va_S (jw_A 57 ad) s.heap H locs → lv_has ls 4 [(0, .ref (ad 24)), (1, .int x1), (2, .int x2)] → W p l e rm_cX7_askNode s m args below meth c H locs 0 0 (c_Qu below dC dI kA ad args s res) (F0 m 0 ls [])
def s_cX7_askNode_b112 (σ : RS) (s0 : Int32) (s1 : Int32) : Option (RS) := kn_st (rs_A σ 13 (upd (rg_A σ 13) s1.toNatClampNeg (vp_nar .boolean s0))) 12 s1 (fun σ1 => some σ1)
set_option maxRecDepth 100000 in
set_option maxHeartbeats 4000000 in
theorem p_cX7_askNode_b112 {p : Program} {l : Launch} {e : Env} {s : State} {m : MethodId} {args : Array Value} {below : List Frame} {meth : Method} {c : Code} {dC : Nat → ClassId} {dI : Nat → Nat → Nat} {kA : Nat → ClassId} {ad : Nat → Nat} (C : jxc cX7_askNode none 4 RX7 p s m args meth c dC dI kA) (hap : jw_ap 57 ad) {res : RS} : G_cX7_askNode_b112 p l e s m args below meth c dC dI kA ad res (s_cX7_askNode_b112) := by
  obtain ⟨hx, hb, hml, hown, hts, hr, hlocks, hK, hN⟩ := id C
  intro σ s0 s1 hf H locs ls hP hS hl
  unfold s_cX7_askNode_b112 at hf
  refine ja_zst hx hb hK (c_D hap σ) hP hS 29 2 rfl rfl rfl c_sA13 hf dX7_askNode_112 (fun σ1 H locs hP hS hf => ?_)
  exact jr_u hx hb hr hlocks hf hP hS dX7_askNode_113
def s_cX7_askNode_b75 (σ : RS) (x1 : Int32) : Option (RS) := kn_i (s_cX2_is σ) (fun v1 σ2 => if v1 = 0 then (kn_l (s_cX0_comesTo σ2 5 x1 (-1) 0) (fun v3 σ4 => if v3 = 0 then (s_cX7_askNode_b112 σ4 0 x1) else (s_cX7_askNode_b112 σ4 1 x1))) else some σ2)
set_option maxRecDepth 100000 in
set_option maxHeartbeats 4000000 in
theorem p_cX7_askNode_b75 {p : Program} {l : Launch} {e : Env} {s : State} {m : MethodId} {args : Array Value} {below : List Frame} {meth : Method} {c : Code} {dC : Nat → ClassId} {dI : Nat → Nat → Nat} {kA : Nat → ClassId} {ad : Nat → Nat} (C : jxc cX7_askNode none 4 RX7 p s m args meth c dC dI kA) (hap : jw_ap 57 ad) {res : RS} : G_cX7_askNode_b75 p l e s m args below meth c dC dI kA ad res (s_cX7_askNode_b75) := by
  obtain ⟨hx, hb, hml, hown, hts, hr, hlocks, hK, hN⟩ := id C
  intro σ x1 hf H locs ls hP hS hl
  unfold s_cX7_askNode_b75 at hf
  refine lv_aload_n hx hb dX7_askNode_75 rfl (lv_at hl 0 rfl) ?_
  refine c_gX7_failure hx hb hts hown hK hP (hts _ kw_334) dX7_askNode_76 ?_
  refine jk_i hf (fun res hres => jv_run hx hb hml hown hts hK hN c_hG c_hNW hl.1 (n := 0) (As := []) (rest := []) (c_cX2_is l hap σ res hres) hP (ci := 2) (q0 := 16) rfl rfl rfl kw_584 kw_635 kw_582 kw_583 kw_56 ⟨rfl, rfl⟩ (by decide +kernel) rfl ⟨Nat.le_of_ble_eq_true rfl, Nat.le_of_ble_eq_true rfl⟩ rfl (Nat.le_of_ble_eq_true rfl) dX7_askNode_79) hS (fun v1 σ2 H locs hP hS hf => ?_)
  refine jb_eq (tgt := 86) hx hb hf dX7_askNode_82 (by decide) (fun hf => ?_) (fun hf => ?_)
  · refine lv_aload_n hx hb dX7_askNode_86 rfl (lv_at hl 0 rfl) ?_
    refine c_gX7_halting hx hb hts hown hK hP (hts _ kw_341) dX7_askNode_87 ?_
    refine lv_iload_n hx hb dX7_askNode_90 rfl (lv_at hl 1 rfl) ?_
    refine lv_aload_n hx hb dX7_askNode_91 rfl (lv_at hl 0 rfl) ?_
    refine c_gX7_actor hx hb hts hown hK hP (hts _ kw_333) dX7_askNode_92 ?_
    refine lv_iconst (v := 5) hx hb dX7_askNode_95 (by decide) ?_
    refine lv_iload_n hx hb dX7_askNode_96 rfl (lv_at hl 1 rfl) ?_
    refine lv_iconst (v := (-1)) hx hb dX7_askNode_97 (by decide) ?_
    refine lv_lconst (v := 0) hx hb dX7_askNode_98 (by decide) ?_
    refine jk_l hf (fun res hres => jv_run hx hb hml hown hts hK hN c_hG c_hNW hl.1 (n := 4) (As := [.int 5, .int x1, .int (-1), .long 0]) (rest := [.int x1, .ref (ad 29)]) (c_cX0_comesTo l hap σ2 5 x1 (-1) 0 res hres) hP (ci := 0) (q0 := 23) rfl rfl rfl kw_555 kw_634 kw_553 kw_554 kw_61 ⟨rfl, rfl⟩ (by decide +kernel) rfl ⟨Nat.le_of_ble_eq_true rfl, Nat.le_of_ble_eq_true rfl⟩ rfl (Nat.le_of_ble_eq_true rfl) dX7_askNode_99) hS (fun v3 σ4 H locs hP hS hf => ?_)
    refine lv_lconst (v := 0) hx hb dX7_askNode_102 (by decide) ?_
    refine jl_eq (tgt := 111) hx hb hf dX7_askNode_103 dX7_askNode_104 (by decide) (fun hf => ?_) (fun hf => ?_)
    · refine lv_iconst (v := 0) hx hb dX7_askNode_111 (by decide) ?_
      exact (p_cX7_askNode_b112 C hap) σ4 0 x1 hf H locs ls hP hS (lv_sub hl [] rfl)
    · refine lv_iconst (v := 1) hx hb dX7_askNode_107 (by decide) ?_
      refine lv_goto (tgt := 112) hx hb dX7_askNode_108 (by decide) ?_
      exact (p_cX7_askNode_b112 C hap) σ4 1 x1 hf H locs ls hP hS (lv_sub hl [] rfl)
  · exact jr_u hx hb hr hlocks hf hP hS dX7_askNode_85
def s_cX7_askNode_b20 (k20 : RS → Int32 → Int32 → Option (RS)) (σ : RS) (x1 : Int32) (x3 : Int32) : Option (RS) := if ((x1 * 3) + 3) ≤ x3 then (s_cX7_askNode_b75 σ x1) else (kn_i (s_cX2_is σ) (fun v1 σ2 => if v1 = 0 then (kn_ld (rg_B σ2 1) 36 x3 (fun v3 => kn_l (s_cX0_comesTo σ2 (2 + (x3 - x3 / 3 * 3)) x1 (-1) v3) (fun v4 σ5 => kn_st (rs_B σ5 5 (vp_updL (rg_B σ5 5) x3.toNatClampNeg v4)) 36 x3 (fun σ6 => kn_v (x3 + 1) (fun v7 => k20 σ6 x1 v7))))) else some σ2))
set_option maxRecDepth 100000 in
set_option maxHeartbeats 4000000 in
theorem p_cX7_askNode_b20 {p : Program} {l : Launch} {e : Env} {s : State} {m : MethodId} {args : Array Value} {below : List Frame} {meth : Method} {c : Code} {dC : Nat → ClassId} {dI : Nat → Nat → Nat} {kA : Nat → ClassId} {ad : Nat → Nat} (C : jxc cX7_askNode none 4 RX7 p s m args meth c dC dI kA) (hap : jw_ap 57 ad) {res : RS} {k20 : RS → Int32 → Int32 → Option (RS)} (hk20 : G_cX7_askNode_b20 p l e s m args below meth c dC dI kA ad res k20) : G_cX7_askNode_b20 p l e s m args below meth c dC dI kA ad res (s_cX7_askNode_b20 k20) := by
  obtain ⟨hx, hb, hml, hown, hts, hr, hlocks, hK, hN⟩ := id C
  intro σ x1 x3 hf H locs ls hP hS hl
  unfold s_cX7_askNode_b20 at hf
  refine lv_iload_n hx hb dX7_askNode_20 rfl (lv_at hl 2 rfl) ?_
  refine lv_iload_n hx hb dX7_askNode_21 rfl (lv_at hl 1 rfl) ?_
  refine lv_iconst (v := 3) hx hb dX7_askNode_22 (by decide) ?_
  refine lv_imul hx hb dX7_askNode_23 ?_
  refine lv_iconst (v := 3) hx hb dX7_askNode_24 (by decide) ?_
  refine lv_iadd hx hb dX7_askNode_25 ?_
  refine jc_ge (tgt := 75) hx hb hf dX7_askNode_26 (by decide) (fun hf => ?_) (fun hf => ?_)
  · exact (p_cX7_askNode_b75 C hap) σ x1 hf H locs ls hP hS (lv_sub hl [0, 1] rfl)
  · refine lv_aload_n hx hb dX7_askNode_29 rfl (lv_at hl 0 rfl) ?_
    refine c_gX7_failure hx hb hts hown hK hP (hts _ kw_334) dX7_askNode_30 ?_
    refine jk_i hf (fun res hres => jv_run hx hb hml hown hts hK hN c_hG c_hNW hl.1 (n := 0) (As := []) (rest := []) (c_cX2_is l hap σ res hres) hP (ci := 2) (q0 := 16) rfl rfl rfl kw_584 kw_635 kw_582 kw_583 kw_56 ⟨rfl, rfl⟩ (by decide +kernel) rfl ⟨Nat.le_of_ble_eq_true rfl, Nat.le_of_ble_eq_true rfl⟩ rfl (Nat.le_of_ble_eq_true rfl) dX7_askNode_33) hS (fun v1 σ2 H locs hP hS hf => ?_)
    refine jb_eq (tgt := 40) hx hb hf dX7_askNode_36 (by decide) (fun hf => ?_) (fun hf => ?_)
    · refine lv_aload_n hx hb dX7_askNode_40 rfl (lv_at hl 0 rfl) ?_
      refine c_gX7_newStates hx hb hts hown hK hP (hts _ kw_342) dX7_askNode_41 ?_
      refine lv_iload_n hx hb dX7_askNode_44 rfl (lv_at hl 2 rfl) ?_
      refine lv_aload_n hx hb dX7_askNode_45 rfl (lv_at hl 0 rfl) ?_
      refine c_gX7_actor hx hb hts hown hK hP (hts _ kw_333) dX7_askNode_46 ?_
      refine lv_iconst (v := 2) hx hb dX7_askNode_49 (by decide) ?_
      refine lv_iload_n hx hb dX7_askNode_50 rfl (lv_at hl 2 rfl) ?_
      refine lv_iconst (v := 3) hx hb dX7_askNode_51 (by decide) ?_
      refine lv_irem hx hb dX7_askNode_52 (by decide) ?_
      refine lv_iadd hx hb dX7_askNode_53 ?_
      refine lv_iload_n hx hb dX7_askNode_54 rfl (lv_at hl 1 rfl) ?_
      refine lv_iconst (v := (-1)) hx hb dX7_askNode_55 (by decide) ?_
      refine lv_aload_n hx hb dX7_askNode_56 rfl (lv_at hl 0 rfl) ?_
      refine c_gX7_web hx hb hts hown hK hP (hts _ kw_332) dX7_askNode_57 ?_
      refine c_gX10_states hx hb hts hown hK hP (hts _ kw_119) dX7_askNode_60 ?_
      refine lv_iload_n hx hb dX7_askNode_63 rfl (lv_at hl 2 rfl) ?_
      refine ja_lld hx hb hK hP 8 1 rfl rfl hf dX7_askNode_64 (fun v3 hf => ?_)
      refine jk_l hf (fun res hres => jv_run hx hb hml hown hts hK hN c_hG c_hNW hl.1 (n := 4) (As := [.int (2 + (x3 - x3 / 3 * 3)), .int x1, .int (-1), .long v3]) (rest := [.int x3, .ref (ad 30)]) (c_cX0_comesTo l hap σ2 (2 + (x3 - x3 / 3 * 3)) x1 (-1) v3 res hres) hP (ci := 0) (q0 := 23) rfl rfl rfl kw_555 kw_634 kw_553 kw_554 kw_61 ⟨rfl, rfl⟩ (by decide +kernel) rfl ⟨Nat.le_of_ble_eq_true rfl, Nat.le_of_ble_eq_true rfl⟩ rfl (Nat.le_of_ble_eq_true rfl) dX7_askNode_65) hS (fun v4 σ5 H locs hP hS hf => ?_)
      refine ja_lst hx hb hK (c_D hap σ5) hP hS 30 1 rfl rfl c_sB5 hf dX7_askNode_68 (fun σ6 H locs hP hS hf => ?_)
      obtain ⟨v7, e_v7, hf⟩ := kn_v_e hf
      refine lv_iinc (v := v7) (lv' := [(3, .int v7), (0, .ref (ad 24)), (1, .int x1)]) hx hb dX7_askNode_69 hl (k := 2) rfl e_v7 (by decide) rfl (fun ls hl => ?_)
      refine lv_goto (tgt := 20) hx hb dX7_askNode_72 (by decide) ?_
      exact hk20 σ6 x1 v7 hf H locs ls hP hS (lv_sub hl [1, 2, 0] rfl)
    · exact jr_u hx hb hr hlocks hf hP hS dX7_askNode_39
def f_cX7_askNode_b20 : RS → Int32 → Int32 → Option (RS) := kn_fix (fun _ _ _ => none) (s_cX7_askNode_b20) FU
theorem q_cX7_askNode_b20 {p : Program} {l : Launch} {e : Env} {s : State} {m : MethodId} {args : Array Value} {below : List Frame} {meth : Method} {c : Code} {dC : Nat → ClassId} {dI : Nat → Nat → Nat} {kA : Nat → ClassId} {ad : Nat → Nat} (C : jxc cX7_askNode none 4 RX7 p s m args meth c dC dI kA) (hap : jw_ap 57 ad) {res : RS} : G_cX7_askNode_b20 p l e s m args below meth c dC dI kA ad res (f_cX7_askNode_b20) := kn_fix_ind (G := fun F => G_cX7_askNode_b20 p l e s m args below meth c dC dI kA ad res F) (fun _ _ _ hf => by cases hf) (fun k20 hk20 => p_cX7_askNode_b20 C hap hk20) FU
def s_cX7_askNode (σ : RS) (x1 : Int32) (x2 : Int32) : Option (RS) := kn_l (s_cX7_foldFor σ x1) (fun v1 σ2 => kn_u (s_cX1_setFolded σ2 v1 x2) (fun σ4 => kn_v (x1 * 3) (fun v5 => f_cX7_askNode_b20 σ4 x1 v5)))
set_option maxRecDepth 100000 in
set_option maxHeartbeats 4000000 in
theorem p_cX7_askNode {p : Program} {l : Launch} {e : Env} {s : State} {m : MethodId} {args : Array Value} {below : List Frame} {meth : Method} {c : Code} {dC : Nat → ClassId} {dI : Nat → Nat → Nat} {kA : Nat → ClassId} {ad : Nat → Nat} (C : jxc cX7_askNode none 4 RX7 p s m args meth c dC dI kA) (hap : jw_ap 57 ad) {res : RS} : G_cX7_askNode p l e s m args below meth c dC dI kA ad res (s_cX7_askNode) := by
  obtain ⟨hx, hb, hml, hown, hts, hr, hlocks, hK, hN⟩ := id C
  intro σ x1 x2 hf H locs ls hP hS hl
  unfold s_cX7_askNode at hf
  refine lv_aload_n hx hb dX7_askNode_0 rfl (lv_at hl 0 rfl) ?_
  refine c_gX7_actor hx hb hts hown hK hP (hts _ kw_333) dX7_askNode_1 ?_
  refine c_gX0_asker hx hb hts hown hK hP (hts _ kw_313) dX7_askNode_4 ?_
  refine lv_aload_n hx hb dX7_askNode_7 rfl (lv_at hl 0 rfl) ?_
  refine lv_iload_n hx hb dX7_askNode_8 rfl (lv_at hl 1 rfl) ?_
  refine jk_l hf (fun res hres => jv_run hx hb hml hown hts hK hN c_hG c_hNW hl.1 (n := 1) (As := [.int x1]) (rest := [.ref (ad 22)]) (c_cX7_foldFor l hap σ x1 res hres) hP (ci := 7) (q0 := 24) rfl rfl rfl kw_651 kw_648 kw_650 kw_18 kw_62 ⟨rfl, rfl⟩ (by decide +kernel) rfl ⟨Nat.le_of_ble_eq_true rfl, Nat.le_of_ble_eq_true rfl⟩ rfl (Nat.le_of_ble_eq_true rfl) dX7_askNode_9) hS (fun v1 σ2 H locs hP hS hf => ?_)
  refine lv_iload_n hx hb dX7_askNode_12 rfl (lv_at hl 2 rfl) ?_
  refine jk_u hf (fun res hres => jv_run hx hb hml hown hts hK hN c_hG c_hNW hl.1 (n := 2) (As := [.long v1, .int x2]) (rest := []) (c_cX1_setFolded l hap σ2 v1 x2 res hres) hP (ci := 1) (q0 := 22) rfl rfl rfl kw_539 kw_663 kw_537 kw_538 kw_60 ⟨rfl, rfl⟩ (by decide +kernel) rfl ⟨Nat.le_of_ble_eq_true rfl, Nat.le_of_ble_eq_true rfl⟩ rfl (Nat.le_of_ble_eq_true rfl) dX7_askNode_13) hS (fun σ4 H locs hP hS hf => ?_)
  refine lv_iload_n hx hb dX7_askNode_16 rfl (lv_at hl 1 rfl) ?_
  refine lv_iconst (v := 3) hx hb dX7_askNode_17 (by decide) ?_
  refine lv_imul hx hb dX7_askNode_18 ?_
  refine jn_i hf (fun v5 hf => ?_)
  refine lv_istore_n (lv' := [(3, .int v5), (0, .ref (ad 24)), (1, .int x1), (2, .int x2)]) hx hb dX7_askNode_19 rfl hl (by decide) rfl (fun ls hl => ?_)
  exact (q_cX7_askNode_b20 C hap) σ4 x1 v5 hf H locs ls hP hS (lv_sub hl [1, 2, 0] rfl)
theorem c_cX7_askNode (l : Launch) {dC : Nat → ClassId} {dI : Nat → Nat → Nat} {kA : Nat → ClassId} {ad : Nat → Nat} (hap : jw_ap 57 ad) (σ : RS) (x1 : Int32) (x2 : Int32) (res : RS) (hf : s_cX7_askNode σ x1 x2 = some res) : jm_u l KW NW (dC, dI) vwCl (jtys kA) (jw_A 57 ad) (c_w kA ad) yX7_askNode cX7_askNode 4 (rm_cX7_askNode) [.ref (ad 24), .int x1, .int x2] σ res := jm_u_of (by decide) (Nat.le_of_ble_eq_true rfl) (fun p e s m below meth c C hP hS ls hl => p_cX7_askNode C hap σ x1 x2 hf s.heap [] ls hP hS hl)

def rm_cX7_sumParts : Room := { frames := 44, cells := 0, slots := 0, locals := 1271 }
def G_cX7_sumParts_b59 (p : Program) (l : Launch) (e : Env) (s : State) (m : MethodId) (args : Array Value) (below : List Frame) (meth : Method) (c : Code) (dC : Nat → ClassId) (dI : Nat → Nat → Nat) (kA : Nat → ClassId) (ad : Nat → Nat) (res : RS) (F : RS → Int64 → Option (RS)) : Prop := ∀ (σ : RS) (x1 : Int64), F σ x1 = some res → ∀ (H : Heap) (locs : List Loc) (ls : Array Slot), va_P (dC, dI) vwCl (c_w kA ad σ) H → va_S (jw_A 57 ad) s.heap H locs → lv_has ls 4 [(0, .ref (ad 24)), (1, .long x1)] → W p l e rm_cX7_sumParts s m args below meth c H locs 0 0 (c_Qu below dC dI kA ad args s res) (F0 m 59 ls [])
def G_cX7_sumParts_b16 (p : Program) (l : Launch) (e : Env) (s : State) (m : MethodId) (args : Array Value) (below : List Frame) (meth : Method) (c : Code) (dC : Nat → ClassId) (dI : Nat → Nat → Nat) (kA : Nat → ClassId) (ad : Nat → Nat) (res : RS) (F : RS → Int64 → Int32 → Option (RS)) : Prop := ∀ (σ : RS) (x1 : Int64) (x3 : Int32), F σ x1 x3 = some res → ∀ (H : Heap) (locs : List Loc) (ls : Array Slot), va_P (dC, dI) vwCl (c_w kA ad σ) H → va_S (jw_A 57 ad) s.heap H locs → lv_has ls 4 [(0, .ref (ad 24)), (1, .long x1), (3, .int x3)] → W p l e rm_cX7_sumParts s m args below meth c H locs 0 0 (c_Qu below dC dI kA ad args s res) (F0 m 16 ls [])
def G_cX7_sumParts (p : Program) (l : Launch) (e : Env) (s : State) (m : MethodId) (args : Array Value) (below : List Frame) (meth : Method) (c : Code) (dC : Nat → ClassId) (dI : Nat → Nat → Nat) (kA : Nat → ClassId) (ad : Nat → Nat) (res : RS) (F : RS → Option (RS)) : Prop := ∀ (σ : RS), F σ = some res → ∀ (H : Heap) (locs : List Loc) (ls : Array Slot), va_P (dC, dI) vwCl (c_w kA ad σ) H → va_S (jw_A 57 ad) s.heap H locs → lv_has ls 4 [(0, .ref (ad 24))] → W p l e rm_cX7_sumParts s m args below meth c H locs 0 0 (c_Qu below dC dI kA ad args s res) (F0 m 0 ls [])
def s_cX7_sumParts_b59 (σ : RS) (x1 : Int64) : Option (RS) := kn_v (rs_L σ 0 x1) (fun σ1 => some σ1)
set_option maxRecDepth 100000 in
set_option maxHeartbeats 4000000 in
theorem p_cX7_sumParts_b59 {p : Program} {l : Launch} {e : Env} {s : State} {m : MethodId} {args : Array Value} {below : List Frame} {meth : Method} {c : Code} {dC : Nat → ClassId} {dI : Nat → Nat → Nat} {kA : Nat → ClassId} {ad : Nat → Nat} (C : jxc cX7_sumParts none 4 RX7 p s m args meth c dC dI kA) (hap : jw_ap 57 ad) {res : RS} : G_cX7_sumParts_b59 p l e s m args below meth c dC dI kA ad res (s_cX7_sumParts_b59) := by
  obtain ⟨hx, hb, hml, hown, hts, hr, hlocks, hK, hN⟩ := id C
  intro σ x1 hf H locs ls hP hS hl
  unfold s_cX7_sumParts_b59 at hf
  refine lv_aload_n hx hb dX7_sumParts_59 rfl (lv_at hl 0 rfl) ?_
  refine c_gX7_web hx hb hts hown hK hP (hts _ kw_332) dX7_sumParts_60 ?_
  refine lv_lload_n hx hb dX7_sumParts_63 rfl (lv_at hl 1 rfl) ?_
  refine c_pX10_sum hx hb hts hown hK hap hP hS hf (hts _ kw_151) dX7_sumParts_64 (fun σ1 H locs hP hS hf => ?_)
  exact jr_u hx hb hr hlocks hf hP hS dX7_sumParts_67
def s_cX7_sumParts_b16 (k16 : RS → Int64 → Int32 → Option (RS)) (σ : RS) (x1 : Int64) (x3 : Int32) : Option (RS) := if (rg_I σ 2) ≤ x3 then (s_cX7_sumParts_b59 σ x1) else (kn_l (s_cX0_comesTo σ 6 x3 (-1) 0) (fun v1 σ2 => kn_v (x1 + v1) (fun v3 => kn_i (s_cX2_is σ2) (fun v4 σ5 => if v4 = 0 then (kn_v (x3 + 1) (fun v6 => k16 σ5 v3 v6)) else some σ5))))
set_option maxRecDepth 100000 in
set_option maxHeartbeats 4000000 in
theorem p_cX7_sumParts_b16 {p : Program} {l : Launch} {e : Env} {s : State} {m : MethodId} {args : Array Value} {below : List Frame} {meth : Method} {c : Code} {dC : Nat → ClassId} {dI : Nat → Nat → Nat} {kA : Nat → ClassId} {ad : Nat → Nat} (C : jxc cX7_sumParts none 4 RX7 p s m args meth c dC dI kA) (hap : jw_ap 57 ad) {res : RS} {k16 : RS → Int64 → Int32 → Option (RS)} (hk16 : G_cX7_sumParts_b16 p l e s m args below meth c dC dI kA ad res k16) : G_cX7_sumParts_b16 p l e s m args below meth c dC dI kA ad res (s_cX7_sumParts_b16 k16) := by
  obtain ⟨hx, hb, hml, hown, hts, hr, hlocks, hK, hN⟩ := id C
  intro σ x1 x3 hf H locs ls hP hS hl
  unfold s_cX7_sumParts_b16 at hf
  refine lv_iload_n hx hb dX7_sumParts_16 rfl (lv_at hl 2 rfl) ?_
  refine lv_aload_n hx hb dX7_sumParts_17 rfl (lv_at hl 0 rfl) ?_
  refine c_gX7_web hx hb hts hown hK hP (hts _ kw_332) dX7_sumParts_18 ?_
  refine c_gX10_nodes hx hb hts hown hK hP (hts _ kw_137) dX7_sumParts_21 ?_
  refine jc_ge (tgt := 59) hx hb hf dX7_sumParts_24 (by decide) (fun hf => ?_) (fun hf => ?_)
  · exact (p_cX7_sumParts_b59 C hap) σ x1 hf H locs ls hP hS (lv_sub hl [0, 1] rfl)
  · refine lv_lload_n hx hb dX7_sumParts_27 rfl (lv_at hl 1 rfl) ?_
    refine lv_aload_n hx hb dX7_sumParts_28 rfl (lv_at hl 0 rfl) ?_
    refine c_gX7_actor hx hb hts hown hK hP (hts _ kw_333) dX7_sumParts_29 ?_
    refine lv_bipush (v := 6) hx hb dX7_sumParts_32 (by decide) ?_
    refine lv_iload_n hx hb dX7_sumParts_34 rfl (lv_at hl 2 rfl) ?_
    refine lv_iconst (v := (-1)) hx hb dX7_sumParts_35 (by decide) ?_
    refine lv_lconst (v := 0) hx hb dX7_sumParts_36 (by decide) ?_
    refine jk_l hf (fun res hres => jv_run hx hb hml hown hts hK hN c_hG c_hNW hl.1 (n := 4) (As := [.int 6, .int x3, .int (-1), .long 0]) (rest := [.long x1]) (c_cX0_comesTo l hap σ 6 x3 (-1) 0 res hres) hP (ci := 0) (q0 := 23) rfl rfl rfl kw_555 kw_634 kw_553 kw_554 kw_61 ⟨rfl, rfl⟩ (by decide +kernel) rfl ⟨Nat.le_of_ble_eq_true rfl, Nat.le_of_ble_eq_true rfl⟩ rfl (Nat.le_of_ble_eq_true rfl) dX7_sumParts_37) hS (fun v1 σ2 H locs hP hS hf => ?_)
    refine lv_ladd hx hb dX7_sumParts_40 ?_
    refine jn_l hf (fun v3 hf => ?_)
    refine lv_lstore_n (lv' := [(1, .long v3), (0, .ref (ad 24)), (3, .int x3)]) hx hb dX7_sumParts_41 rfl hl (by decide) rfl (fun ls hl => ?_)
    refine lv_aload_n hx hb dX7_sumParts_42 rfl (lv_at hl 1 rfl) ?_
    refine c_gX7_failure hx hb hts hown hK hP (hts _ kw_334) dX7_sumParts_43 ?_
    refine jk_i hf (fun res hres => jv_run hx hb hml hown hts hK hN c_hG c_hNW hl.1 (n := 0) (As := []) (rest := []) (c_cX2_is l hap σ2 res hres) hP (ci := 2) (q0 := 16) rfl rfl rfl kw_584 kw_635 kw_582 kw_583 kw_56 ⟨rfl, rfl⟩ (by decide +kernel) rfl ⟨Nat.le_of_ble_eq_true rfl, Nat.le_of_ble_eq_true rfl⟩ rfl (Nat.le_of_ble_eq_true rfl) dX7_sumParts_46) hS (fun v4 σ5 H locs hP hS hf => ?_)
    refine jb_eq (tgt := 53) hx hb hf dX7_sumParts_49 (by decide) (fun hf => ?_) (fun hf => ?_)
    · obtain ⟨v6, e_v6, hf⟩ := kn_v_e hf
      refine lv_iinc (v := v6) (lv' := [(3, .int v6), (1, .long v3), (0, .ref (ad 24))]) hx hb dX7_sumParts_53 hl (k := 2) rfl e_v6 (by decide) rfl (fun ls hl => ?_)
      refine lv_goto (tgt := 16) hx hb dX7_sumParts_56 (by decide) ?_
      exact hk16 σ5 v3 v6 hf H locs ls hP hS (lv_sub hl [2, 1, 0] rfl)
    · exact jr_u hx hb hr hlocks hf hP hS dX7_sumParts_52
def f_cX7_sumParts_b16 : RS → Int64 → Int32 → Option (RS) := kn_fix (fun _ _ _ => none) (s_cX7_sumParts_b16) FU
theorem q_cX7_sumParts_b16 {p : Program} {l : Launch} {e : Env} {s : State} {m : MethodId} {args : Array Value} {below : List Frame} {meth : Method} {c : Code} {dC : Nat → ClassId} {dI : Nat → Nat → Nat} {kA : Nat → ClassId} {ad : Nat → Nat} (C : jxc cX7_sumParts none 4 RX7 p s m args meth c dC dI kA) (hap : jw_ap 57 ad) {res : RS} : G_cX7_sumParts_b16 p l e s m args below meth c dC dI kA ad res (f_cX7_sumParts_b16) := kn_fix_ind (G := fun F => G_cX7_sumParts_b16 p l e s m args below meth c dC dI kA ad res F) (fun _ _ _ hf => by cases hf) (fun k16 hk16 => p_cX7_sumParts_b16 C hap hk16) FU
def s_cX7_sumParts (σ : RS) : Option (RS) := kn_u (s_cX1_setFolded σ 0 0) (fun σ2 => f_cX7_sumParts_b16 σ2 0 0)
set_option maxRecDepth 100000 in
set_option maxHeartbeats 4000000 in
theorem p_cX7_sumParts {p : Program} {l : Launch} {e : Env} {s : State} {m : MethodId} {args : Array Value} {below : List Frame} {meth : Method} {c : Code} {dC : Nat → ClassId} {dI : Nat → Nat → Nat} {kA : Nat → ClassId} {ad : Nat → Nat} (C : jxc cX7_sumParts none 4 RX7 p s m args meth c dC dI kA) (hap : jw_ap 57 ad) {res : RS} : G_cX7_sumParts p l e s m args below meth c dC dI kA ad res (s_cX7_sumParts) := by
  obtain ⟨hx, hb, hml, hown, hts, hr, hlocks, hK, hN⟩ := id C
  intro σ hf H locs ls hP hS hl
  unfold s_cX7_sumParts at hf
  refine lv_aload_n hx hb dX7_sumParts_0 rfl (lv_at hl 0 rfl) ?_
  refine c_gX7_actor hx hb hts hown hK hP (hts _ kw_333) dX7_sumParts_1 ?_
  refine c_gX0_asker hx hb hts hown hK hP (hts _ kw_313) dX7_sumParts_4 ?_
  refine lv_lconst (v := 0) hx hb dX7_sumParts_7 (by decide) ?_
  refine lv_iconst (v := 0) hx hb dX7_sumParts_8 (by decide) ?_
  refine jk_u hf (fun res hres => jv_run hx hb hml hown hts hK hN c_hG c_hNW hl.1 (n := 2) (As := [.long 0, .int 0]) (rest := []) (c_cX1_setFolded l hap σ 0 0 res hres) hP (ci := 1) (q0 := 22) rfl rfl rfl kw_539 kw_663 kw_537 kw_538 kw_60 ⟨rfl, rfl⟩ (by decide +kernel) rfl ⟨Nat.le_of_ble_eq_true rfl, Nat.le_of_ble_eq_true rfl⟩ rfl (Nat.le_of_ble_eq_true rfl) dX7_sumParts_9) hS (fun σ2 H locs hP hS hf => ?_)
  refine lv_lconst (v := 0) hx hb dX7_sumParts_12 (by decide) ?_
  refine lv_lstore_n (lv' := [(1, .long 0), (0, .ref (ad 24))]) hx hb dX7_sumParts_13 rfl hl (by decide) rfl (fun ls hl => ?_)
  refine lv_iconst (v := 0) hx hb dX7_sumParts_14 (by decide) ?_
  refine lv_istore_n (lv' := [(3, .int 0), (1, .long 0), (0, .ref (ad 24))]) hx hb dX7_sumParts_15 rfl hl (by decide) rfl (fun ls hl => ?_)
  exact (q_cX7_sumParts_b16 C hap) σ2 0 0 hf H locs ls hP hS (lv_sub hl [2, 1, 0] rfl)
theorem c_cX7_sumParts (l : Launch) {dC : Nat → ClassId} {dI : Nat → Nat → Nat} {kA : Nat → ClassId} {ad : Nat → Nat} (hap : jw_ap 57 ad) (σ : RS) (res : RS) (hf : s_cX7_sumParts σ = some res) : jm_u l KW NW (dC, dI) vwCl (jtys kA) (jw_A 57 ad) (c_w kA ad) yX7_sumParts cX7_sumParts 4 (rm_cX7_sumParts) [.ref (ad 24)] σ res := jm_u_of (by decide) (Nat.le_of_ble_eq_true rfl) (fun p e s m below meth c C hP hS ls hl => p_cX7_sumParts C hap σ hf s.heap [] ls hP hS hl)

def rm_cX3_sendOn : Room := { frames := 45, cells := 0, slots := 0, locals := 1296 }
def G_cX3_sendOn_b32 (p : Program) (l : Launch) (e : Env) (s : State) (m : MethodId) (args : Array Value) (below : List Frame) (meth : Method) (c : Code) (dC : Nat → ClassId) (dI : Nat → Nat → Nat) (kA : Nat → ClassId) (ad : Nat → Nat) (res : RS) (F : RS → Int32 → Int32 → Option (RS)) : Prop := ∀ (σ : RS) (x1 : Int32) (x2 : Int32), F σ x1 x2 = some res → ∀ (H : Heap) (locs : List Loc) (ls : Array Slot), va_P (dC, dI) vwCl (c_w kA ad σ) H → va_S (jw_A 57 ad) s.heap H locs → lv_has ls 3 [(0, .ref (ad 31)), (1, .int x1), (2, .int x2)] → W p l e rm_cX3_sendOn s m args below meth c H locs 0 0 (c_Qu below dC dI kA ad args s res) (F0 m 32 ls [])
def G_cX3_sendOn_b2 (p : Program) (l : Launch) (e : Env) (s : State) (m : MethodId) (args : Array Value) (below : List Frame) (meth : Method) (c : Code) (dC : Nat → ClassId) (dI : Nat → Nat → Nat) (kA : Nat → ClassId) (ad : Nat → Nat) (res : RS) (F : RS → Int32 → Int32 → Option (RS)) : Prop := ∀ (σ : RS) (x1 : Int32) (x2 : Int32), F σ x1 x2 = some res → ∀ (H : Heap) (locs : List Loc) (ls : Array Slot), va_P (dC, dI) vwCl (c_w kA ad σ) H → va_S (jw_A 57 ad) s.heap H locs → lv_has ls 3 [(0, .ref (ad 31)), (1, .int x1), (2, .int x2)] → W p l e rm_cX3_sendOn s m args below meth c H locs 0 0 (c_Qu below dC dI kA ad args s res) (F0 m 2 ls [])
def G_cX3_sendOn (p : Program) (l : Launch) (e : Env) (s : State) (m : MethodId) (args : Array Value) (below : List Frame) (meth : Method) (c : Code) (dC : Nat → ClassId) (dI : Nat → Nat → Nat) (kA : Nat → ClassId) (ad : Nat → Nat) (res : RS) (F : RS → Int32 → Option (RS)) : Prop := ∀ (σ : RS) (x1 : Int32), F σ x1 = some res → ∀ (H : Heap) (locs : List Loc) (ls : Array Slot), va_P (dC, dI) vwCl (c_w kA ad σ) H → va_S (jw_A 57 ad) s.heap H locs → lv_has ls 3 [(0, .ref (ad 31)), (1, .int x1)] → W p l e rm_cX3_sendOn s m args below meth c H locs 0 0 (c_Qu below dC dI kA ad args s res) (F0 m 0 ls [])
def s_cX3_sendOn_b32 (k2 : RS → Int32 → Int32 → Option (RS)) (σ : RS) (x1 : Int32) (x2 : Int32) : Option (RS) := kn_i (s_cX2_is σ) (fun v1 σ2 => if v1 = 0 then (kn_v (x2 + 1) (fun v3 => k2 σ2 x1 v3)) else some σ2)
set_option maxRecDepth 100000 in
set_option maxHeartbeats 4000000 in
theorem p_cX3_sendOn_b32 {p : Program} {l : Launch} {e : Env} {s : State} {m : MethodId} {args : Array Value} {below : List Frame} {meth : Method} {c : Code} {dC : Nat → ClassId} {dI : Nat → Nat → Nat} {kA : Nat → ClassId} {ad : Nat → Nat} (C : jxc cX3_sendOn none 3 RX3 p s m args meth c dC dI kA) (hap : jw_ap 57 ad) {res : RS} {k2 : RS → Int32 → Int32 → Option (RS)} (hk2 : G_cX3_sendOn_b2 p l e s m args below meth c dC dI kA ad res k2) : G_cX3_sendOn_b32 p l e s m args below meth c dC dI kA ad res (s_cX3_sendOn_b32 k2) := by
  obtain ⟨hx, hb, hml, hown, hts, hr, hlocks, hK, hN⟩ := id C
  intro σ x1 x2 hf H locs ls hP hS hl
  unfold s_cX3_sendOn_b32 at hf
  refine lv_aload_n hx hb dX3_sendOn_32 rfl (lv_at hl 0 rfl) ?_
  refine c_gX3_failure hx hb hts hown hK hP (hts _ kw_377) dX3_sendOn_33 ?_
  refine jk_i hf (fun res hres => jv_run hx hb hml hown hts hK hN c_hG c_hNW hl.1 (n := 0) (As := []) (rest := []) (c_cX2_is l hap σ res hres) hP (ci := 2) (q0 := 16) rfl rfl rfl kw_584 kw_581 kw_582 kw_583 kw_56 ⟨rfl, rfl⟩ (by decide +kernel) rfl ⟨Nat.le_of_ble_eq_true rfl, Nat.le_of_ble_eq_true rfl⟩ rfl (Nat.le_of_ble_eq_true rfl) dX3_sendOn_36) hS (fun v1 σ2 H locs hP hS hf => ?_)
  refine jb_eq (tgt := 43) hx hb hf dX3_sendOn_39 (by decide) (fun hf => ?_) (fun hf => ?_)
  · obtain ⟨v3, e_v3, hf⟩ := kn_v_e hf
    refine lv_iinc (v := v3) (lv' := [(2, .int v3), (0, .ref (ad 31)), (1, .int x1)]) hx hb dX3_sendOn_43 hl (k := 2) rfl e_v3 (by decide) rfl (fun ls hl => ?_)
    refine lv_goto (tgt := 2) hx hb dX3_sendOn_46 (by decide) ?_
    exact hk2 σ2 x1 v3 hf H locs ls hP hS (lv_sub hl [1, 2, 0] rfl)
  · exact jr_u hx hb hr hlocks hf hP hS dX3_sendOn_42
def s_cX3_sendOn_b2 (k2 : RS → Int32 → Int32 → Option (RS)) (σ : RS) (x1 : Int32) (x2 : Int32) : Option (RS) := if (rg_I σ 3) ≤ x2 then some σ else (kn_ld (rg_A σ 6) 40 x2 (fun v1 => if v1 = x1 then (kn_u (s_cX3_sendAlong σ x1 x2) (fun σ3 => s_cX3_sendOn_b32 k2 σ3 x1 x2)) else (s_cX3_sendOn_b32 k2 σ x1 x2)))
set_option maxRecDepth 100000 in
set_option maxHeartbeats 4000000 in
theorem p_cX3_sendOn_b2 {p : Program} {l : Launch} {e : Env} {s : State} {m : MethodId} {args : Array Value} {below : List Frame} {meth : Method} {c : Code} {dC : Nat → ClassId} {dI : Nat → Nat → Nat} {kA : Nat → ClassId} {ad : Nat → Nat} (C : jxc cX3_sendOn none 3 RX3 p s m args meth c dC dI kA) (hap : jw_ap 57 ad) {res : RS} {k2 : RS → Int32 → Int32 → Option (RS)} (hk2 : G_cX3_sendOn_b2 p l e s m args below meth c dC dI kA ad res k2) : G_cX3_sendOn_b2 p l e s m args below meth c dC dI kA ad res (s_cX3_sendOn_b2 k2) := by
  obtain ⟨hx, hb, hml, hown, hts, hr, hlocks, hK, hN⟩ := id C
  intro σ x1 x2 hf H locs ls hP hS hl
  unfold s_cX3_sendOn_b2 at hf
  refine lv_iload_n hx hb dX3_sendOn_2 rfl (lv_at hl 2 rfl) ?_
  refine lv_aload_n hx hb dX3_sendOn_3 rfl (lv_at hl 0 rfl) ?_
  refine c_gX3_web hx hb hts hown hK hP (hts _ kw_375) dX3_sendOn_4 ?_
  refine c_gX10_arcs hx hb hts hown hK hP (hts _ kw_140) dX3_sendOn_7 ?_
  refine jc_ge (tgt := 49) hx hb hf dX3_sendOn_10 (by decide) (fun hf => ?_) (fun hf => ?_)
  · exact jr_u hx hb hr hlocks hf hP hS dX3_sendOn_49
  · refine lv_aload_n hx hb dX3_sendOn_13 rfl (lv_at hl 0 rfl) ?_
    refine c_gX3_web hx hb hts hown hK hP (hts _ kw_375) dX3_sendOn_14 ?_
    refine c_gX10_from hx hb hts hown hK hP (hts _ kw_128) dX3_sendOn_17 ?_
    refine lv_iload_n hx hb dX3_sendOn_20 rfl (lv_at hl 2 rfl) ?_
    refine ja_ild hx hb hK hP 11 0 rfl rfl hf dX3_sendOn_21 (fun v1 hf => ?_)
    refine lv_iload_n hx hb dX3_sendOn_22 rfl (lv_at hl 1 rfl) ?_
    refine jc_ne (tgt := 32) hx hb hf dX3_sendOn_23 (by decide) (fun hf => ?_) (fun hf => ?_)
    · exact (p_cX3_sendOn_b32 C hap hk2) σ x1 x2 hf H locs ls hP hS (lv_sub hl [0, 1, 2] rfl)
    · refine lv_aload_n hx hb dX3_sendOn_26 rfl (lv_at hl 0 rfl) ?_
      refine lv_iload_n hx hb dX3_sendOn_27 rfl (lv_at hl 1 rfl) ?_
      refine lv_iload_n hx hb dX3_sendOn_28 rfl (lv_at hl 2 rfl) ?_
      refine jk_u hf (fun res hres => jv_run hx hb hml hown hts hK hN c_hG c_hNW hl.1 (n := 2) (As := [.int x1, .int x2]) (rest := []) (c_cX3_sendAlong l hap σ x1 x2 res hres) hP (ci := 3) (q0 := 31) rfl rfl rfl kw_551 kw_548 kw_550 kw_3 kw_63 ⟨rfl, rfl⟩ (by decide +kernel) rfl ⟨Nat.le_of_ble_eq_true rfl, Nat.le_of_ble_eq_true rfl⟩ rfl (Nat.le_of_ble_eq_true rfl) dX3_sendOn_29) hS (fun σ3 H locs hP hS hf => ?_)
      exact (p_cX3_sendOn_b32 C hap hk2) σ3 x1 x2 hf H locs ls hP hS (lv_sub hl [0, 1, 2] rfl)
def f_cX3_sendOn_b2 : RS → Int32 → Int32 → Option (RS) := kn_fix (fun _ _ _ => none) (s_cX3_sendOn_b2) FU
theorem q_cX3_sendOn_b2 {p : Program} {l : Launch} {e : Env} {s : State} {m : MethodId} {args : Array Value} {below : List Frame} {meth : Method} {c : Code} {dC : Nat → ClassId} {dI : Nat → Nat → Nat} {kA : Nat → ClassId} {ad : Nat → Nat} (C : jxc cX3_sendOn none 3 RX3 p s m args meth c dC dI kA) (hap : jw_ap 57 ad) {res : RS} : G_cX3_sendOn_b2 p l e s m args below meth c dC dI kA ad res (f_cX3_sendOn_b2) := kn_fix_ind (G := fun F => G_cX3_sendOn_b2 p l e s m args below meth c dC dI kA ad res F) (fun _ _ _ hf => by cases hf) (fun k2 hk2 => p_cX3_sendOn_b2 C hap hk2) FU
def s_cX3_sendOn (σ : RS) (x1 : Int32) : Option (RS) := f_cX3_sendOn_b2 σ x1 0
set_option maxRecDepth 100000 in
set_option maxHeartbeats 4000000 in
theorem p_cX3_sendOn {p : Program} {l : Launch} {e : Env} {s : State} {m : MethodId} {args : Array Value} {below : List Frame} {meth : Method} {c : Code} {dC : Nat → ClassId} {dI : Nat → Nat → Nat} {kA : Nat → ClassId} {ad : Nat → Nat} (C : jxc cX3_sendOn none 3 RX3 p s m args meth c dC dI kA) (hap : jw_ap 57 ad) {res : RS} : G_cX3_sendOn p l e s m args below meth c dC dI kA ad res (s_cX3_sendOn) := by
  obtain ⟨hx, hb, hml, hown, hts, hr, hlocks, hK, hN⟩ := id C
  intro σ x1 hf H locs ls hP hS hl
  unfold s_cX3_sendOn at hf
  refine lv_iconst (v := 0) hx hb dX3_sendOn_0 (by decide) ?_
  refine lv_istore_n (lv' := [(2, .int 0), (0, .ref (ad 31)), (1, .int x1)]) hx hb dX3_sendOn_1 rfl hl (by decide) rfl (fun ls hl => ?_)
  exact (q_cX3_sendOn_b2 C hap) σ x1 0 hf H locs ls hP hS (lv_sub hl [1, 2, 0] rfl)
theorem c_cX3_sendOn (l : Launch) {dC : Nat → ClassId} {dI : Nat → Nat → Nat} {kA : Nat → ClassId} {ad : Nat → Nat} (hap : jw_ap 57 ad) (σ : RS) (x1 : Int32) (res : RS) (hf : s_cX3_sendOn σ x1 = some res) : jm_u l KW NW (dC, dI) vwCl (jtys kA) (jw_A 57 ad) (c_w kA ad) yX3_sendOn cX3_sendOn 3 (rm_cX3_sendOn) [.ref (ad 31), .int x1] σ res := jm_u_of (by decide) (Nat.le_of_ble_eq_true rfl) (fun p e s m below meth c C hP hS ls hl => p_cX3_sendOn C hap σ x1 hf s.heap [] ls hP hS hl)

def rm_cX3_isDone : Room := { frames := 46, cells := 0, slots := 0, locals := 1318 }
def G_cX3_isDone_b139 (p : Program) (l : Launch) (e : Env) (s : State) (m : MethodId) (args : Array Value) (below : List Frame) (meth : Method) (c : Code) (dC : Nat → ClassId) (dI : Nat → Nat → Nat) (kA : Nat → ClassId) (ad : Nat → Nat) (res : Int32 × RS) (F : RS → Int32 → Option (Int32 × RS)) : Prop := ∀ (σ : RS) (x4 : Int32), F σ x4 = some res → ∀ (H : Heap) (locs : List Loc) (ls : Array Slot), va_P (dC, dI) vwCl (c_w kA ad σ) H → va_S (jw_A 57 ad) s.heap H locs → lv_has ls 6 [(0, .ref (ad 31)), (4, .int x4)] → W p l e rm_cX3_isDone s m args below meth c H locs 0 0 (c_Qi below dC dI kA ad args s res) (F0 m 139 ls [])
def G_cX3_isDone_b104 (p : Program) (l : Launch) (e : Env) (s : State) (m : MethodId) (args : Array Value) (below : List Frame) (meth : Method) (c : Code) (dC : Nat → ClassId) (dI : Nat → Nat → Nat) (kA : Nat → ClassId) (ad : Nat → Nat) (res : Int32 × RS) (F : RS → Int32 → Int32 → Option (Int32 × RS)) : Prop := ∀ (σ : RS) (x4 : Int32) (s0 : Int32), F σ x4 s0 = some res → ∀ (H : Heap) (locs : List Loc) (ls : Array Slot), va_P (dC, dI) vwCl (c_w kA ad σ) H → va_S (jw_A 57 ad) s.heap H locs → lv_has ls 6 [(0, .ref (ad 31)), (4, .int x4)] → W p l e rm_cX3_isDone s m args below meth c H locs 0 0 (c_Qi below dC dI kA ad args s res) (F0 m 104 ls [.int s0])
def G_cX3_isDone_b103 (p : Program) (l : Launch) (e : Env) (s : State) (m : MethodId) (args : Array Value) (below : List Frame) (meth : Method) (c : Code) (dC : Nat → ClassId) (dI : Nat → Nat → Nat) (kA : Nat → ClassId) (ad : Nat → Nat) (res : Int32 × RS) (F : RS → Int32 → Option (Int32 × RS)) : Prop := ∀ (σ : RS) (x4 : Int32), F σ x4 = some res → ∀ (H : Heap) (locs : List Loc) (ls : Array Slot), va_P (dC, dI) vwCl (c_w kA ad σ) H → va_S (jw_A 57 ad) s.heap H locs → lv_has ls 6 [(0, .ref (ad 31)), (4, .int x4)] → W p l e rm_cX3_isDone s m args below meth c H locs 0 0 (c_Qi below dC dI kA ad args s res) (F0 m 103 ls [])
def G_cX3_isDone (p : Program) (l : Launch) (e : Env) (s : State) (m : MethodId) (args : Array Value) (below : List Frame) (meth : Method) (c : Code) (dC : Nat → ClassId) (dI : Nat → Nat → Nat) (kA : Nat → ClassId) (ad : Nat → Nat) (res : Int32 × RS) (F : RS → Int32 → Int64 → Option (Int32 × RS)) : Prop := ∀ (σ : RS) (x1 : Int32) (x2 : Int64), F σ x1 x2 = some res → ∀ (H : Heap) (locs : List Loc) (ls : Array Slot), va_P (dC, dI) vwCl (c_w kA ad σ) H → va_S (jw_A 57 ad) s.heap H locs → lv_has ls 6 [(0, .ref (ad 31)), (1, .int x1), (2, .long x2)] → W p l e rm_cX3_isDone s m args below meth c H locs 0 0 (c_Qi below dC dI kA ad args s res) (F0 m 0 ls [])
def s_cX3_isDone_b139 (σ : RS) (x4 : Int32) : Option (Int32 × RS) := kn_i (s_cX2_is σ) (fun v1 σ2 => if v1 = 0 then (some (1, σ2)) else (kn_cp 3 36 (0 : Int32) (x4 * 3) (3 : Int32) (rs_B σ2 1 (va_cpy (rg_B σ2 8) (rg_B σ2 1) (0 : Int32).toNatClampNeg (x4 * 3).toNatClampNeg (3 : Int32).toNatClampNeg)) (fun σ3 => some (0, σ3))))
set_option maxRecDepth 100000 in
set_option maxHeartbeats 4000000 in
theorem p_cX3_isDone_b139 {p : Program} {l : Launch} {e : Env} {s : State} {m : MethodId} {args : Array Value} {below : List Frame} {meth : Method} {c : Code} {dC : Nat → ClassId} {dI : Nat → Nat → Nat} {kA : Nat → ClassId} {ad : Nat → Nat} (C : jxc cX3_isDone (some .boolean) 6 RX3 p s m args meth c dC dI kA) (hap : jw_ap 57 ad) {res : Int32 × RS} : G_cX3_isDone_b139 p l e s m args below meth c dC dI kA ad res (s_cX3_isDone_b139) := by
  obtain ⟨hx, hb, hml, hown, hts, hr, hlocks, hK, hN⟩ := id C
  intro σ x4 hf H locs ls hP hS hl
  unfold s_cX3_isDone_b139 at hf
  refine lv_aload_n hx hb dX3_isDone_139 rfl (lv_at hl 0 rfl) ?_
  refine c_gX3_failure hx hb hts hown hK hP (hts _ kw_377) dX3_isDone_140 ?_
  refine jk_i hf (fun res hres => jv_run hx hb hml hown hts hK hN c_hG c_hNW hl.1 (n := 0) (As := []) (rest := []) (c_cX2_is l hap σ res hres) hP (ci := 2) (q0 := 16) rfl rfl rfl kw_584 kw_581 kw_582 kw_583 kw_56 ⟨rfl, rfl⟩ (by decide +kernel) rfl ⟨Nat.le_of_ble_eq_true rfl, Nat.le_of_ble_eq_true rfl⟩ rfl (Nat.le_of_ble_eq_true rfl) dX3_isDone_143) hS (fun v1 σ2 H locs hP hS hf => ?_)
  refine jb_ne (tgt := 151) hx hb hf dX3_isDone_146 (by decide) (fun hf => ?_) (fun hf => ?_)
  · refine lv_aload_n hx hb dX3_isDone_151 rfl (lv_at hl 0 rfl) ?_
    refine c_gX3_oldStates hx hb hts hown hK hP (hts _ kw_383) dX3_isDone_152 ?_
    refine lv_iconst (v := 0) hx hb dX3_isDone_155 (by decide) ?_
    refine lv_aload_n hx hb dX3_isDone_156 rfl (lv_at hl 0 rfl) ?_
    refine c_gX3_web hx hb hts hown hK hP (hts _ kw_375) dX3_isDone_157 ?_
    refine c_gX10_states hx hb hts hown hK hP (hts _ kw_118) dX3_isDone_160 ?_
    refine lv_iload hx hb dX3_isDone_163 (lv_at hl 1 rfl) ?_
    refine lv_iconst (v := 3) hx hb dX3_isDone_165 (by decide) ?_
    refine lv_imul hx hb dX3_isDone_166 ?_
    refine lv_iconst (v := 3) hx hb dX3_isDone_167 (by decide) ?_
    refine ja_cpl hx hb (hml.trans hl.1.symm) hown (hts _ kw_590) (hts _ kw_531) (hts _ kw_530) (hts _ kw_65) hK (c_D hap σ2) hP hS 35 8 1 rfl rfl rfl c_sB1 hf (Nat.le_of_ble_eq_true rfl) (Nat.le_of_ble_eq_true rfl) dX3_isDone_168 (fun σ3 H locs hP hS hf => ?_)
    refine lv_iconst (v := 0) hx hb dX3_isDone_171 (by decide) ?_
    exact jr_i hx hb hr hlocks hf (by decide) hP hS dX3_isDone_172
  · refine lv_iconst (v := 1) hx hb dX3_isDone_149 (by decide) ?_
    exact jr_i hx hb hr hlocks hf (by decide) hP hS dX3_isDone_150
def s_cX3_isDone_b104 (σ : RS) (x4 : Int32) (s0 : Int32) : Option (Int32 × RS) := kn_u (s_cX1_setFolded σ 0 0) (fun σ2 => kn_i (s_cX2_is σ2) (fun v3 σ4 => if v3 = 0 then (if s0 = 0 then (kn_u (s_cX3_sendOn σ4 x4) (fun σ6 => s_cX3_isDone_b139 σ6 x4)) else (s_cX3_isDone_b139 σ4 x4)) else (s_cX3_isDone_b139 σ4 x4)))
set_option maxRecDepth 100000 in
set_option maxHeartbeats 4000000 in
theorem p_cX3_isDone_b104 {p : Program} {l : Launch} {e : Env} {s : State} {m : MethodId} {args : Array Value} {below : List Frame} {meth : Method} {c : Code} {dC : Nat → ClassId} {dI : Nat → Nat → Nat} {kA : Nat → ClassId} {ad : Nat → Nat} (C : jxc cX3_isDone (some .boolean) 6 RX3 p s m args meth c dC dI kA) (hap : jw_ap 57 ad) {res : Int32 × RS} : G_cX3_isDone_b104 p l e s m args below meth c dC dI kA ad res (s_cX3_isDone_b104) := by
  obtain ⟨hx, hb, hml, hown, hts, hr, hlocks, hK, hN⟩ := id C
  intro σ x4 s0 hf H locs ls hP hS hl
  unfold s_cX3_isDone_b104 at hf
  refine lv_istore (lv' := [(5, .int s0), (0, .ref (ad 31)), (4, .int x4)]) hx hb dX3_isDone_104 hl (by decide) rfl (fun ls hl => ?_)
  refine lv_aload_n hx hb dX3_isDone_106 rfl (lv_at hl 1 rfl) ?_
  refine c_gX3_actor hx hb hts hown hK hP (hts _ kw_376) dX3_isDone_107 ?_
  refine c_gX0_asker hx hb hts hown hK hP (hts _ kw_312) dX3_isDone_110 ?_
  refine lv_lconst (v := 0) hx hb dX3_isDone_113 (by decide) ?_
  refine lv_iconst (v := 0) hx hb dX3_isDone_114 (by decide) ?_
  refine jk_u hf (fun res hres => jv_run hx hb hml hown hts hK hN c_hG c_hNW hl.1 (n := 2) (As := [.long 0, .int 0]) (rest := []) (c_cX1_setFolded l hap σ 0 0 res hres) hP (ci := 1) (q0 := 22) rfl rfl rfl kw_539 kw_591 kw_537 kw_538 kw_60 ⟨rfl, rfl⟩ (by decide +kernel) rfl ⟨Nat.le_of_ble_eq_true rfl, Nat.le_of_ble_eq_true rfl⟩ rfl (Nat.le_of_ble_eq_true rfl) dX3_isDone_115) hS (fun σ2 H locs hP hS hf => ?_)
  refine lv_aload_n hx hb dX3_isDone_118 rfl (lv_at hl 1 rfl) ?_
  refine c_gX3_failure hx hb hts hown hK hP (hts _ kw_377) dX3_isDone_119 ?_
  refine jk_i hf (fun res hres => jv_run hx hb hml hown hts hK hN c_hG c_hNW hl.1 (n := 0) (As := []) (rest := []) (c_cX2_is l hap σ2 res hres) hP (ci := 2) (q0 := 16) rfl rfl rfl kw_584 kw_581 kw_582 kw_583 kw_56 ⟨rfl, rfl⟩ (by decide +kernel) rfl ⟨Nat.le_of_ble_eq_true rfl, Nat.le_of_ble_eq_true rfl⟩ rfl (Nat.le_of_ble_eq_true rfl) dX3_isDone_122) hS (fun v3 σ4 H locs hP hS hf => ?_)
  refine jb_ne (tgt := 139) hx hb hf dX3_isDone_125 (by decide) (fun hf => ?_) (fun hf => ?_)
  · exact (p_cX3_isDone_b139 C hap) σ4 x4 hf H locs ls hP hS (lv_sub hl [1, 2] rfl)
  · refine lv_iload hx hb dX3_isDone_128 (lv_at hl 0 rfl) ?_
    refine jb_ne (tgt := 139) hx hb hf dX3_isDone_130 (by decide) (fun hf => ?_) (fun hf => ?_)
    · exact (p_cX3_isDone_b139 C hap) σ4 x4 hf H locs ls hP hS (lv_sub hl [1, 2] rfl)
    · refine lv_aload_n hx hb dX3_isDone_133 rfl (lv_at hl 1 rfl) ?_
      refine lv_iload hx hb dX3_isDone_134 (lv_at hl 2 rfl) ?_
      refine jk_u hf (fun res hres => jv_run hx hb hml hown hts hK hN c_hG c_hNW hl.1 (n := 1) (As := [.int x4]) (rest := []) (c_cX3_sendOn l hap σ4 x4 res hres) hP (ci := 3) (q0 := 31) rfl rfl rfl kw_547 kw_544 kw_546 kw_2 kw_63 ⟨rfl, rfl⟩ (by decide +kernel) rfl ⟨Nat.le_of_ble_eq_true rfl, Nat.le_of_ble_eq_true rfl⟩ rfl (Nat.le_of_ble_eq_true rfl) dX3_isDone_136) hS (fun σ6 H locs hP hS hf => ?_)
      exact (p_cX3_isDone_b139 C hap) σ6 x4 hf H locs ls hP hS (lv_sub hl [1, 2] rfl)
def s_cX3_isDone_b103 (σ : RS) (x4 : Int32) : Option (Int32 × RS) := s_cX3_isDone_b104 σ x4 0
set_option maxRecDepth 100000 in
set_option maxHeartbeats 4000000 in
theorem p_cX3_isDone_b103 {p : Program} {l : Launch} {e : Env} {s : State} {m : MethodId} {args : Array Value} {below : List Frame} {meth : Method} {c : Code} {dC : Nat → ClassId} {dI : Nat → Nat → Nat} {kA : Nat → ClassId} {ad : Nat → Nat} (C : jxc cX3_isDone (some .boolean) 6 RX3 p s m args meth c dC dI kA) (hap : jw_ap 57 ad) {res : Int32 × RS} : G_cX3_isDone_b103 p l e s m args below meth c dC dI kA ad res (s_cX3_isDone_b103) := by
  obtain ⟨hx, hb, hml, hown, hts, hr, hlocks, hK, hN⟩ := id C
  intro σ x4 hf H locs ls hP hS hl
  unfold s_cX3_isDone_b103 at hf
  refine lv_iconst (v := 0) hx hb dX3_isDone_103 (by decide) ?_
  exact (p_cX3_isDone_b104 C hap) σ x4 0 hf H locs ls hP hS (lv_sub hl [0, 1] rfl)
def s_cX3_isDone (σ : RS) (x1 : Int32) (x2 : Int64) : Option (Int32 × RS) := kn_v (rs_I σ 19 (((rg_I σ 19) + 1) - ((rg_I σ 19) + 1) / 60 * 60)) (fun σ1 => kn_v (rs_I σ1 20 ((rg_I σ1 20) - 1)) (fun σ2 => kn_ld (rg_A σ2 7) 40 x1 (fun v3 => kn_cp 36 3 (v3 * 3) (0 : Int32) (3 : Int32) (rs_B σ2 8 (va_cpy (rg_B σ2 1) (rg_B σ2 8) (v3 * 3).toNatClampNeg (0 : Int32).toNatClampNeg (3 : Int32).toNatClampNeg)) (fun σ4 => kn_u (s_cX1_setFolded σ4 x2 1) (fun σ6 => kn_u (s_cX3_takeStates σ6 v3) (fun σ8 => kn_i (s_cX2_is σ8) (fun v9 σ10 => if v9 = 0 then (kn_l (s_cX0_comesTo σ10 5 v3 (-1) 0) (fun v11 σ12 => if v11 = 0 then (s_cX3_isDone_b103 σ12 v3) else (s_cX3_isDone_b104 σ12 v3 1))) else (s_cX3_isDone_b103 σ10 v3))))))))
set_option maxRecDepth 100000 in
set_option maxHeartbeats 4000000 in
theorem p_cX3_isDone {p : Program} {l : Launch} {e : Env} {s : State} {m : MethodId} {args : Array Value} {below : List Frame} {meth : Method} {c : Code} {dC : Nat → ClassId} {dI : Nat → Nat → Nat} {kA : Nat → ClassId} {ad : Nat → Nat} (C : jxc cX3_isDone (some .boolean) 6 RX3 p s m args meth c dC dI kA) (hap : jw_ap 57 ad) {res : Int32 × RS} : G_cX3_isDone p l e s m args below meth c dC dI kA ad res (s_cX3_isDone) := by
  obtain ⟨hx, hb, hml, hown, hts, hr, hlocks, hK, hN⟩ := id C
  intro σ x1 x2 hf H locs ls hP hS hl
  unfold s_cX3_isDone at hf
  refine lv_aload_n hx hb dX3_isDone_0 rfl (lv_at hl 0 rfl) ?_
  refine lv_aload_n hx hb dX3_isDone_1 rfl (lv_at hl 0 rfl) ?_
  refine c_gX3_first hx hb hts hown hK hP (hts _ kw_384) dX3_isDone_2 ?_
  refine lv_iconst (v := 1) hx hb dX3_isDone_5 (by decide) ?_
  refine lv_iadd hx hb dX3_isDone_6 ?_
  refine lv_bipush (v := 60) hx hb dX3_isDone_7 (by decide) ?_
  refine lv_irem hx hb dX3_isDone_9 (by decide) ?_
  refine c_pX3_first hx hb hts hown hK hap hP hS hf (hts _ kw_384) dX3_isDone_10 (fun σ1 H locs hP hS hf => ?_)
  refine lv_aload_n hx hb dX3_isDone_13 rfl (lv_at hl 0 rfl) ?_
  refine lv_dup hx hb dX3_isDone_14 rfl ?_
  refine c_gX3_size hx hb hts hown hK hP (hts _ kw_385) dX3_isDone_15 ?_
  refine lv_iconst (v := 1) hx hb dX3_isDone_18 (by decide) ?_
  refine lv_isub hx hb dX3_isDone_19 ?_
  refine c_pX3_size hx hb hts hown hK hap hP hS hf (hts _ kw_385) dX3_isDone_20 (fun σ2 H locs hP hS hf => ?_)
  refine lv_aload_n hx hb dX3_isDone_23 rfl (lv_at hl 0 rfl) ?_
  refine c_gX3_web hx hb hts hown hK hP (hts _ kw_375) dX3_isDone_24 ?_
  refine c_gX10_to hx hb hts hown hK hP (hts _ kw_132) dX3_isDone_27 ?_
  refine lv_iload_n hx hb dX3_isDone_30 rfl (lv_at hl 1 rfl) ?_
  refine ja_ild hx hb hK hP 12 0 rfl rfl hf dX3_isDone_31 (fun v3 hf => ?_)
  refine lv_istore (lv' := [(4, .int v3), (0, .ref (ad 31)), (1, .int x1), (2, .long x2)]) hx hb dX3_isDone_32 hl (by decide) rfl (fun ls hl => ?_)
  refine lv_aload_n hx hb dX3_isDone_34 rfl (lv_at hl 1 rfl) ?_
  refine c_gX3_web hx hb hts hown hK hP (hts _ kw_375) dX3_isDone_35 ?_
  refine c_gX10_states hx hb hts hown hK hP (hts _ kw_118) dX3_isDone_38 ?_
  refine lv_iload hx hb dX3_isDone_41 (lv_at hl 0 rfl) ?_
  refine lv_iconst (v := 3) hx hb dX3_isDone_43 (by decide) ?_
  refine lv_imul hx hb dX3_isDone_44 ?_
  refine lv_aload_n hx hb dX3_isDone_45 rfl (lv_at hl 1 rfl) ?_
  refine c_gX3_oldStates hx hb hts hown hK hP (hts _ kw_383) dX3_isDone_46 ?_
  refine lv_iconst (v := 0) hx hb dX3_isDone_49 (by decide) ?_
  refine lv_iconst (v := 3) hx hb dX3_isDone_50 (by decide) ?_
  refine ja_cpl hx hb (hml.trans hl.1.symm) hown (hts _ kw_590) (hts _ kw_531) (hts _ kw_530) (hts _ kw_65) hK (c_D hap σ2) hP hS 8 35 1 rfl rfl rfl c_sB8 hf (Nat.le_of_ble_eq_true rfl) (Nat.le_of_ble_eq_true rfl) dX3_isDone_51 (fun σ4 H locs hP hS hf => ?_)
  refine lv_aload_n hx hb dX3_isDone_54 rfl (lv_at hl 1 rfl) ?_
  refine c_gX3_actor hx hb hts hown hK hP (hts _ kw_376) dX3_isDone_55 ?_
  refine c_gX0_asker hx hb hts hown hK hP (hts _ kw_312) dX3_isDone_58 ?_
  refine lv_lload_n hx hb dX3_isDone_61 rfl (lv_at hl 3 rfl) ?_
  refine lv_iconst (v := 1) hx hb dX3_isDone_62 (by decide) ?_
  refine jk_u hf (fun res hres => jv_run hx hb hml hown hts hK hN c_hG c_hNW hl.1 (n := 2) (As := [.long x2, .int 1]) (rest := []) (c_cX1_setFolded l hap σ4 x2 1 res hres) hP (ci := 1) (q0 := 22) rfl rfl rfl kw_539 kw_591 kw_537 kw_538 kw_60 ⟨rfl, rfl⟩ (by decide +kernel) rfl ⟨Nat.le_of_ble_eq_true rfl, Nat.le_of_ble_eq_true rfl⟩ rfl (Nat.le_of_ble_eq_true rfl) dX3_isDone_63) hS (fun σ6 H locs hP hS hf => ?_)
  refine lv_aload_n hx hb dX3_isDone_66 rfl (lv_at hl 1 rfl) ?_
  refine lv_iload hx hb dX3_isDone_67 (lv_at hl 0 rfl) ?_
  refine jk_u hf (fun res hres => jv_run hx hb hml hown hts hK hN c_hG c_hNW hl.1 (n := 1) (As := [.int v3]) (rest := []) (c_cX3_takeStates l hap σ6 v3 res hres) hP (ci := 3) (q0 := 31) rfl rfl rfl kw_595 kw_592 kw_594 kw_10 kw_63 ⟨rfl, rfl⟩ (by decide +kernel) rfl ⟨Nat.le_of_ble_eq_true rfl, Nat.le_of_ble_eq_true rfl⟩ rfl (Nat.le_of_ble_eq_true rfl) dX3_isDone_69) hS (fun σ8 H locs hP hS hf => ?_)
  refine lv_aload_n hx hb dX3_isDone_72 rfl (lv_at hl 1 rfl) ?_
  refine c_gX3_failure hx hb hts hown hK hP (hts _ kw_377) dX3_isDone_73 ?_
  refine jk_i hf (fun res hres => jv_run hx hb hml hown hts hK hN c_hG c_hNW hl.1 (n := 0) (As := []) (rest := []) (c_cX2_is l hap σ8 res hres) hP (ci := 2) (q0 := 16) rfl rfl rfl kw_584 kw_581 kw_582 kw_583 kw_56 ⟨rfl, rfl⟩ (by decide +kernel) rfl ⟨Nat.le_of_ble_eq_true rfl, Nat.le_of_ble_eq_true rfl⟩ rfl (Nat.le_of_ble_eq_true rfl) dX3_isDone_76) hS (fun v9 σ10 H locs hP hS hf => ?_)
  refine jb_ne (tgt := 103) hx hb hf dX3_isDone_79 (by decide) (fun hf => ?_) (fun hf => ?_)
  · exact (p_cX3_isDone_b103 C hap) σ10 v3 hf H locs ls hP hS (lv_sub hl [1, 0] rfl)
  · refine lv_aload_n hx hb dX3_isDone_82 rfl (lv_at hl 1 rfl) ?_
    refine c_gX3_actor hx hb hts hown hK hP (hts _ kw_376) dX3_isDone_83 ?_
    refine lv_iconst (v := 5) hx hb dX3_isDone_86 (by decide) ?_
    refine lv_iload hx hb dX3_isDone_87 (lv_at hl 0 rfl) ?_
    refine lv_iconst (v := (-1)) hx hb dX3_isDone_89 (by decide) ?_
    refine lv_lconst (v := 0) hx hb dX3_isDone_90 (by decide) ?_
    refine jk_l hf (fun res hres => jv_run hx hb hml hown hts hK hN c_hG c_hNW hl.1 (n := 4) (As := [.int 5, .int v3, .int (-1), .long 0]) (rest := []) (c_cX0_comesTo l hap σ10 5 v3 (-1) 0 res hres) hP (ci := 0) (q0 := 23) rfl rfl rfl kw_555 kw_552 kw_553 kw_554 kw_61 ⟨rfl, rfl⟩ (by decide +kernel) rfl ⟨Nat.le_of_ble_eq_true rfl, Nat.le_of_ble_eq_true rfl⟩ rfl (Nat.le_of_ble_eq_true rfl) dX3_isDone_91) hS (fun v11 σ12 H locs hP hS hf => ?_)
    refine lv_lconst (v := 0) hx hb dX3_isDone_94 (by decide) ?_
    refine jl_eq (tgt := 103) hx hb hf dX3_isDone_95 dX3_isDone_96 (by decide) (fun hf => ?_) (fun hf => ?_)
    · exact (p_cX3_isDone_b103 C hap) σ12 v3 hf H locs ls hP hS (lv_sub hl [1, 0] rfl)
    · refine lv_iconst (v := 1) hx hb dX3_isDone_99 (by decide) ?_
      refine lv_goto (tgt := 104) hx hb dX3_isDone_100 (by decide) ?_
      exact (p_cX3_isDone_b104 C hap) σ12 v3 1 hf H locs ls hP hS (lv_sub hl [1, 0] rfl)
theorem c_cX3_isDone (l : Launch) {dC : Nat → ClassId} {dI : Nat → Nat → Nat} {kA : Nat → ClassId} {ad : Nat → Nat} (hap : jw_ap 57 ad) (σ : RS) (x1 : Int32) (x2 : Int64) (res : Int32 × RS) (hf : s_cX3_isDone σ x1 x2 = some res) : jm_i l KW NW (dC, dI) vwCl (jtys kA) (jw_A 57 ad) (c_w kA ad) yX3_isDone cX3_isDone 6 .boolean (rm_cX3_isDone) [.ref (ad 31), .int x1, .long x2] σ res := jm_i_of (by decide) (Nat.le_of_ble_eq_true rfl) (fun p e s m below meth c C hP hS ls hl => p_cX3_isDone C hap σ x1 x2 hf s.heap [] ls hP hS hl)

def rm_cX7_sendAll : Room := { frames := 45, cells := 0, slots := 0, locals := 1293 }
def G_cX7_sendAll_b102 (p : Program) (l : Launch) (e : Env) (s : State) (m : MethodId) (args : Array Value) (below : List Frame) (meth : Method) (c : Code) (dC : Nat → ClassId) (dI : Nat → Nat → Nat) (kA : Nat → ClassId) (ad : Nat → Nat) (res : RS) (F : RS → Int32 → Option (RS)) : Prop := ∀ (σ : RS) (x3 : Int32), F σ x3 = some res → ∀ (H : Heap) (locs : List Loc) (ls : Array Slot), va_P (dC, dI) vwCl (c_w kA ad σ) H → va_S (jw_A 57 ad) s.heap H locs → lv_has ls 5 [(0, .ref (ad 24)), (2, .ref (ad 11)), (3, .int x3)] → W p l e rm_cX7_sendAll s m args below meth c H locs 0 0 (c_Qu below dC dI kA ad args s res) (F0 m 102 ls [])
def G_cX7_sendAll_b85 (p : Program) (l : Launch) (e : Env) (s : State) (m : MethodId) (args : Array Value) (below : List Frame) (meth : Method) (c : Code) (dC : Nat → ClassId) (dI : Nat → Nat → Nat) (kA : Nat → ClassId) (ad : Nat → Nat) (res : RS) (F : RS → Int32 → Int32 → Option (RS)) : Prop := ∀ (σ : RS) (x3 : Int32) (x4 : Int32), F σ x3 x4 = some res → ∀ (H : Heap) (locs : List Loc) (ls : Array Slot), va_P (dC, dI) vwCl (c_w kA ad σ) H → va_S (jw_A 57 ad) s.heap H locs → lv_has ls 5 [(0, .ref (ad 24)), (2, .ref (ad 11)), (3, .int x3), (4, .int x4)] → W p l e rm_cX7_sendAll s m args below meth c H locs 0 0 (c_Qu below dC dI kA ad args s res) (F0 m 85 ls [])
def G_cX7_sendAll_b38 (p : Program) (l : Launch) (e : Env) (s : State) (m : MethodId) (args : Array Value) (below : List Frame) (meth : Method) (c : Code) (dC : Nat → ClassId) (dI : Nat → Nat → Nat) (kA : Nat → ClassId) (ad : Nat → Nat) (res : RS) (F : RS → Int32 → Int32 → Option (RS)) : Prop := ∀ (σ : RS) (x3 : Int32) (x4 : Int32), F σ x3 x4 = some res → ∀ (H : Heap) (locs : List Loc) (ls : Array Slot), va_P (dC, dI) vwCl (c_w kA ad σ) H → va_S (jw_A 57 ad) s.heap H locs → lv_has ls 5 [(0, .ref (ad 24)), (2, .ref (ad 11)), (3, .int x3), (4, .int x4)] → W p l e rm_cX7_sendAll s m args below meth c H locs 0 0 (c_Qu below dC dI kA ad args s res) (F0 m 38 ls [])
def G_cX7_sendAll_b24 (p : Program) (l : Launch) (e : Env) (s : State) (m : MethodId) (args : Array Value) (below : List Frame) (meth : Method) (c : Code) (dC : Nat → ClassId) (dI : Nat → Nat → Nat) (kA : Nat → ClassId) (ad : Nat → Nat) (res : RS) (F : RS → Int32 → Option (RS)) : Prop := ∀ (σ : RS) (x3 : Int32), F σ x3 = some res → ∀ (H : Heap) (locs : List Loc) (ls : Array Slot), va_P (dC, dI) vwCl (c_w kA ad σ) H → va_S (jw_A 57 ad) s.heap H locs → lv_has ls 5 [(0, .ref (ad 24)), (2, .ref (ad 11)), (3, .int x3)] → W p l e rm_cX7_sendAll s m args below meth c H locs 0 0 (c_Qu below dC dI kA ad args s res) (F0 m 24 ls [])
def G_cX7_sendAll_b21 (p : Program) (l : Launch) (e : Env) (s : State) (m : MethodId) (args : Array Value) (below : List Frame) (meth : Method) (c : Code) (dC : Nat → ClassId) (dI : Nat → Nat → Nat) (kA : Nat → ClassId) (ad : Nat → Nat) (res : RS) (F : RS → Option (RS)) : Prop := ∀ (σ : RS), F σ = some res → ∀ (H : Heap) (locs : List Loc) (ls : Array Slot), va_P (dC, dI) vwCl (c_w kA ad σ) H → va_S (jw_A 57 ad) s.heap H locs → lv_has ls 5 [(0, .ref (ad 24))] → W p l e rm_cX7_sendAll s m args below meth c H locs 0 0 (c_Qu below dC dI kA ad args s res) (F0 m 21 ls [.ref (ad 11)])
def G_cX7_sendAll_b102a (p : Program) (l : Launch) (e : Env) (s : State) (m : MethodId) (args : Array Value) (below : List Frame) (meth : Method) (c : Code) (dC : Nat → ClassId) (dI : Nat → Nat → Nat) (kA : Nat → ClassId) (ad : Nat → Nat) (res : RS) (F : RS → Int32 → Option (RS)) : Prop := ∀ (σ : RS) (x3 : Int32), F σ x3 = some res → ∀ (H : Heap) (locs : List Loc) (ls : Array Slot), va_P (dC, dI) vwCl (c_w kA ad σ) H → va_S (jw_A 57 ad) s.heap H locs → lv_has ls 5 [(0, .ref (ad 24)), (2, .ref (ad 12)), (3, .int x3)] → W p l e rm_cX7_sendAll s m args below meth c H locs 0 0 (c_Qu below dC dI kA ad args s res) (F0 m 102 ls [])
def G_cX7_sendAll_b85a (p : Program) (l : Launch) (e : Env) (s : State) (m : MethodId) (args : Array Value) (below : List Frame) (meth : Method) (c : Code) (dC : Nat → ClassId) (dI : Nat → Nat → Nat) (kA : Nat → ClassId) (ad : Nat → Nat) (res : RS) (F : RS → Int32 → Int32 → Option (RS)) : Prop := ∀ (σ : RS) (x3 : Int32) (x4 : Int32), F σ x3 x4 = some res → ∀ (H : Heap) (locs : List Loc) (ls : Array Slot), va_P (dC, dI) vwCl (c_w kA ad σ) H → va_S (jw_A 57 ad) s.heap H locs → lv_has ls 5 [(0, .ref (ad 24)), (2, .ref (ad 12)), (3, .int x3), (4, .int x4)] → W p l e rm_cX7_sendAll s m args below meth c H locs 0 0 (c_Qu below dC dI kA ad args s res) (F0 m 85 ls [])
def G_cX7_sendAll_b38a (p : Program) (l : Launch) (e : Env) (s : State) (m : MethodId) (args : Array Value) (below : List Frame) (meth : Method) (c : Code) (dC : Nat → ClassId) (dI : Nat → Nat → Nat) (kA : Nat → ClassId) (ad : Nat → Nat) (res : RS) (F : RS → Int32 → Int32 → Option (RS)) : Prop := ∀ (σ : RS) (x3 : Int32) (x4 : Int32), F σ x3 x4 = some res → ∀ (H : Heap) (locs : List Loc) (ls : Array Slot), va_P (dC, dI) vwCl (c_w kA ad σ) H → va_S (jw_A 57 ad) s.heap H locs → lv_has ls 5 [(0, .ref (ad 24)), (2, .ref (ad 12)), (3, .int x3), (4, .int x4)] → W p l e rm_cX7_sendAll s m args below meth c H locs 0 0 (c_Qu below dC dI kA ad args s res) (F0 m 38 ls [])
def G_cX7_sendAll_b24a (p : Program) (l : Launch) (e : Env) (s : State) (m : MethodId) (args : Array Value) (below : List Frame) (meth : Method) (c : Code) (dC : Nat → ClassId) (dI : Nat → Nat → Nat) (kA : Nat → ClassId) (ad : Nat → Nat) (res : RS) (F : RS → Int32 → Option (RS)) : Prop := ∀ (σ : RS) (x3 : Int32), F σ x3 = some res → ∀ (H : Heap) (locs : List Loc) (ls : Array Slot), va_P (dC, dI) vwCl (c_w kA ad σ) H → va_S (jw_A 57 ad) s.heap H locs → lv_has ls 5 [(0, .ref (ad 24)), (2, .ref (ad 12)), (3, .int x3)] → W p l e rm_cX7_sendAll s m args below meth c H locs 0 0 (c_Qu below dC dI kA ad args s res) (F0 m 24 ls [])
def G_cX7_sendAll_b21a (p : Program) (l : Launch) (e : Env) (s : State) (m : MethodId) (args : Array Value) (below : List Frame) (meth : Method) (c : Code) (dC : Nat → ClassId) (dI : Nat → Nat → Nat) (kA : Nat → ClassId) (ad : Nat → Nat) (res : RS) (F : RS → Option (RS)) : Prop := ∀ (σ : RS), F σ = some res → ∀ (H : Heap) (locs : List Loc) (ls : Array Slot), va_P (dC, dI) vwCl (c_w kA ad σ) H → va_S (jw_A 57 ad) s.heap H locs → lv_has ls 5 [(0, .ref (ad 24))] → W p l e rm_cX7_sendAll s m args below meth c H locs 0 0 (c_Qu below dC dI kA ad args s res) (F0 m 21 ls [.ref (ad 12)])
def G_cX7_sendAll (p : Program) (l : Launch) (e : Env) (s : State) (m : MethodId) (args : Array Value) (below : List Frame) (meth : Method) (c : Code) (dC : Nat → ClassId) (dI : Nat → Nat → Nat) (kA : Nat → ClassId) (ad : Nat → Nat) (res : RS) (F : RS → Int32 → Option (RS)) : Prop := ∀ (σ : RS) (x1 : Int32), F σ x1 = some res → ∀ (H : Heap) (locs : List Loc) (ls : Array Slot), va_P (dC, dI) vwCl (c_w kA ad σ) H → va_S (jw_A 57 ad) s.heap H locs → lv_has ls 5 [(0, .ref (ad 24)), (1, .int x1)] → W p l e rm_cX7_sendAll s m args below meth c H locs 0 0 (c_Qu below dC dI kA ad args s res) (F0 m 0 ls [])
def s_cX7_sendAll_b102 (k24 : RS → Int32 → Option (RS)) (σ : RS) (x3 : Int32) : Option (RS) := kn_v (x3 + 1) (fun v1 => k24 σ v1)
set_option maxRecDepth 100000 in
set_option maxHeartbeats 4000000 in
theorem p_cX7_sendAll_b102 {p : Program} {l : Launch} {e : Env} {s : State} {m : MethodId} {args : Array Value} {below : List Frame} {meth : Method} {c : Code} {dC : Nat → ClassId} {dI : Nat → Nat → Nat} {kA : Nat → ClassId} {ad : Nat → Nat} (C : jxc cX7_sendAll none 5 RX7 p s m args meth c dC dI kA) (hap : jw_ap 57 ad) {res : RS} {k24 : RS → Int32 → Option (RS)} (hk24 : G_cX7_sendAll_b24 p l e s m args below meth c dC dI kA ad res k24) : G_cX7_sendAll_b102 p l e s m args below meth c dC dI kA ad res (s_cX7_sendAll_b102 k24) := by
  obtain ⟨hx, hb, hml, hown, hts, hr, hlocks, hK, hN⟩ := id C
  intro σ x3 hf H locs ls hP hS hl
  unfold s_cX7_sendAll_b102 at hf
  obtain ⟨v1, e_v1, hf⟩ := kn_v_e hf
  refine lv_iinc (v := v1) (lv' := [(3, .int v1), (0, .ref (ad 24)), (2, .ref (ad 11))]) hx hb dX7_sendAll_102 hl (k := 2) rfl e_v1 (by decide) rfl (fun ls hl => ?_)
  refine lv_goto (tgt := 24) hx hb dX7_sendAll_105 (by decide) ?_
  exact hk24 σ v1 hf H locs ls hP hS (lv_sub hl [1, 2, 0] rfl)
def s_cX7_sendAll_b85 (k24 : RS → Int32 → Option (RS)) (k38 : RS → Int32 → Int32 → Option (RS)) (σ : RS) (x3 : Int32) (x4 : Int32) : Option (RS) := kn_i (s_cX2_is σ) (fun v1 σ2 => if v1 = 0 then (kn_v (x4 + 1) (fun v3 => k38 σ2 x3 v3)) else some σ2)
set_option maxRecDepth 100000 in
set_option maxHeartbeats 4000000 in
theorem p_cX7_sendAll_b85 {p : Program} {l : Launch} {e : Env} {s : State} {m : MethodId} {args : Array Value} {below : List Frame} {meth : Method} {c : Code} {dC : Nat → ClassId} {dI : Nat → Nat → Nat} {kA : Nat → ClassId} {ad : Nat → Nat} (C : jxc cX7_sendAll none 5 RX7 p s m args meth c dC dI kA) (hap : jw_ap 57 ad) {res : RS} {k24 : RS → Int32 → Option (RS)} (hk24 : G_cX7_sendAll_b24 p l e s m args below meth c dC dI kA ad res k24) {k38 : RS → Int32 → Int32 → Option (RS)} (hk38 : G_cX7_sendAll_b38 p l e s m args below meth c dC dI kA ad res k38) : G_cX7_sendAll_b85 p l e s m args below meth c dC dI kA ad res (s_cX7_sendAll_b85 k24 k38) := by
  obtain ⟨hx, hb, hml, hown, hts, hr, hlocks, hK, hN⟩ := id C
  intro σ x3 x4 hf H locs ls hP hS hl
  unfold s_cX7_sendAll_b85 at hf
  refine lv_aload_n hx hb dX7_sendAll_85 rfl (lv_at hl 0 rfl) ?_
  refine c_gX7_failure hx hb hts hown hK hP (hts _ kw_334) dX7_sendAll_86 ?_
  refine jk_i hf (fun res hres => jv_run hx hb hml hown hts hK hN c_hG c_hNW hl.1 (n := 0) (As := []) (rest := []) (c_cX2_is l hap σ res hres) hP (ci := 2) (q0 := 16) rfl rfl rfl kw_584 kw_635 kw_582 kw_583 kw_56 ⟨rfl, rfl⟩ (by decide +kernel) rfl ⟨Nat.le_of_ble_eq_true rfl, Nat.le_of_ble_eq_true rfl⟩ rfl (Nat.le_of_ble_eq_true rfl) dX7_sendAll_89) hS (fun v1 σ2 H locs hP hS hf => ?_)
  refine jb_eq (tgt := 96) hx hb hf dX7_sendAll_92 (by decide) (fun hf => ?_) (fun hf => ?_)
  · obtain ⟨v3, e_v3, hf⟩ := kn_v_e hf
    refine lv_iinc (v := v3) (lv' := [(4, .int v3), (0, .ref (ad 24)), (2, .ref (ad 11)), (3, .int x3)]) hx hb dX7_sendAll_96 hl (k := 3) rfl e_v3 (by decide) rfl (fun ls hl => ?_)
    refine lv_goto (tgt := 38) hx hb dX7_sendAll_99 (by decide) ?_
    exact hk38 σ2 x3 v3 hf H locs ls hP hS (lv_sub hl [1, 2, 3, 0] rfl)
  · exact jr_u hx hb hr hlocks hf hP hS dX7_sendAll_95
def s_cX7_sendAll_b38 (k24 : RS → Int32 → Option (RS)) (k38 : RS → Int32 → Int32 → Option (RS)) (σ : RS) (x3 : Int32) (x4 : Int32) : Option (RS) := if (rg_I σ 3) ≤ x4 then (s_cX7_sendAll_b102 k24 σ x3) else (kn_ld (rg_A σ 6) 40 x4 (fun v1 => if v1 = x3 then (kn_ld (rg_A σ 6) 40 x4 (fun v2 => kn_ld (rg_A σ 4) 12 v2 (fun v3 => if v3 = 0 then (s_cX7_sendAll_b85 k24 k38 σ x3 x4) else (kn_u (s_cX7_sendAlong σ x4) (fun σ5 => s_cX7_sendAll_b85 k24 k38 σ5 x3 x4))))) else (s_cX7_sendAll_b85 k24 k38 σ x3 x4)))
set_option maxRecDepth 100000 in
set_option maxHeartbeats 4000000 in
theorem p_cX7_sendAll_b38 {p : Program} {l : Launch} {e : Env} {s : State} {m : MethodId} {args : Array Value} {below : List Frame} {meth : Method} {c : Code} {dC : Nat → ClassId} {dI : Nat → Nat → Nat} {kA : Nat → ClassId} {ad : Nat → Nat} (C : jxc cX7_sendAll none 5 RX7 p s m args meth c dC dI kA) (hap : jw_ap 57 ad) {res : RS} {k24 : RS → Int32 → Option (RS)} (hk24 : G_cX7_sendAll_b24 p l e s m args below meth c dC dI kA ad res k24) {k38 : RS → Int32 → Int32 → Option (RS)} (hk38 : G_cX7_sendAll_b38 p l e s m args below meth c dC dI kA ad res k38) : G_cX7_sendAll_b38 p l e s m args below meth c dC dI kA ad res (s_cX7_sendAll_b38 k24 k38) := by
  obtain ⟨hx, hb, hml, hown, hts, hr, hlocks, hK, hN⟩ := id C
  intro σ x3 x4 hf H locs ls hP hS hl
  unfold s_cX7_sendAll_b38 at hf
  refine lv_iload hx hb dX7_sendAll_38 (lv_at hl 3 rfl) ?_
  refine lv_aload_n hx hb dX7_sendAll_40 rfl (lv_at hl 0 rfl) ?_
  refine c_gX7_web hx hb hts hown hK hP (hts _ kw_332) dX7_sendAll_41 ?_
  refine c_gX10_arcs hx hb hts hown hK hP (hts _ kw_141) dX7_sendAll_44 ?_
  refine jc_ge (tgt := 102) hx hb hf dX7_sendAll_47 (by decide) (fun hf => ?_) (fun hf => ?_)
  · exact (p_cX7_sendAll_b102 C hap hk24) σ x3 hf H locs ls hP hS (lv_sub hl [0, 1, 2] rfl)
  · refine lv_aload_n hx hb dX7_sendAll_50 rfl (lv_at hl 1 rfl) ?_
    refine lv_iload hx hb dX7_sendAll_51 (lv_at hl 3 rfl) ?_
    refine ja_ild hx hb hK hP 11 0 rfl rfl hf dX7_sendAll_53 (fun v1 hf => ?_)
    refine lv_iload_n hx hb dX7_sendAll_54 rfl (lv_at hl 2 rfl) ?_
    refine jc_ne (tgt := 85) hx hb hf dX7_sendAll_55 (by decide) (fun hf => ?_) (fun hf => ?_)
    · exact (p_cX7_sendAll_b85 C hap hk24 hk38) σ x3 x4 hf H locs ls hP hS (lv_sub hl [0, 1, 2, 3] rfl)
    · refine lv_aload_n hx hb dX7_sendAll_58 rfl (lv_at hl 0 rfl) ?_
      refine c_gX7_web hx hb hts hown hK hP (hts _ kw_332) dX7_sendAll_59 ?_
      refine c_gX10_awake hx hb hts hown hK hP (hts _ kw_123) dX7_sendAll_62 ?_
      refine lv_aload_n hx hb dX7_sendAll_65 rfl (lv_at hl 0 rfl) ?_
      refine c_gX7_web hx hb hts hown hK hP (hts _ kw_332) dX7_sendAll_66 ?_
      refine c_gX10_from hx hb hts hown hK hP (hts _ kw_129) dX7_sendAll_69 ?_
      refine lv_iload hx hb dX7_sendAll_72 (lv_at hl 3 rfl) ?_
      refine ja_ild hx hb hK hP 11 0 rfl rfl hf dX7_sendAll_74 (fun v2 hf => ?_)
      refine ja_zld hx hb hK hP 9 2 rfl rfl hf dX7_sendAll_75 (fun v3 hf => ?_)
      refine jb_eq (tgt := 85) hx hb hf dX7_sendAll_76 (by decide) (fun hf => ?_) (fun hf => ?_)
      · exact (p_cX7_sendAll_b85 C hap hk24 hk38) σ x3 x4 hf H locs ls hP hS (lv_sub hl [0, 1, 2, 3] rfl)
      · refine lv_aload_n hx hb dX7_sendAll_79 rfl (lv_at hl 0 rfl) ?_
        refine lv_iload hx hb dX7_sendAll_80 (lv_at hl 3 rfl) ?_
        refine jk_u hf (fun res hres => jv_run hx hb hml hown hts hK hN c_hG c_hNW hl.1 (n := 1) (As := [.int x4]) (rest := []) (c_cX7_sendAlong l hap σ x4 res hres) hP (ci := 7) (q0 := 24) rfl rfl rfl kw_633 kw_630 kw_632 kw_14 kw_62 ⟨rfl, rfl⟩ (by decide +kernel) rfl ⟨Nat.le_of_ble_eq_true rfl, Nat.le_of_ble_eq_true rfl⟩ rfl (Nat.le_of_ble_eq_true rfl) dX7_sendAll_82) hS (fun σ5 H locs hP hS hf => ?_)
        exact (p_cX7_sendAll_b85 C hap hk24 hk38) σ5 x3 x4 hf H locs ls hP hS (lv_sub hl [0, 1, 2, 3] rfl)
def f_cX7_sendAll_b38 (k24 : RS → Int32 → Option (RS)) : RS → Int32 → Int32 → Option (RS) := kn_fix (fun _ _ _ => none) (s_cX7_sendAll_b38 k24) FU
theorem q_cX7_sendAll_b38 {p : Program} {l : Launch} {e : Env} {s : State} {m : MethodId} {args : Array Value} {below : List Frame} {meth : Method} {c : Code} {dC : Nat → ClassId} {dI : Nat → Nat → Nat} {kA : Nat → ClassId} {ad : Nat → Nat} (C : jxc cX7_sendAll none 5 RX7 p s m args meth c dC dI kA) (hap : jw_ap 57 ad) {res : RS} {k24 : RS → Int32 → Option (RS)} (hk24 : G_cX7_sendAll_b24 p l e s m args below meth c dC dI kA ad res k24) : G_cX7_sendAll_b38 p l e s m args below meth c dC dI kA ad res (f_cX7_sendAll_b38 k24) := kn_fix_ind (G := fun F => G_cX7_sendAll_b38 p l e s m args below meth c dC dI kA ad res F) (fun _ _ _ hf => by cases hf) (fun k38 hk38 => p_cX7_sendAll_b38 C hap hk24 hk38) FU
def s_cX7_sendAll_b24 (k24 : RS → Int32 → Option (RS)) (σ : RS) (x3 : Int32) : Option (RS) := if (rg_I σ 2) ≤ x3 then some σ else (f_cX7_sendAll_b38 k24 σ x3 0)
set_option maxRecDepth 100000 in
set_option maxHeartbeats 4000000 in
theorem p_cX7_sendAll_b24 {p : Program} {l : Launch} {e : Env} {s : State} {m : MethodId} {args : Array Value} {below : List Frame} {meth : Method} {c : Code} {dC : Nat → ClassId} {dI : Nat → Nat → Nat} {kA : Nat → ClassId} {ad : Nat → Nat} (C : jxc cX7_sendAll none 5 RX7 p s m args meth c dC dI kA) (hap : jw_ap 57 ad) {res : RS} {k24 : RS → Int32 → Option (RS)} (hk24 : G_cX7_sendAll_b24 p l e s m args below meth c dC dI kA ad res k24) : G_cX7_sendAll_b24 p l e s m args below meth c dC dI kA ad res (s_cX7_sendAll_b24 k24) := by
  obtain ⟨hx, hb, hml, hown, hts, hr, hlocks, hK, hN⟩ := id C
  intro σ x3 hf H locs ls hP hS hl
  unfold s_cX7_sendAll_b24 at hf
  refine lv_iload_n hx hb dX7_sendAll_24 rfl (lv_at hl 2 rfl) ?_
  refine lv_aload_n hx hb dX7_sendAll_25 rfl (lv_at hl 0 rfl) ?_
  refine c_gX7_web hx hb hts hown hK hP (hts _ kw_332) dX7_sendAll_26 ?_
  refine c_gX10_nodes hx hb hts hown hK hP (hts _ kw_137) dX7_sendAll_29 ?_
  refine jc_ge (tgt := 108) hx hb hf dX7_sendAll_32 (by decide) (fun hf => ?_) (fun hf => ?_)
  · exact jr_u hx hb hr hlocks hf hP hS dX7_sendAll_108
  · refine lv_iconst (v := 0) hx hb dX7_sendAll_35 (by decide) ?_
    refine lv_istore (lv' := [(4, .int 0), (0, .ref (ad 24)), (2, .ref (ad 11)), (3, .int x3)]) hx hb dX7_sendAll_36 hl (by decide) rfl (fun ls hl => ?_)
    exact (q_cX7_sendAll_b38 C hap hk24) σ x3 0 hf H locs ls hP hS (lv_sub hl [1, 2, 3, 0] rfl)
def f_cX7_sendAll_b24 : RS → Int32 → Option (RS) := kn_fix (fun _ _ => none) (s_cX7_sendAll_b24) FU
theorem q_cX7_sendAll_b24 {p : Program} {l : Launch} {e : Env} {s : State} {m : MethodId} {args : Array Value} {below : List Frame} {meth : Method} {c : Code} {dC : Nat → ClassId} {dI : Nat → Nat → Nat} {kA : Nat → ClassId} {ad : Nat → Nat} (C : jxc cX7_sendAll none 5 RX7 p s m args meth c dC dI kA) (hap : jw_ap 57 ad) {res : RS} : G_cX7_sendAll_b24 p l e s m args below meth c dC dI kA ad res (f_cX7_sendAll_b24) := kn_fix_ind (G := fun F => G_cX7_sendAll_b24 p l e s m args below meth c dC dI kA ad res F) (fun _ _ hf => by cases hf) (fun k24 hk24 => p_cX7_sendAll_b24 C hap hk24) FU
def s_cX7_sendAll_b21 (σ : RS) : Option (RS) := f_cX7_sendAll_b24 σ 0
set_option maxRecDepth 100000 in
set_option maxHeartbeats 4000000 in
theorem p_cX7_sendAll_b21 {p : Program} {l : Launch} {e : Env} {s : State} {m : MethodId} {args : Array Value} {below : List Frame} {meth : Method} {c : Code} {dC : Nat → ClassId} {dI : Nat → Nat → Nat} {kA : Nat → ClassId} {ad : Nat → Nat} (C : jxc cX7_sendAll none 5 RX7 p s m args meth c dC dI kA) (hap : jw_ap 57 ad) {res : RS} : G_cX7_sendAll_b21 p l e s m args below meth c dC dI kA ad res (s_cX7_sendAll_b21) := by
  obtain ⟨hx, hb, hml, hown, hts, hr, hlocks, hK, hN⟩ := id C
  intro σ hf H locs ls hP hS hl
  unfold s_cX7_sendAll_b21 at hf
  refine lv_astore_n (lv' := [(2, .ref (ad 11)), (0, .ref (ad 24))]) hx hb dX7_sendAll_21 rfl hl (by decide) rfl (fun ls hl => ?_)
  refine lv_iconst (v := 0) hx hb dX7_sendAll_22 (by decide) ?_
  refine lv_istore_n (lv' := [(3, .int 0), (2, .ref (ad 11)), (0, .ref (ad 24))]) hx hb dX7_sendAll_23 rfl hl (by decide) rfl (fun ls hl => ?_)
  exact (q_cX7_sendAll_b24 C hap) σ 0 hf H locs ls hP hS (lv_sub hl [2, 1, 0] rfl)
def s_cX7_sendAll_b102a (k24 : RS → Int32 → Option (RS)) (σ : RS) (x3 : Int32) : Option (RS) := kn_v (x3 + 1) (fun v1 => k24 σ v1)
set_option maxRecDepth 100000 in
set_option maxHeartbeats 4000000 in
theorem p_cX7_sendAll_b102a {p : Program} {l : Launch} {e : Env} {s : State} {m : MethodId} {args : Array Value} {below : List Frame} {meth : Method} {c : Code} {dC : Nat → ClassId} {dI : Nat → Nat → Nat} {kA : Nat → ClassId} {ad : Nat → Nat} (C : jxc cX7_sendAll none 5 RX7 p s m args meth c dC dI kA) (hap : jw_ap 57 ad) {res : RS} {k24 : RS → Int32 → Option (RS)} (hk24 : G_cX7_sendAll_b24a p l e s m args below meth c dC dI kA ad res k24) : G_cX7_sendAll_b102a p l e s m args below meth c dC dI kA ad res (s_cX7_sendAll_b102a k24) := by
  obtain ⟨hx, hb, hml, hown, hts, hr, hlocks, hK, hN⟩ := id C
  intro σ x3 hf H locs ls hP hS hl
  unfold s_cX7_sendAll_b102a at hf
  obtain ⟨v1, e_v1, hf⟩ := kn_v_e hf
  refine lv_iinc (v := v1) (lv' := [(3, .int v1), (0, .ref (ad 24)), (2, .ref (ad 12))]) hx hb dX7_sendAll_102 hl (k := 2) rfl e_v1 (by decide) rfl (fun ls hl => ?_)
  refine lv_goto (tgt := 24) hx hb dX7_sendAll_105 (by decide) ?_
  exact hk24 σ v1 hf H locs ls hP hS (lv_sub hl [1, 2, 0] rfl)
def s_cX7_sendAll_b85a (k24 : RS → Int32 → Option (RS)) (k38 : RS → Int32 → Int32 → Option (RS)) (σ : RS) (x3 : Int32) (x4 : Int32) : Option (RS) := kn_i (s_cX2_is σ) (fun v1 σ2 => if v1 = 0 then (kn_v (x4 + 1) (fun v3 => k38 σ2 x3 v3)) else some σ2)
set_option maxRecDepth 100000 in
set_option maxHeartbeats 4000000 in
theorem p_cX7_sendAll_b85a {p : Program} {l : Launch} {e : Env} {s : State} {m : MethodId} {args : Array Value} {below : List Frame} {meth : Method} {c : Code} {dC : Nat → ClassId} {dI : Nat → Nat → Nat} {kA : Nat → ClassId} {ad : Nat → Nat} (C : jxc cX7_sendAll none 5 RX7 p s m args meth c dC dI kA) (hap : jw_ap 57 ad) {res : RS} {k24 : RS → Int32 → Option (RS)} (hk24 : G_cX7_sendAll_b24a p l e s m args below meth c dC dI kA ad res k24) {k38 : RS → Int32 → Int32 → Option (RS)} (hk38 : G_cX7_sendAll_b38a p l e s m args below meth c dC dI kA ad res k38) : G_cX7_sendAll_b85a p l e s m args below meth c dC dI kA ad res (s_cX7_sendAll_b85a k24 k38) := by
  obtain ⟨hx, hb, hml, hown, hts, hr, hlocks, hK, hN⟩ := id C
  intro σ x3 x4 hf H locs ls hP hS hl
  unfold s_cX7_sendAll_b85a at hf
  refine lv_aload_n hx hb dX7_sendAll_85 rfl (lv_at hl 0 rfl) ?_
  refine c_gX7_failure hx hb hts hown hK hP (hts _ kw_334) dX7_sendAll_86 ?_
  refine jk_i hf (fun res hres => jv_run hx hb hml hown hts hK hN c_hG c_hNW hl.1 (n := 0) (As := []) (rest := []) (c_cX2_is l hap σ res hres) hP (ci := 2) (q0 := 16) rfl rfl rfl kw_584 kw_635 kw_582 kw_583 kw_56 ⟨rfl, rfl⟩ (by decide +kernel) rfl ⟨Nat.le_of_ble_eq_true rfl, Nat.le_of_ble_eq_true rfl⟩ rfl (Nat.le_of_ble_eq_true rfl) dX7_sendAll_89) hS (fun v1 σ2 H locs hP hS hf => ?_)
  refine jb_eq (tgt := 96) hx hb hf dX7_sendAll_92 (by decide) (fun hf => ?_) (fun hf => ?_)
  · obtain ⟨v3, e_v3, hf⟩ := kn_v_e hf
    refine lv_iinc (v := v3) (lv' := [(4, .int v3), (0, .ref (ad 24)), (2, .ref (ad 12)), (3, .int x3)]) hx hb dX7_sendAll_96 hl (k := 3) rfl e_v3 (by decide) rfl (fun ls hl => ?_)
    refine lv_goto (tgt := 38) hx hb dX7_sendAll_99 (by decide) ?_
    exact hk38 σ2 x3 v3 hf H locs ls hP hS (lv_sub hl [1, 2, 3, 0] rfl)
  · exact jr_u hx hb hr hlocks hf hP hS dX7_sendAll_95
def s_cX7_sendAll_b38a (k24 : RS → Int32 → Option (RS)) (k38 : RS → Int32 → Int32 → Option (RS)) (σ : RS) (x3 : Int32) (x4 : Int32) : Option (RS) := if (rg_I σ 3) ≤ x4 then (s_cX7_sendAll_b102a k24 σ x3) else (kn_ld (rg_A σ 7) 40 x4 (fun v1 => if v1 = x3 then (kn_ld (rg_A σ 6) 40 x4 (fun v2 => kn_ld (rg_A σ 4) 12 v2 (fun v3 => if v3 = 0 then (s_cX7_sendAll_b85a k24 k38 σ x3 x4) else (kn_u (s_cX7_sendAlong σ x4) (fun σ5 => s_cX7_sendAll_b85a k24 k38 σ5 x3 x4))))) else (s_cX7_sendAll_b85a k24 k38 σ x3 x4)))
set_option maxRecDepth 100000 in
set_option maxHeartbeats 4000000 in
theorem p_cX7_sendAll_b38a {p : Program} {l : Launch} {e : Env} {s : State} {m : MethodId} {args : Array Value} {below : List Frame} {meth : Method} {c : Code} {dC : Nat → ClassId} {dI : Nat → Nat → Nat} {kA : Nat → ClassId} {ad : Nat → Nat} (C : jxc cX7_sendAll none 5 RX7 p s m args meth c dC dI kA) (hap : jw_ap 57 ad) {res : RS} {k24 : RS → Int32 → Option (RS)} (hk24 : G_cX7_sendAll_b24a p l e s m args below meth c dC dI kA ad res k24) {k38 : RS → Int32 → Int32 → Option (RS)} (hk38 : G_cX7_sendAll_b38a p l e s m args below meth c dC dI kA ad res k38) : G_cX7_sendAll_b38a p l e s m args below meth c dC dI kA ad res (s_cX7_sendAll_b38a k24 k38) := by
  obtain ⟨hx, hb, hml, hown, hts, hr, hlocks, hK, hN⟩ := id C
  intro σ x3 x4 hf H locs ls hP hS hl
  unfold s_cX7_sendAll_b38a at hf
  refine lv_iload hx hb dX7_sendAll_38 (lv_at hl 3 rfl) ?_
  refine lv_aload_n hx hb dX7_sendAll_40 rfl (lv_at hl 0 rfl) ?_
  refine c_gX7_web hx hb hts hown hK hP (hts _ kw_332) dX7_sendAll_41 ?_
  refine c_gX10_arcs hx hb hts hown hK hP (hts _ kw_141) dX7_sendAll_44 ?_
  refine jc_ge (tgt := 102) hx hb hf dX7_sendAll_47 (by decide) (fun hf => ?_) (fun hf => ?_)
  · exact (p_cX7_sendAll_b102a C hap hk24) σ x3 hf H locs ls hP hS (lv_sub hl [0, 1, 2] rfl)
  · refine lv_aload_n hx hb dX7_sendAll_50 rfl (lv_at hl 1 rfl) ?_
    refine lv_iload hx hb dX7_sendAll_51 (lv_at hl 3 rfl) ?_
    refine ja_ild hx hb hK hP 12 0 rfl rfl hf dX7_sendAll_53 (fun v1 hf => ?_)
    refine lv_iload_n hx hb dX7_sendAll_54 rfl (lv_at hl 2 rfl) ?_
    refine jc_ne (tgt := 85) hx hb hf dX7_sendAll_55 (by decide) (fun hf => ?_) (fun hf => ?_)
    · exact (p_cX7_sendAll_b85a C hap hk24 hk38) σ x3 x4 hf H locs ls hP hS (lv_sub hl [0, 1, 2, 3] rfl)
    · refine lv_aload_n hx hb dX7_sendAll_58 rfl (lv_at hl 0 rfl) ?_
      refine c_gX7_web hx hb hts hown hK hP (hts _ kw_332) dX7_sendAll_59 ?_
      refine c_gX10_awake hx hb hts hown hK hP (hts _ kw_123) dX7_sendAll_62 ?_
      refine lv_aload_n hx hb dX7_sendAll_65 rfl (lv_at hl 0 rfl) ?_
      refine c_gX7_web hx hb hts hown hK hP (hts _ kw_332) dX7_sendAll_66 ?_
      refine c_gX10_from hx hb hts hown hK hP (hts _ kw_129) dX7_sendAll_69 ?_
      refine lv_iload hx hb dX7_sendAll_72 (lv_at hl 3 rfl) ?_
      refine ja_ild hx hb hK hP 11 0 rfl rfl hf dX7_sendAll_74 (fun v2 hf => ?_)
      refine ja_zld hx hb hK hP 9 2 rfl rfl hf dX7_sendAll_75 (fun v3 hf => ?_)
      refine jb_eq (tgt := 85) hx hb hf dX7_sendAll_76 (by decide) (fun hf => ?_) (fun hf => ?_)
      · exact (p_cX7_sendAll_b85a C hap hk24 hk38) σ x3 x4 hf H locs ls hP hS (lv_sub hl [0, 1, 2, 3] rfl)
      · refine lv_aload_n hx hb dX7_sendAll_79 rfl (lv_at hl 0 rfl) ?_
        refine lv_iload hx hb dX7_sendAll_80 (lv_at hl 3 rfl) ?_
        refine jk_u hf (fun res hres => jv_run hx hb hml hown hts hK hN c_hG c_hNW hl.1 (n := 1) (As := [.int x4]) (rest := []) (c_cX7_sendAlong l hap σ x4 res hres) hP (ci := 7) (q0 := 24) rfl rfl rfl kw_633 kw_630 kw_632 kw_14 kw_62 ⟨rfl, rfl⟩ (by decide +kernel) rfl ⟨Nat.le_of_ble_eq_true rfl, Nat.le_of_ble_eq_true rfl⟩ rfl (Nat.le_of_ble_eq_true rfl) dX7_sendAll_82) hS (fun σ5 H locs hP hS hf => ?_)
        exact (p_cX7_sendAll_b85a C hap hk24 hk38) σ5 x3 x4 hf H locs ls hP hS (lv_sub hl [0, 1, 2, 3] rfl)
def f_cX7_sendAll_b38a (k24 : RS → Int32 → Option (RS)) : RS → Int32 → Int32 → Option (RS) := kn_fix (fun _ _ _ => none) (s_cX7_sendAll_b38a k24) FU
theorem q_cX7_sendAll_b38a {p : Program} {l : Launch} {e : Env} {s : State} {m : MethodId} {args : Array Value} {below : List Frame} {meth : Method} {c : Code} {dC : Nat → ClassId} {dI : Nat → Nat → Nat} {kA : Nat → ClassId} {ad : Nat → Nat} (C : jxc cX7_sendAll none 5 RX7 p s m args meth c dC dI kA) (hap : jw_ap 57 ad) {res : RS} {k24 : RS → Int32 → Option (RS)} (hk24 : G_cX7_sendAll_b24a p l e s m args below meth c dC dI kA ad res k24) : G_cX7_sendAll_b38a p l e s m args below meth c dC dI kA ad res (f_cX7_sendAll_b38a k24) := kn_fix_ind (G := fun F => G_cX7_sendAll_b38a p l e s m args below meth c dC dI kA ad res F) (fun _ _ _ hf => by cases hf) (fun k38 hk38 => p_cX7_sendAll_b38a C hap hk24 hk38) FU
def s_cX7_sendAll_b24a (k24 : RS → Int32 → Option (RS)) (σ : RS) (x3 : Int32) : Option (RS) := if (rg_I σ 2) ≤ x3 then some σ else (f_cX7_sendAll_b38a k24 σ x3 0)
set_option maxRecDepth 100000 in
set_option maxHeartbeats 4000000 in
theorem p_cX7_sendAll_b24a {p : Program} {l : Launch} {e : Env} {s : State} {m : MethodId} {args : Array Value} {below : List Frame} {meth : Method} {c : Code} {dC : Nat → ClassId} {dI : Nat → Nat → Nat} {kA : Nat → ClassId} {ad : Nat → Nat} (C : jxc cX7_sendAll none 5 RX7 p s m args meth c dC dI kA) (hap : jw_ap 57 ad) {res : RS} {k24 : RS → Int32 → Option (RS)} (hk24 : G_cX7_sendAll_b24a p l e s m args below meth c dC dI kA ad res k24) : G_cX7_sendAll_b24a p l e s m args below meth c dC dI kA ad res (s_cX7_sendAll_b24a k24) := by
  obtain ⟨hx, hb, hml, hown, hts, hr, hlocks, hK, hN⟩ := id C
  intro σ x3 hf H locs ls hP hS hl
  unfold s_cX7_sendAll_b24a at hf
  refine lv_iload_n hx hb dX7_sendAll_24 rfl (lv_at hl 2 rfl) ?_
  refine lv_aload_n hx hb dX7_sendAll_25 rfl (lv_at hl 0 rfl) ?_
  refine c_gX7_web hx hb hts hown hK hP (hts _ kw_332) dX7_sendAll_26 ?_
  refine c_gX10_nodes hx hb hts hown hK hP (hts _ kw_137) dX7_sendAll_29 ?_
  refine jc_ge (tgt := 108) hx hb hf dX7_sendAll_32 (by decide) (fun hf => ?_) (fun hf => ?_)
  · exact jr_u hx hb hr hlocks hf hP hS dX7_sendAll_108
  · refine lv_iconst (v := 0) hx hb dX7_sendAll_35 (by decide) ?_
    refine lv_istore (lv' := [(4, .int 0), (0, .ref (ad 24)), (2, .ref (ad 12)), (3, .int x3)]) hx hb dX7_sendAll_36 hl (by decide) rfl (fun ls hl => ?_)
    exact (q_cX7_sendAll_b38a C hap hk24) σ x3 0 hf H locs ls hP hS (lv_sub hl [1, 2, 3, 0] rfl)
def f_cX7_sendAll_b24a : RS → Int32 → Option (RS) := kn_fix (fun _ _ => none) (s_cX7_sendAll_b24a) FU
theorem q_cX7_sendAll_b24a {p : Program} {l : Launch} {e : Env} {s : State} {m : MethodId} {args : Array Value} {below : List Frame} {meth : Method} {c : Code} {dC : Nat → ClassId} {dI : Nat → Nat → Nat} {kA : Nat → ClassId} {ad : Nat → Nat} (C : jxc cX7_sendAll none 5 RX7 p s m args meth c dC dI kA) (hap : jw_ap 57 ad) {res : RS} : G_cX7_sendAll_b24a p l e s m args below meth c dC dI kA ad res (f_cX7_sendAll_b24a) := kn_fix_ind (G := fun F => G_cX7_sendAll_b24a p l e s m args below meth c dC dI kA ad res F) (fun _ _ hf => by cases hf) (fun k24 hk24 => p_cX7_sendAll_b24a C hap hk24) FU
def s_cX7_sendAll_b21a (σ : RS) : Option (RS) := f_cX7_sendAll_b24a σ 0
set_option maxRecDepth 100000 in
set_option maxHeartbeats 4000000 in
theorem p_cX7_sendAll_b21a {p : Program} {l : Launch} {e : Env} {s : State} {m : MethodId} {args : Array Value} {below : List Frame} {meth : Method} {c : Code} {dC : Nat → ClassId} {dI : Nat → Nat → Nat} {kA : Nat → ClassId} {ad : Nat → Nat} (C : jxc cX7_sendAll none 5 RX7 p s m args meth c dC dI kA) (hap : jw_ap 57 ad) {res : RS} : G_cX7_sendAll_b21a p l e s m args below meth c dC dI kA ad res (s_cX7_sendAll_b21a) := by
  obtain ⟨hx, hb, hml, hown, hts, hr, hlocks, hK, hN⟩ := id C
  intro σ hf H locs ls hP hS hl
  unfold s_cX7_sendAll_b21a at hf
  refine lv_astore_n (lv' := [(2, .ref (ad 12)), (0, .ref (ad 24))]) hx hb dX7_sendAll_21 rfl hl (by decide) rfl (fun ls hl => ?_)
  refine lv_iconst (v := 0) hx hb dX7_sendAll_22 (by decide) ?_
  refine lv_istore_n (lv' := [(3, .int 0), (2, .ref (ad 12)), (0, .ref (ad 24))]) hx hb dX7_sendAll_23 rfl hl (by decide) rfl (fun ls hl => ?_)
  exact (q_cX7_sendAll_b24a C hap) σ 0 hf H locs ls hP hS (lv_sub hl [2, 1, 0] rfl)
def s_cX7_sendAll (σ : RS) (x1 : Int32) : Option (RS) := if x1 = 0 then (s_cX7_sendAll_b21 σ) else (s_cX7_sendAll_b21a σ)
set_option maxRecDepth 100000 in
set_option maxHeartbeats 4000000 in
theorem p_cX7_sendAll {p : Program} {l : Launch} {e : Env} {s : State} {m : MethodId} {args : Array Value} {below : List Frame} {meth : Method} {c : Code} {dC : Nat → ClassId} {dI : Nat → Nat → Nat} {kA : Nat → ClassId} {ad : Nat → Nat} (C : jxc cX7_sendAll none 5 RX7 p s m args meth c dC dI kA) (hap : jw_ap 57 ad) {res : RS} : G_cX7_sendAll p l e s m args below meth c dC dI kA ad res (s_cX7_sendAll) := by
  obtain ⟨hx, hb, hml, hown, hts, hr, hlocks, hK, hN⟩ := id C
  intro σ x1 hf H locs ls hP hS hl
  unfold s_cX7_sendAll at hf
  refine lv_iload_n hx hb dX7_sendAll_0 rfl (lv_at hl 1 rfl) ?_
  refine jb_eq (tgt := 14) hx hb hf dX7_sendAll_1 (by decide) (fun hf => ?_) (fun hf => ?_)
  · refine lv_aload_n hx hb dX7_sendAll_14 rfl (lv_at hl 0 rfl) ?_
    refine c_gX7_web hx hb hts hown hK hP (hts _ kw_332) dX7_sendAll_15 ?_
    refine c_gX10_from hx hb hts hown hK hP (hts _ kw_129) dX7_sendAll_18 ?_
    exact (p_cX7_sendAll_b21 C hap) σ hf H locs ls hP hS (lv_sub hl [0] rfl)
  · refine lv_aload_n hx hb dX7_sendAll_4 rfl (lv_at hl 0 rfl) ?_
    refine c_gX7_web hx hb hts hown hK hP (hts _ kw_332) dX7_sendAll_5 ?_
    refine c_gX10_to hx hb hts hown hK hP (hts _ kw_131) dX7_sendAll_8 ?_
    refine lv_goto (tgt := 21) hx hb dX7_sendAll_11 (by decide) ?_
    exact (p_cX7_sendAll_b21a C hap) σ hf H locs ls hP hS (lv_sub hl [0] rfl)
theorem c_cX7_sendAll (l : Launch) {dC : Nat → ClassId} {dI : Nat → Nat → Nat} {kA : Nat → ClassId} {ad : Nat → Nat} (hap : jw_ap 57 ad) (σ : RS) (x1 : Int32) (res : RS) (hf : s_cX7_sendAll σ x1 = some res) : jm_u l KW NW (dC, dI) vwCl (jtys kA) (jw_A 57 ad) (c_w kA ad) yX7_sendAll cX7_sendAll 5 (rm_cX7_sendAll) [.ref (ad 24), .int x1] σ res := jm_u_of (by decide) (Nat.le_of_ble_eq_true rfl) (fun p e s m below meth c C hP hS ls hl => p_cX7_sendAll C hap σ x1 hf s.heap [] ls hP hS hl)
end
section
theorem dX7_askNodes_0 : decode cX7_askNodes 0 = .ok (.iconst 0, 1) := by decide +kernel
theorem dX7_askNodes_1 : decode cX7_askNodes 1 = .ok (.istore_n 1, 1) := by decide +kernel
theorem dX7_askNodes_2 : decode cX7_askNodes 2 = .ok (.iload_n 1, 1) := by decide +kernel
theorem dX7_askNodes_3 : decode cX7_askNodes 3 = .ok (.aload_n 0, 1) := by decide +kernel
theorem dX7_askNodes_4 : decode cX7_askNodes 4 = .ok (.getfield 38, 3) := by decide +kernel
theorem dX7_askNodes_7 : decode cX7_askNodes 7 = .ok (.getfield 123, 3) := by decide +kernel
theorem dX7_askNodes_10 : decode cX7_askNodes 10 = .ok (.if_icmp .ge 68, 3) := by decide +kernel
theorem dX7_askNodes_13 : decode cX7_askNodes 13 = .ok (.aload_n 0, 1) := by decide +kernel
theorem dX7_askNodes_14 : decode cX7_askNodes 14 = .ok (.iload_n 1, 1) := by decide +kernel
theorem dX7_askNodes_15 : decode cX7_askNodes 15 = .ok (.invokevirtual 140, 3) := by decide +kernel
theorem dX7_askNodes_18 : decode cX7_askNodes 18 = .ok (.istore_n 2, 1) := by decide +kernel
theorem dX7_askNodes_19 : decode cX7_askNodes 19 = .ok (.aload_n 0, 1) := by decide +kernel
theorem dX7_askNodes_20 : decode cX7_askNodes 20 = .ok (.getfield 23, 3) := by decide +kernel
theorem dX7_askNodes_23 : decode cX7_askNodes 23 = .ok (.iload_n 1, 1) := by decide +kernel
theorem dX7_askNodes_24 : decode cX7_askNodes 24 = .ok (.aload_n 0, 1) := by decide +kernel
theorem dX7_askNodes_25 : decode cX7_askNodes 25 = .ok (.getfield 38, 3) := by decide +kernel
theorem dX7_askNodes_28 : decode cX7_askNodes 28 = .ok (.getfield 129, 3) := by decide +kernel
theorem dX7_askNodes_31 : decode cX7_askNodes 31 = .ok (.iload_n 1, 1) := by decide +kernel
theorem dX7_askNodes_32 : decode cX7_askNodes 32 = .ok (.baload, 1) := by decide +kernel
theorem dX7_askNodes_33 : decode cX7_askNodes 33 = .ok (.ifCond .ne 7, 3) := by decide +kernel
theorem dX7_askNodes_36 : decode cX7_askNodes 36 = .ok (.iload_n 2, 1) := by decide +kernel
theorem dX7_askNodes_37 : decode cX7_askNodes 37 = .ok (.ifCond .le 7, 3) := by decide +kernel
theorem dX7_askNodes_40 : decode cX7_askNodes 40 = .ok (.iconst 1, 1) := by decide +kernel
theorem dX7_askNodes_41 : decode cX7_askNodes 41 = .ok (.goto 4, 3) := by decide +kernel
theorem dX7_askNodes_44 : decode cX7_askNodes 44 = .ok (.iconst 0, 1) := by decide +kernel
theorem dX7_askNodes_45 : decode cX7_askNodes 45 = .ok (.bastore, 1) := by decide +kernel
theorem dX7_askNodes_46 : decode cX7_askNodes 46 = .ok (.aload_n 0, 1) := by decide +kernel
theorem dX7_askNodes_47 : decode cX7_askNodes 47 = .ok (.getfield 23, 3) := by decide +kernel
theorem dX7_askNodes_50 : decode cX7_askNodes 50 = .ok (.iload_n 1, 1) := by decide +kernel
theorem dX7_askNodes_51 : decode cX7_askNodes 51 = .ok (.baload, 1) := by decide +kernel
theorem dX7_askNodes_52 : decode cX7_askNodes 52 = .ok (.ifCond .eq 9, 3) := by decide +kernel
theorem dX7_askNodes_55 : decode cX7_askNodes 55 = .ok (.aload_n 0, 1) := by decide +kernel
theorem dX7_askNodes_56 : decode cX7_askNodes 56 = .ok (.iload_n 1, 1) := by decide +kernel
theorem dX7_askNodes_57 : decode cX7_askNodes 57 = .ok (.iload_n 2, 1) := by decide +kernel
theorem dX7_askNodes_58 : decode cX7_askNodes 58 = .ok (.invokevirtual 144, 3) := by decide +kernel
theorem dX7_askNodes_61 : decode cX7_askNodes 61 = .ok (.aload_n 0, 1) := by decide +kernel
theorem dX7_askNodes_62 : decode cX7_askNodes 62 = .ok (.getfield 47, 3) := by decide +kernel
theorem dX7_askNodes_65 : decode cX7_askNodes 65 = .ok (.invokevirtual 79, 3) := by decide +kernel
theorem dX7_askNodes_68 : decode cX7_askNodes 68 = .ok (.ifCond .eq 4, 3) := by decide +kernel
theorem dX7_askNodes_71 : decode cX7_askNodes 71 = .ok (.return_, 1) := by decide +kernel
theorem dX7_askNodes_72 : decode cX7_askNodes 72 = .ok (.iinc 1 1, 3) := by decide +kernel
theorem dX7_askNodes_75 : decode cX7_askNodes 75 = .ok (.goto (-73), 3) := by decide +kernel
theorem dX7_askNodes_78 : decode cX7_askNodes 78 = .ok (.return_, 1) := by decide +kernel
theorem dX3_startLine_0 : decode cX3_startLine 0 = .ok (.iconst 0, 1) := by decide +kernel
theorem dX3_startLine_1 : decode cX3_startLine 1 = .ok (.istore_n 1, 1) := by decide +kernel
theorem dX3_startLine_2 : decode cX3_startLine 2 = .ok (.iload_n 1, 1) := by decide +kernel
theorem dX3_startLine_3 : decode cX3_startLine 3 = .ok (.aload_n 0, 1) := by decide +kernel
theorem dX3_startLine_4 : decode cX3_startLine 4 = .ok (.getfield 31, 3) := by decide +kernel
theorem dX3_startLine_7 : decode cX3_startLine 7 = .ok (.getfield 96, 3) := by decide +kernel
theorem dX3_startLine_10 : decode cX3_startLine 10 = .ok (.if_icmp .ge 37, 3) := by decide +kernel
theorem dX3_startLine_13 : decode cX3_startLine 13 = .ok (.aload_n 0, 1) := by decide +kernel
theorem dX3_startLine_14 : decode cX3_startLine 14 = .ok (.getfield 31, 3) := by decide +kernel
theorem dX3_startLine_17 : decode cX3_startLine 17 = .ok (.getfield 101, 3) := by decide +kernel
theorem dX3_startLine_20 : decode cX3_startLine 20 = .ok (.iload_n 1, 1) := by decide +kernel
theorem dX3_startLine_21 : decode cX3_startLine 21 = .ok (.baload, 1) := by decide +kernel
theorem dX3_startLine_22 : decode cX3_startLine 22 = .ok (.ifCond .eq 8, 3) := by decide +kernel
theorem dX3_startLine_25 : decode cX3_startLine 25 = .ok (.aload_n 0, 1) := by decide +kernel
theorem dX3_startLine_26 : decode cX3_startLine 26 = .ok (.iload_n 1, 1) := by decide +kernel
theorem dX3_startLine_27 : decode cX3_startLine 27 = .ok (.invokevirtual 105, 3) := by decide +kernel
theorem dX3_startLine_30 : decode cX3_startLine 30 = .ok (.aload_n 0, 1) := by decide +kernel
theorem dX3_startLine_31 : decode cX3_startLine 31 = .ok (.getfield 40, 3) := by decide +kernel
theorem dX3_startLine_34 : decode cX3_startLine 34 = .ok (.invokevirtual 74, 3) := by decide +kernel
theorem dX3_startLine_37 : decode cX3_startLine 37 = .ok (.ifCond .eq 4, 3) := by decide +kernel
theorem dX3_startLine_40 : decode cX3_startLine 40 = .ok (.return_, 1) := by decide +kernel
theorem dX3_startLine_41 : decode cX3_startLine 41 = .ok (.iinc 1 1, 3) := by decide +kernel
theorem dX3_startLine_44 : decode cX3_startLine 44 = .ok (.goto (-42), 3) := by decide +kernel
theorem dX3_startLine_47 : decode cX3_startLine 47 = .ok (.return_, 1) := by decide +kernel
theorem dX7_isDone_0 : decode cX7_isDone 0 = .ok (.aload_n 0, 1) := by decide +kernel
theorem dX7_isDone_1 : decode cX7_isDone 1 = .ok (.getfield 48, 3) := by decide +kernel
theorem dX7_isDone_4 : decode cX7_isDone 4 = .ok (.aload_n 0, 1) := by decide +kernel
theorem dX7_isDone_5 : decode cX7_isDone 5 = .ok (.getfield 38, 3) := by decide +kernel
theorem dX7_isDone_8 : decode cX7_isDone 8 = .ok (.invokevirtual 66, 3) := by decide +kernel
theorem dX7_isDone_11 : decode cX7_isDone 11 = .ok (.aload_n 0, 1) := by decide +kernel
theorem dX7_isDone_12 : decode cX7_isDone 12 = .ok (.invokevirtual 72, 3) := by decide +kernel
theorem dX7_isDone_15 : decode cX7_isDone 15 = .ok (.aload_n 0, 1) := by decide +kernel
theorem dX7_isDone_16 : decode cX7_isDone 16 = .ok (.iload_n 1, 1) := by decide +kernel
theorem dX7_isDone_17 : decode cX7_isDone 17 = .ok (.invokevirtual 75, 3) := by decide +kernel
theorem dX7_isDone_20 : decode cX7_isDone 20 = .ok (.aload_n 0, 1) := by decide +kernel
theorem dX7_isDone_21 : decode cX7_isDone 21 = .ok (.getfield 47, 3) := by decide +kernel
theorem dX7_isDone_24 : decode cX7_isDone 24 = .ok (.invokevirtual 79, 3) := by decide +kernel
theorem dX7_isDone_27 : decode cX7_isDone 27 = .ok (.ifCond .ne 7, 3) := by decide +kernel
theorem dX7_isDone_30 : decode cX7_isDone 30 = .ok (.aload_n 0, 1) := by decide +kernel
theorem dX7_isDone_31 : decode cX7_isDone 31 = .ok (.invokevirtual 85, 3) := by decide +kernel
theorem dX7_isDone_34 : decode cX7_isDone 34 = .ok (.aload_n 0, 1) := by decide +kernel
theorem dX7_isDone_35 : decode cX7_isDone 35 = .ok (.getfield 47, 3) := by decide +kernel
theorem dX7_isDone_38 : decode cX7_isDone 38 = .ok (.invokevirtual 79, 3) := by decide +kernel
theorem dX7_isDone_41 : decode cX7_isDone 41 = .ok (.ifCond .ne 7, 3) := by decide +kernel
theorem dX7_isDone_44 : decode cX7_isDone 44 = .ok (.aload_n 0, 1) := by decide +kernel
theorem dX7_isDone_45 : decode cX7_isDone 45 = .ok (.invokevirtual 88, 3) := by decide +kernel
theorem dX7_isDone_48 : decode cX7_isDone 48 = .ok (.aload_n 0, 1) := by decide +kernel
theorem dX7_isDone_49 : decode cX7_isDone 49 = .ok (.getfield 47, 3) := by decide +kernel
theorem dX7_isDone_52 : decode cX7_isDone 52 = .ok (.invokevirtual 79, 3) := by decide +kernel
theorem dX7_isDone_55 : decode cX7_isDone 55 = .ok (.ifCond .ne 7, 3) := by decide +kernel
theorem dX7_isDone_58 : decode cX7_isDone 58 = .ok (.aload_n 0, 1) := by decide +kernel
theorem dX7_isDone_59 : decode cX7_isDone 59 = .ok (.invokevirtual 91, 3) := by decide +kernel
theorem dX7_isDone_62 : decode cX7_isDone 62 = .ok (.aload_n 0, 1) := by decide +kernel
theorem dX7_isDone_63 : decode cX7_isDone 63 = .ok (.getfield 47, 3) := by decide +kernel
theorem dX7_isDone_66 : decode cX7_isDone 66 = .ok (.invokevirtual 79, 3) := by decide +kernel
theorem dX7_isDone_69 : decode cX7_isDone 69 = .ok (.ifCond .eq 16, 3) := by decide +kernel
theorem dX7_isDone_72 : decode cX7_isDone 72 = .ok (.aload_n 0, 1) := by decide +kernel
theorem dX7_isDone_73 : decode cX7_isDone 73 = .ok (.getfield 48, 3) := by decide +kernel
theorem dX7_isDone_76 : decode cX7_isDone 76 = .ok (.aload_n 0, 1) := by decide +kernel
theorem dX7_isDone_77 : decode cX7_isDone 77 = .ok (.getfield 38, 3) := by decide +kernel
theorem dX7_isDone_80 : decode cX7_isDone 80 = .ok (.invokevirtual 94, 3) := by decide +kernel
theorem dX7_isDone_83 : decode cX7_isDone 83 = .ok (.iconst 0, 1) := by decide +kernel
theorem dX7_isDone_84 : decode cX7_isDone 84 = .ok (.ireturn, 1) := by decide +kernel
theorem dX7_isDone_85 : decode cX7_isDone 85 = .ok (.aload_n 0, 1) := by decide +kernel
theorem dX7_isDone_86 : decode cX7_isDone 86 = .ok (.getfield 38, 3) := by decide +kernel
theorem dX7_isDone_89 : decode cX7_isDone 89 = .ok (.dup, 1) := by decide +kernel
theorem dX7_isDone_90 : decode cX7_isDone 90 = .ok (.getfield 97, 3) := by decide +kernel
theorem dX7_isDone_93 : decode cX7_isDone 93 = .ok (.iconst 1, 1) := by decide +kernel
theorem dX7_isDone_94 : decode cX7_isDone 94 = .ok (.iadd, 1) := by decide +kernel
theorem dX7_isDone_95 : decode cX7_isDone 95 = .ok (.putfield 97, 3) := by decide +kernel
theorem dX7_isDone_98 : decode cX7_isDone 98 = .ok (.aload_n 0, 1) := by decide +kernel
theorem dX7_isDone_99 : decode cX7_isDone 99 = .ok (.getfield 48, 3) := by decide +kernel
theorem dX7_isDone_102 : decode cX7_isDone 102 = .ok (.invokevirtual 101, 3) := by decide +kernel
theorem dX7_isDone_105 : decode cX7_isDone 105 = .ok (.aload_n 0, 1) := by decide +kernel
theorem dX7_isDone_106 : decode cX7_isDone 106 = .ok (.invokevirtual 104, 3) := by decide +kernel
theorem dX7_isDone_109 : decode cX7_isDone 109 = .ok (.iconst 1, 1) := by decide +kernel
theorem dX7_isDone_110 : decode cX7_isDone 110 = .ok (.ireturn, 1) := by decide +kernel
theorem dX3_walk_0 : decode cX3_walk 0 = .ok (.aload_n 0, 1) := by decide +kernel
theorem dX3_walk_1 : decode cX3_walk 1 = .ok (.getfield 41, 3) := by decide +kernel
theorem dX3_walk_4 : decode cX3_walk 4 = .ok (.aload_n 0, 1) := by decide +kernel
theorem dX3_walk_5 : decode cX3_walk 5 = .ok (.getfield 31, 3) := by decide +kernel
theorem dX3_walk_8 : decode cX3_walk 8 = .ok (.invokevirtual 49, 3) := by decide +kernel
theorem dX3_walk_11 : decode cX3_walk 11 = .ok (.aload_n 0, 1) := by decide +kernel
theorem dX3_walk_12 : decode cX3_walk 12 = .ok (.getfield 32, 3) := by decide +kernel
theorem dX3_walk_15 : decode cX3_walk 15 = .ok (.getfield 55, 3) := by decide +kernel
theorem dX3_walk_18 : decode cX3_walk 18 = .ok (.invokevirtual 59, 3) := by decide +kernel
theorem dX3_walk_21 : decode cX3_walk 21 = .ok (.aload_n 0, 1) := by decide +kernel
theorem dX3_walk_22 : decode cX3_walk 22 = .ok (.iconst 0, 1) := by decide +kernel
theorem dX3_walk_23 : decode cX3_walk 23 = .ok (.putfield 64, 3) := by decide +kernel
theorem dX3_walk_26 : decode cX3_walk 26 = .ok (.aload_n 0, 1) := by decide +kernel
theorem dX3_walk_27 : decode cX3_walk 27 = .ok (.iconst 0, 1) := by decide +kernel
theorem dX3_walk_28 : decode cX3_walk 28 = .ok (.putfield 68, 3) := by decide +kernel
theorem dX3_walk_31 : decode cX3_walk 31 = .ok (.aload_n 0, 1) := by decide +kernel
theorem dX3_walk_32 : decode cX3_walk 32 = .ok (.invokevirtual 71, 3) := by decide +kernel
theorem dX3_walk_35 : decode cX3_walk 35 = .ok (.iconst 0, 1) := by decide +kernel
theorem dX3_walk_36 : decode cX3_walk 36 = .ok (.istore_n 2, 1) := by decide +kernel
theorem dX3_walk_37 : decode cX3_walk 37 = .ok (.iload_n 2, 1) := by decide +kernel
theorem dX3_walk_38 : decode cX3_walk 38 = .ok (.iload_n 1, 1) := by decide +kernel
theorem dX3_walk_39 : decode cX3_walk 39 = .ok (.if_icmp .ge 81, 3) := by decide +kernel
theorem dX3_walk_42 : decode cX3_walk 42 = .ok (.aload_n 0, 1) := by decide +kernel
theorem dX3_walk_43 : decode cX3_walk 43 = .ok (.getfield 68, 3) := by decide +kernel
theorem dX3_walk_46 : decode cX3_walk 46 = .ok (.ifCond .le 74, 3) := by decide +kernel
theorem dX3_walk_49 : decode cX3_walk 49 = .ok (.aload_n 0, 1) := by decide +kernel
theorem dX3_walk_50 : decode cX3_walk 50 = .ok (.getfield 40, 3) := by decide +kernel
theorem dX3_walk_53 : decode cX3_walk 53 = .ok (.invokevirtual 74, 3) := by decide +kernel
theorem dX3_walk_56 : decode cX3_walk 56 = .ok (.ifCond .ne 64, 3) := by decide +kernel
theorem dX3_walk_59 : decode cX3_walk 59 = .ok (.aload_n 0, 1) := by decide +kernel
theorem dX3_walk_60 : decode cX3_walk 60 = .ok (.getfield 9, 3) := by decide +kernel
theorem dX3_walk_63 : decode cX3_walk 63 = .ok (.aload_n 0, 1) := by decide +kernel
theorem dX3_walk_64 : decode cX3_walk 64 = .ok (.getfield 64, 3) := by decide +kernel
theorem dX3_walk_67 : decode cX3_walk 67 = .ok (.iaload, 1) := by decide +kernel
theorem dX3_walk_68 : decode cX3_walk 68 = .ok (.istore_n 3, 1) := by decide +kernel
theorem dX3_walk_69 : decode cX3_walk 69 = .ok (.aload_n 0, 1) := by decide +kernel
theorem dX3_walk_70 : decode cX3_walk 70 = .ok (.getfield 15, 3) := by decide +kernel
theorem dX3_walk_73 : decode cX3_walk 73 = .ok (.aload_n 0, 1) := by decide +kernel
theorem dX3_walk_74 : decode cX3_walk 74 = .ok (.getfield 64, 3) := by decide +kernel
theorem dX3_walk_77 : decode cX3_walk 77 = .ok (.laload, 1) := by decide +kernel
theorem dX3_walk_78 : decode cX3_walk 78 = .ok (.lstore 4, 2) := by decide +kernel
theorem dX3_walk_80 : decode cX3_walk 80 = .ok (.aload_n 0, 1) := by decide +kernel
theorem dX3_walk_81 : decode cX3_walk 81 = .ok (.iload_n 3, 1) := by decide +kernel
theorem dX3_walk_82 : decode cX3_walk 82 = .ok (.lload 4, 2) := by decide +kernel
theorem dX3_walk_84 : decode cX3_walk 84 = .ok (.invokevirtual 80, 3) := by decide +kernel
theorem dX3_walk_87 : decode cX3_walk 87 = .ok (.ifCond .ne 6, 3) := by decide +kernel
theorem dX3_walk_90 : decode cX3_walk 90 = .ok (.goto 30, 3) := by decide +kernel
theorem dX3_walk_93 : decode cX3_walk 93 = .ok (.iload_n 2, 1) := by decide +kernel
theorem dX3_walk_94 : decode cX3_walk 94 = .ok (.ifCond .ne 10, 3) := by decide +kernel
theorem dX3_walk_97 : decode cX3_walk 97 = .ok (.aload_n 0, 1) := by decide +kernel
theorem dX3_walk_98 : decode cX3_walk 98 = .ok (.getfield 45, 3) := by decide +kernel
theorem dX3_walk_101 : decode cX3_walk 101 = .ok (.invokevirtual 84, 3) := by decide +kernel
theorem dX3_walk_104 : decode cX3_walk 104 = .ok (.aload_n 0, 1) := by decide +kernel
theorem dX3_walk_105 : decode cX3_walk 105 = .ok (.getfield 45, 3) := by decide +kernel
theorem dX3_walk_108 : decode cX3_walk 108 = .ok (.iload_n 3, 1) := by decide +kernel
theorem dX3_walk_109 : decode cX3_walk 109 = .ok (.lload 4, 2) := by decide +kernel
theorem dX3_walk_111 : decode cX3_walk 111 = .ok (.invokevirtual 89, 3) := by decide +kernel
theorem dX3_walk_114 : decode cX3_walk 114 = .ok (.iinc 2 1, 3) := by decide +kernel
theorem dX3_walk_117 : decode cX3_walk 117 = .ok (.goto (-80), 3) := by decide +kernel
theorem dX3_walk_120 : decode cX3_walk 120 = .ok (.iload_n 2, 1) := by decide +kernel
theorem dX3_walk_121 : decode cX3_walk 121 = .ok (.ifCond .le 10, 3) := by decide +kernel
theorem dX3_walk_124 : decode cX3_walk 124 = .ok (.aload_n 0, 1) := by decide +kernel
theorem dX3_walk_125 : decode cX3_walk 125 = .ok (.getfield 41, 3) := by decide +kernel
theorem dX3_walk_128 : decode cX3_walk 128 = .ok (.invokevirtual 93, 3) := by decide +kernel
theorem dX3_walk_131 : decode cX3_walk 131 = .ok (.iload_n 2, 1) := by decide +kernel
theorem dX3_walk_132 : decode cX3_walk 132 = .ok (.ireturn, 1) := by decide +kernel
theorem dX7_walk_0 : decode cX7_walk 0 = .ok (.iconst 0, 1) := by decide +kernel
theorem dX7_walk_1 : decode cX7_walk 1 = .ok (.istore_n 3, 1) := by decide +kernel
theorem dX7_walk_2 : decode cX7_walk 2 = .ok (.iload_n 3, 1) := by decide +kernel
theorem dX7_walk_3 : decode cX7_walk 3 = .ok (.iload_n 2, 1) := by decide +kernel
theorem dX7_walk_4 : decode cX7_walk 4 = .ok (.if_icmp .ge 27, 3) := by decide +kernel
theorem dX7_walk_7 : decode cX7_walk 7 = .ok (.aload_n 0, 1) := by decide +kernel
theorem dX7_walk_8 : decode cX7_walk 8 = .ok (.getfield 38, 3) := by decide +kernel
theorem dX7_walk_11 : decode cX7_walk 11 = .ok (.invokevirtual 56, 3) := by decide +kernel
theorem dX7_walk_14 : decode cX7_walk 14 = .ok (.ifCond .le 17, 3) := by decide +kernel
theorem dX7_walk_17 : decode cX7_walk 17 = .ok (.aload_n 0, 1) := by decide +kernel
theorem dX7_walk_18 : decode cX7_walk 18 = .ok (.iload_n 1, 1) := by decide +kernel
theorem dX7_walk_19 : decode cX7_walk 19 = .ok (.invokevirtual 62, 3) := by decide +kernel
theorem dX7_walk_22 : decode cX7_walk 22 = .ok (.ifCond .eq 9, 3) := by decide +kernel
theorem dX7_walk_25 : decode cX7_walk 25 = .ok (.iinc 3 1, 3) := by decide +kernel
theorem dX7_walk_28 : decode cX7_walk 28 = .ok (.goto (-26), 3) := by decide +kernel
theorem dX7_walk_31 : decode cX7_walk 31 = .ok (.iload_n 3, 1) := by decide +kernel
theorem dX7_walk_32 : decode cX7_walk 32 = .ok (.ireturn, 1) := by decide +kernel
def rm_cX7_askNodes : Room := { frames := 45, cells := 0, slots := 0, locals := 1294 }
def G_cX7_askNodes_b61 (p : Program) (l : Launch) (e : Env) (s : State) (m : MethodId) (args : Array Value) (below : List Frame) (meth : Method) (c : Code) (dC : Nat → ClassId) (dI : Nat → Nat → Nat) (kA : Nat → ClassId) (ad : Nat → Nat) (res : RS) (F : RS → Int32 → Option (RS)) : Prop := ∀ (σ : RS) (x1 : Int32), F σ x1 = some res → ∀ (H : Heap) (locs : List Loc) (ls : Array Slot), va_P (dC, dI) vwCl (c_w kA ad σ) H → va_S (jw_A 57 ad) s.heap H locs → lv_has ls 3 [(0, .ref (ad 24)), (1, .int x1)] → W p l e rm_cX7_askNodes s m args below meth c H locs 0 0 (c_Qu below dC dI kA ad args s res) (F0 m 61 ls [])
def G_cX7_askNodes_b45 (p : Program) (l : Launch) (e : Env) (s : State) (m : MethodId) (args : Array Value) (below : List Frame) (meth : Method) (c : Code) (dC : Nat → ClassId) (dI : Nat → Nat → Nat) (kA : Nat → ClassId) (ad : Nat → Nat) (res : RS) (F : RS → Int32 → Int32 → Int32 → Int32 → Option (RS)) : Prop := ∀ (σ : RS) (x1 : Int32) (x2 : Int32) (s0 : Int32) (s1 : Int32), F σ x1 x2 s0 s1 = some res → ∀ (H : Heap) (locs : List Loc) (ls : Array Slot), va_P (dC, dI) vwCl (c_w kA ad σ) H → va_S (jw_A 57 ad) s.heap H locs → lv_has ls 3 [(0, .ref (ad 24)), (1, .int x1), (2, .int x2)] → W p l e rm_cX7_askNodes s m args below meth c H locs 0 0 (c_Qu below dC dI kA ad args s res) (F0 m 45 ls [.int s0, .int s1, .ref (ad 28)])
def G_cX7_askNodes_b40 (p : Program) (l : Launch) (e : Env) (s : State) (m : MethodId) (args : Array Value) (below : List Frame) (meth : Method) (c : Code) (dC : Nat → ClassId) (dI : Nat → Nat → Nat) (kA : Nat → ClassId) (ad : Nat → Nat) (res : RS) (F : RS → Int32 → Int32 → Int32 → Option (RS)) : Prop := ∀ (σ : RS) (x1 : Int32) (x2 : Int32) (s0 : Int32), F σ x1 x2 s0 = some res → ∀ (H : Heap) (locs : List Loc) (ls : Array Slot), va_P (dC, dI) vwCl (c_w kA ad σ) H → va_S (jw_A 57 ad) s.heap H locs → lv_has ls 3 [(0, .ref (ad 24)), (1, .int x1), (2, .int x2)] → W p l e rm_cX7_askNodes s m args below meth c H locs 0 0 (c_Qu below dC dI kA ad args s res) (F0 m 40 ls [.int s0, .ref (ad 28)])
def G_cX7_askNodes_b2 (p : Program) (l : Launch) (e : Env) (s : State) (m : MethodId) (args : Array Value) (below : List Frame) (meth : Method) (c : Code) (dC : Nat → ClassId) (dI : Nat → Nat → Nat) (kA : Nat → ClassId) (ad : Nat → Nat) (res : RS) (F : RS → Int32 → Option (RS)) : Prop := ∀ (σ : RS) (x1 : Int32), F σ x1 = some res → ∀ (H : Heap) (locs : List Loc) (ls : Array Slot), va_P (dC, dI) vwCl (c_w kA ad σ) H → va_S (jw_A 57 ad) s.heap H locs → lv_has ls 3 [(0, .ref (ad 24)), (1, .int x1)] → W p l e rm_cX7_askNodes s m args below meth c H locs 0 0 (c_Qu below dC dI kA ad args s res) (F0 m 2 ls [])
def G_cX7_askNodes (p : Program) (l : Launch) (e : Env) (s : State) (m : MethodId) (args : Array Value) (below : List Frame) (meth : Method) (c : Code) (dC : Nat → ClassId) (dI : Nat → Nat → Nat) (kA : Nat → ClassId) (ad : Nat → Nat) (res : RS) (F : RS → Option (RS)) : Prop := ∀ (σ : RS), F σ = some res → ∀ (H : Heap) (locs : List Loc) (ls : Array Slot), va_P (dC, dI) vwCl (c_w kA ad σ) H → va_S (jw_A 57 ad) s.heap H locs → lv_has ls 3 [(0, .ref (ad 24))] → W p l e rm_cX7_askNodes s m args below meth c H locs 0 0 (c_Qu below dC dI kA ad args s res) (F0 m 0 ls [])
def s_cX7_askNodes_b61 (k2 : RS → Int32 → Option (RS)) (σ : RS) (x1 : Int32) : Option (RS) := kn_i (s_cX2_is σ) (fun v1 σ2 => if v1 = 0 then (kn_v (x1 + 1) (fun v3 => k2 σ2 v3)) else some σ2)
set_option maxRecDepth 100000 in
set_option maxHeartbeats 4000000 in
theorem p_cX7_askNodes_b61 {p : Program} {l : Launch} {e : Env} {s : State} {m : MethodId} {args : Array Value} {below : List Frame} {meth : Method} {c : Code} {dC : Nat → ClassId} {dI : Nat → Nat → Nat} {kA : Nat → ClassId} {ad : Nat → Nat} (C : jxc cX7_askNodes none 3 RX7 p s m args meth c dC dI kA) (hap : jw_ap 57 ad) {res : RS} {k2 : RS → Int32 → Option (RS)} (hk2 : G_cX7_askNodes_b2 p l e s m args below meth c dC dI kA ad res k2) : G_cX7_askNodes_b61 p l e s m args below meth c dC dI kA ad res (s_cX7_askNodes_b61 k2) := by
  obtain ⟨hx, hb, hml, hown, hts, hr, hlocks, hK, hN⟩ := id C
  intro σ x1 hf H locs ls hP hS hl
  unfold s_cX7_askNodes_b61 at hf
  refine lv_aload_n hx hb dX7_askNodes_61 rfl (lv_at hl 0 rfl) ?_
  refine c_gX7_failure hx hb hts hown hK hP (hts _ kw_334) dX7_askNodes_62 ?_
  refine jk_i hf (fun res hres => jv_run hx hb hml hown hts hK hN c_hG c_hNW hl.1 (n := 0) (As := []) (rest := []) (c_cX2_is l hap σ res hres) hP (ci := 2) (q0 := 16) rfl rfl rfl kw_584 kw_635 kw_582 kw_583 kw_56 ⟨rfl, rfl⟩ (by decide +kernel) rfl ⟨Nat.le_of_ble_eq_true rfl, Nat.le_of_ble_eq_true rfl⟩ rfl (Nat.le_of_ble_eq_true rfl) dX7_askNodes_65) hS (fun v1 σ2 H locs hP hS hf => ?_)
  refine jb_eq (tgt := 72) hx hb hf dX7_askNodes_68 (by decide) (fun hf => ?_) (fun hf => ?_)
  · obtain ⟨v3, e_v3, hf⟩ := kn_v_e hf
    refine lv_iinc (v := v3) (lv' := [(1, .int v3), (0, .ref (ad 24))]) hx hb dX7_askNodes_72 hl (k := 1) rfl e_v3 (by decide) rfl (fun ls hl => ?_)
    refine lv_goto (tgt := 2) hx hb dX7_askNodes_75 (by decide) ?_
    exact hk2 σ2 v3 hf H locs ls hP hS (lv_sub hl [1, 0] rfl)
  · exact jr_u hx hb hr hlocks hf hP hS dX7_askNodes_71
def s_cX7_askNodes_b45 (k2 : RS → Int32 → Option (RS)) (σ : RS) (x1 : Int32) (x2 : Int32) (s0 : Int32) (s1 : Int32) : Option (RS) := kn_st (rs_A σ 12 (upd (rg_A σ 12) s1.toNatClampNeg (vp_nar .boolean s0))) 12 s1 (fun σ1 => kn_ld (rg_A σ1 12) 12 x1 (fun v2 => if v2 = 0 then (s_cX7_askNodes_b61 k2 σ1 x1) else (kn_u (s_cX7_askNode σ1 x1 x2) (fun σ4 => s_cX7_askNodes_b61 k2 σ4 x1))))
set_option maxRecDepth 100000 in
set_option maxHeartbeats 4000000 in
theorem p_cX7_askNodes_b45 {p : Program} {l : Launch} {e : Env} {s : State} {m : MethodId} {args : Array Value} {below : List Frame} {meth : Method} {c : Code} {dC : Nat → ClassId} {dI : Nat → Nat → Nat} {kA : Nat → ClassId} {ad : Nat → Nat} (C : jxc cX7_askNodes none 3 RX7 p s m args meth c dC dI kA) (hap : jw_ap 57 ad) {res : RS} {k2 : RS → Int32 → Option (RS)} (hk2 : G_cX7_askNodes_b2 p l e s m args below meth c dC dI kA ad res k2) : G_cX7_askNodes_b45 p l e s m args below meth c dC dI kA ad res (s_cX7_askNodes_b45 k2) := by
  obtain ⟨hx, hb, hml, hown, hts, hr, hlocks, hK, hN⟩ := id C
  intro σ x1 x2 s0 s1 hf H locs ls hP hS hl
  unfold s_cX7_askNodes_b45 at hf
  refine ja_zst hx hb hK (c_D hap σ) hP hS 28 2 rfl rfl rfl c_sA12 hf dX7_askNodes_45 (fun σ1 H locs hP hS hf => ?_)
  refine lv_aload_n hx hb dX7_askNodes_46 rfl (lv_at hl 0 rfl) ?_
  refine c_gX7_reached hx hb hts hown hK hP (hts _ kw_340) dX7_askNodes_47 ?_
  refine lv_iload_n hx hb dX7_askNodes_50 rfl (lv_at hl 1 rfl) ?_
  refine ja_zld hx hb hK hP 28 2 rfl rfl hf dX7_askNodes_51 (fun v2 hf => ?_)
  refine jb_eq (tgt := 61) hx hb hf dX7_askNodes_52 (by decide) (fun hf => ?_) (fun hf => ?_)
  · exact (p_cX7_askNodes_b61 C hap hk2) σ1 x1 hf H locs ls hP hS (lv_sub hl [0, 1] rfl)
  · refine lv_aload_n hx hb dX7_askNodes_55 rfl (lv_at hl 0 rfl) ?_
    refine lv_iload_n hx hb dX7_askNodes_56 rfl (lv_at hl 1 rfl) ?_
    refine lv_iload_n hx hb dX7_askNodes_57 rfl (lv_at hl 2 rfl) ?_
    refine jk_u hf (fun res hres => jv_run hx hb hml hown hts hK hN c_hG c_hNW hl.1 (n := 2) (As := [.int x1, .int x2]) (rest := []) (c_cX7_askNode l hap σ1 x1 x2 res hres) hP (ci := 7) (q0 := 24) rfl rfl rfl kw_647 kw_644 kw_646 kw_17 kw_62 ⟨rfl, rfl⟩ (by decide +kernel) rfl ⟨Nat.le_of_ble_eq_true rfl, Nat.le_of_ble_eq_true rfl⟩ rfl (Nat.le_of_ble_eq_true rfl) dX7_askNodes_58) hS (fun σ4 H locs hP hS hf => ?_)
    exact (p_cX7_askNodes_b61 C hap hk2) σ4 x1 hf H locs ls hP hS (lv_sub hl [0, 1] rfl)
def s_cX7_askNodes_b40 (k2 : RS → Int32 → Option (RS)) (σ : RS) (x1 : Int32) (x2 : Int32) (s0 : Int32) : Option (RS) := s_cX7_askNodes_b45 k2 σ x1 x2 1 s0
set_option maxRecDepth 100000 in
set_option maxHeartbeats 4000000 in
theorem p_cX7_askNodes_b40 {p : Program} {l : Launch} {e : Env} {s : State} {m : MethodId} {args : Array Value} {below : List Frame} {meth : Method} {c : Code} {dC : Nat → ClassId} {dI : Nat → Nat → Nat} {kA : Nat → ClassId} {ad : Nat → Nat} (C : jxc cX7_askNodes none 3 RX7 p s m args meth c dC dI kA) (hap : jw_ap 57 ad) {res : RS} {k2 : RS → Int32 → Option (RS)} (hk2 : G_cX7_askNodes_b2 p l e s m args below meth c dC dI kA ad res k2) : G_cX7_askNodes_b40 p l e s m args below meth c dC dI kA ad res (s_cX7_askNodes_b40 k2) := by
  obtain ⟨hx, hb, hml, hown, hts, hr, hlocks, hK, hN⟩ := id C
  intro σ x1 x2 s0 hf H locs ls hP hS hl
  unfold s_cX7_askNodes_b40 at hf
  refine lv_iconst (v := 1) hx hb dX7_askNodes_40 (by decide) ?_
  refine lv_goto (tgt := 45) hx hb dX7_askNodes_41 (by decide) ?_
  exact (p_cX7_askNodes_b45 C hap hk2) σ x1 x2 1 s0 hf H locs ls hP hS (lv_sub hl [0, 1, 2] rfl)
def s_cX7_askNodes_b2 (k2 : RS → Int32 → Option (RS)) (σ : RS) (x1 : Int32) : Option (RS) := if (rg_I σ 2) ≤ x1 then some σ else (kn_i (s_cX7_messagesTo σ x1) (fun v1 σ2 => kn_ld (rg_A σ2 4) 12 x1 (fun v3 => if v3 = 0 then (if v1 ≤ 0 then (s_cX7_askNodes_b45 k2 σ2 x1 v1 0 x1) else (s_cX7_askNodes_b40 k2 σ2 x1 v1 x1)) else (s_cX7_askNodes_b40 k2 σ2 x1 v1 x1))))
set_option maxRecDepth 100000 in
set_option maxHeartbeats 4000000 in
theorem p_cX7_askNodes_b2 {p : Program} {l : Launch} {e : Env} {s : State} {m : MethodId} {args : Array Value} {below : List Frame} {meth : Method} {c : Code} {dC : Nat → ClassId} {dI : Nat → Nat → Nat} {kA : Nat → ClassId} {ad : Nat → Nat} (C : jxc cX7_askNodes none 3 RX7 p s m args meth c dC dI kA) (hap : jw_ap 57 ad) {res : RS} {k2 : RS → Int32 → Option (RS)} (hk2 : G_cX7_askNodes_b2 p l e s m args below meth c dC dI kA ad res k2) : G_cX7_askNodes_b2 p l e s m args below meth c dC dI kA ad res (s_cX7_askNodes_b2 k2) := by
  obtain ⟨hx, hb, hml, hown, hts, hr, hlocks, hK, hN⟩ := id C
  intro σ x1 hf H locs ls hP hS hl
  unfold s_cX7_askNodes_b2 at hf
  refine lv_iload_n hx hb dX7_askNodes_2 rfl (lv_at hl 1 rfl) ?_
  refine lv_aload_n hx hb dX7_askNodes_3 rfl (lv_at hl 0 rfl) ?_
  refine c_gX7_web hx hb hts hown hK hP (hts _ kw_332) dX7_askNodes_4 ?_
  refine c_gX10_nodes hx hb hts hown hK hP (hts _ kw_137) dX7_askNodes_7 ?_
  refine jc_ge (tgt := 78) hx hb hf dX7_askNodes_10 (by decide) (fun hf => ?_) (fun hf => ?_)
  · exact jr_u hx hb hr hlocks hf hP hS dX7_askNodes_78
  · refine lv_aload_n hx hb dX7_askNodes_13 rfl (lv_at hl 0 rfl) ?_
    refine lv_iload_n hx hb dX7_askNodes_14 rfl (lv_at hl 1 rfl) ?_
    refine jk_i hf (fun res hres => jv_run hx hb hml hown hts hK hN c_hG c_hNW hl.1 (n := 1) (As := [.int x1]) (rest := []) (c_cX7_messagesTo l hap σ x1 res hres) hP (ci := 7) (q0 := 24) rfl rfl rfl kw_643 kw_640 kw_642 kw_16 kw_62 ⟨rfl, rfl⟩ (by decide +kernel) rfl ⟨Nat.le_of_ble_eq_true rfl, Nat.le_of_ble_eq_true rfl⟩ rfl (Nat.le_of_ble_eq_true rfl) dX7_askNodes_15) hS (fun v1 σ2 H locs hP hS hf => ?_)
    refine lv_istore_n (lv' := [(2, .int v1), (0, .ref (ad 24)), (1, .int x1)]) hx hb dX7_askNodes_18 rfl hl (by decide) rfl (fun ls hl => ?_)
    refine lv_aload_n hx hb dX7_askNodes_19 rfl (lv_at hl 1 rfl) ?_
    refine c_gX7_reached hx hb hts hown hK hP (hts _ kw_340) dX7_askNodes_20 ?_
    refine lv_iload_n hx hb dX7_askNodes_23 rfl (lv_at hl 2 rfl) ?_
    refine lv_aload_n hx hb dX7_askNodes_24 rfl (lv_at hl 1 rfl) ?_
    refine c_gX7_web hx hb hts hown hK hP (hts _ kw_332) dX7_askNodes_25 ?_
    refine c_gX10_awake hx hb hts hown hK hP (hts _ kw_123) dX7_askNodes_28 ?_
    refine lv_iload_n hx hb dX7_askNodes_31 rfl (lv_at hl 2 rfl) ?_
    refine ja_zld hx hb hK hP 9 2 rfl rfl hf dX7_askNodes_32 (fun v3 hf => ?_)
    refine jb_ne (tgt := 40) hx hb hf dX7_askNodes_33 (by decide) (fun hf => ?_) (fun hf => ?_)
    · exact (p_cX7_askNodes_b40 C hap hk2) σ2 x1 v1 x1 hf H locs ls hP hS (lv_sub hl [1, 2, 0] rfl)
    · refine lv_iload_n hx hb dX7_askNodes_36 rfl (lv_at hl 0 rfl) ?_
      refine jb_le (tgt := 44) hx hb hf dX7_askNodes_37 (by decide) (fun hf => ?_) (fun hf => ?_)
      · refine lv_iconst (v := 0) hx hb dX7_askNodes_44 (by decide) ?_
        exact (p_cX7_askNodes_b45 C hap hk2) σ2 x1 v1 0 x1 hf H locs ls hP hS (lv_sub hl [1, 2, 0] rfl)
      · exact (p_cX7_askNodes_b40 C hap hk2) σ2 x1 v1 x1 hf H locs ls hP hS (lv_sub hl [1, 2, 0] rfl)
def f_cX7_askNodes_b2 : RS → Int32 → Option (RS) := kn_fix (fun _ _ => none) (s_cX7_askNodes_b2) FU
theorem q_cX7_askNodes_b2 {p : Program} {l : Launch} {e : Env} {s : State} {m : MethodId} {args : Array Value} {below : List Frame} {meth : Method} {c : Code} {dC : Nat → ClassId} {dI : Nat → Nat → Nat} {kA : Nat → ClassId} {ad : Nat → Nat} (C : jxc cX7_askNodes none 3 RX7 p s m args meth c dC dI kA) (hap : jw_ap 57 ad) {res : RS} : G_cX7_askNodes_b2 p l e s m args below meth c dC dI kA ad res (f_cX7_askNodes_b2) := kn_fix_ind (G := fun F => G_cX7_askNodes_b2 p l e s m args below meth c dC dI kA ad res F) (fun _ _ hf => by cases hf) (fun k2 hk2 => p_cX7_askNodes_b2 C hap hk2) FU
def s_cX7_askNodes (σ : RS) : Option (RS) := f_cX7_askNodes_b2 σ 0
set_option maxRecDepth 100000 in
set_option maxHeartbeats 4000000 in
theorem p_cX7_askNodes {p : Program} {l : Launch} {e : Env} {s : State} {m : MethodId} {args : Array Value} {below : List Frame} {meth : Method} {c : Code} {dC : Nat → ClassId} {dI : Nat → Nat → Nat} {kA : Nat → ClassId} {ad : Nat → Nat} (C : jxc cX7_askNodes none 3 RX7 p s m args meth c dC dI kA) (hap : jw_ap 57 ad) {res : RS} : G_cX7_askNodes p l e s m args below meth c dC dI kA ad res (s_cX7_askNodes) := by
  obtain ⟨hx, hb, hml, hown, hts, hr, hlocks, hK, hN⟩ := id C
  intro σ hf H locs ls hP hS hl
  unfold s_cX7_askNodes at hf
  refine lv_iconst (v := 0) hx hb dX7_askNodes_0 (by decide) ?_
  refine lv_istore_n (lv' := [(1, .int 0), (0, .ref (ad 24))]) hx hb dX7_askNodes_1 rfl hl (by decide) rfl (fun ls hl => ?_)
  exact (q_cX7_askNodes_b2 C hap) σ 0 hf H locs ls hP hS (lv_sub hl [1, 0] rfl)
theorem c_cX7_askNodes (l : Launch) {dC : Nat → ClassId} {dI : Nat → Nat → Nat} {kA : Nat → ClassId} {ad : Nat → Nat} (hap : jw_ap 57 ad) (σ : RS) (res : RS) (hf : s_cX7_askNodes σ = some res) : jm_u l KW NW (dC, dI) vwCl (jtys kA) (jw_A 57 ad) (c_w kA ad) yX7_askNodes cX7_askNodes 3 (rm_cX7_askNodes) [.ref (ad 24)] σ res := jm_u_of (by decide) (Nat.le_of_ble_eq_true rfl) (fun p e s m below meth c C hP hS ls hl => p_cX7_askNodes C hap σ hf s.heap [] ls hP hS hl)

def rm_cX3_startLine : Room := { frames := 46, cells := 0, slots := 0, locals := 1318 }
def G_cX3_startLine_b30 (p : Program) (l : Launch) (e : Env) (s : State) (m : MethodId) (args : Array Value) (below : List Frame) (meth : Method) (c : Code) (dC : Nat → ClassId) (dI : Nat → Nat → Nat) (kA : Nat → ClassId) (ad : Nat → Nat) (res : RS) (F : RS → Int32 → Option (RS)) : Prop := ∀ (σ : RS) (x1 : Int32), F σ x1 = some res → ∀ (H : Heap) (locs : List Loc) (ls : Array Slot), va_P (dC, dI) vwCl (c_w kA ad σ) H → va_S (jw_A 57 ad) s.heap H locs → lv_has ls 2 [(0, .ref (ad 31)), (1, .int x1)] → W p l e rm_cX3_startLine s m args below meth c H locs 0 0 (c_Qu below dC dI kA ad args s res) (F0 m 30 ls [])
def G_cX3_startLine_b2 (p : Program) (l : Launch) (e : Env) (s : State) (m : MethodId) (args : Array Value) (below : List Frame) (meth : Method) (c : Code) (dC : Nat → ClassId) (dI : Nat → Nat → Nat) (kA : Nat → ClassId) (ad : Nat → Nat) (res : RS) (F : RS → Int32 → Option (RS)) : Prop := ∀ (σ : RS) (x1 : Int32), F σ x1 = some res → ∀ (H : Heap) (locs : List Loc) (ls : Array Slot), va_P (dC, dI) vwCl (c_w kA ad σ) H → va_S (jw_A 57 ad) s.heap H locs → lv_has ls 2 [(0, .ref (ad 31)), (1, .int x1)] → W p l e rm_cX3_startLine s m args below meth c H locs 0 0 (c_Qu below dC dI kA ad args s res) (F0 m 2 ls [])
def G_cX3_startLine (p : Program) (l : Launch) (e : Env) (s : State) (m : MethodId) (args : Array Value) (below : List Frame) (meth : Method) (c : Code) (dC : Nat → ClassId) (dI : Nat → Nat → Nat) (kA : Nat → ClassId) (ad : Nat → Nat) (res : RS) (F : RS → Option (RS)) : Prop := ∀ (σ : RS), F σ = some res → ∀ (H : Heap) (locs : List Loc) (ls : Array Slot), va_P (dC, dI) vwCl (c_w kA ad σ) H → va_S (jw_A 57 ad) s.heap H locs → lv_has ls 2 [(0, .ref (ad 31))] → W p l e rm_cX3_startLine s m args below meth c H locs 0 0 (c_Qu below dC dI kA ad args s res) (F0 m 0 ls [])
def s_cX3_startLine_b30 (k2 : RS → Int32 → Option (RS)) (σ : RS) (x1 : Int32) : Option (RS) := kn_i (s_cX2_is σ) (fun v1 σ2 => if v1 = 0 then (kn_v (x1 + 1) (fun v3 => k2 σ2 v3)) else some σ2)
set_option maxRecDepth 100000 in
set_option maxHeartbeats 4000000 in
theorem p_cX3_startLine_b30 {p : Program} {l : Launch} {e : Env} {s : State} {m : MethodId} {args : Array Value} {below : List Frame} {meth : Method} {c : Code} {dC : Nat → ClassId} {dI : Nat → Nat → Nat} {kA : Nat → ClassId} {ad : Nat → Nat} (C : jxc cX3_startLine none 2 RX3 p s m args meth c dC dI kA) (hap : jw_ap 57 ad) {res : RS} {k2 : RS → Int32 → Option (RS)} (hk2 : G_cX3_startLine_b2 p l e s m args below meth c dC dI kA ad res k2) : G_cX3_startLine_b30 p l e s m args below meth c dC dI kA ad res (s_cX3_startLine_b30 k2) := by
  obtain ⟨hx, hb, hml, hown, hts, hr, hlocks, hK, hN⟩ := id C
  intro σ x1 hf H locs ls hP hS hl
  unfold s_cX3_startLine_b30 at hf
  refine lv_aload_n hx hb dX3_startLine_30 rfl (lv_at hl 0 rfl) ?_
  refine c_gX3_failure hx hb hts hown hK hP (hts _ kw_377) dX3_startLine_31 ?_
  refine jk_i hf (fun res hres => jv_run hx hb hml hown hts hK hN c_hG c_hNW hl.1 (n := 0) (As := []) (rest := []) (c_cX2_is l hap σ res hres) hP (ci := 2) (q0 := 16) rfl rfl rfl kw_584 kw_581 kw_582 kw_583 kw_56 ⟨rfl, rfl⟩ (by decide +kernel) rfl ⟨Nat.le_of_ble_eq_true rfl, Nat.le_of_ble_eq_true rfl⟩ rfl (Nat.le_of_ble_eq_true rfl) dX3_startLine_34) hS (fun v1 σ2 H locs hP hS hf => ?_)
  refine jb_eq (tgt := 41) hx hb hf dX3_startLine_37 (by decide) (fun hf => ?_) (fun hf => ?_)
  · obtain ⟨v3, e_v3, hf⟩ := kn_v_e hf
    refine lv_iinc (v := v3) (lv' := [(1, .int v3), (0, .ref (ad 31))]) hx hb dX3_startLine_41 hl (k := 1) rfl e_v3 (by decide) rfl (fun ls hl => ?_)
    refine lv_goto (tgt := 2) hx hb dX3_startLine_44 (by decide) ?_
    exact hk2 σ2 v3 hf H locs ls hP hS (lv_sub hl [1, 0] rfl)
  · exact jr_u hx hb hr hlocks hf hP hS dX3_startLine_40
def s_cX3_startLine_b2 (k2 : RS → Int32 → Option (RS)) (σ : RS) (x1 : Int32) : Option (RS) := if (rg_I σ 2) ≤ x1 then some σ else (kn_ld (rg_A σ 4) 12 x1 (fun v1 => if v1 = 0 then (s_cX3_startLine_b30 k2 σ x1) else (kn_u (s_cX3_sendOn σ x1) (fun σ3 => s_cX3_startLine_b30 k2 σ3 x1))))
set_option maxRecDepth 100000 in
set_option maxHeartbeats 4000000 in
theorem p_cX3_startLine_b2 {p : Program} {l : Launch} {e : Env} {s : State} {m : MethodId} {args : Array Value} {below : List Frame} {meth : Method} {c : Code} {dC : Nat → ClassId} {dI : Nat → Nat → Nat} {kA : Nat → ClassId} {ad : Nat → Nat} (C : jxc cX3_startLine none 2 RX3 p s m args meth c dC dI kA) (hap : jw_ap 57 ad) {res : RS} {k2 : RS → Int32 → Option (RS)} (hk2 : G_cX3_startLine_b2 p l e s m args below meth c dC dI kA ad res k2) : G_cX3_startLine_b2 p l e s m args below meth c dC dI kA ad res (s_cX3_startLine_b2 k2) := by
  obtain ⟨hx, hb, hml, hown, hts, hr, hlocks, hK, hN⟩ := id C
  intro σ x1 hf H locs ls hP hS hl
  unfold s_cX3_startLine_b2 at hf
  refine lv_iload_n hx hb dX3_startLine_2 rfl (lv_at hl 1 rfl) ?_
  refine lv_aload_n hx hb dX3_startLine_3 rfl (lv_at hl 0 rfl) ?_
  refine c_gX3_web hx hb hts hown hK hP (hts _ kw_375) dX3_startLine_4 ?_
  refine c_gX10_nodes hx hb hts hown hK hP (hts _ kw_136) dX3_startLine_7 ?_
  refine jc_ge (tgt := 47) hx hb hf dX3_startLine_10 (by decide) (fun hf => ?_) (fun hf => ?_)
  · exact jr_u hx hb hr hlocks hf hP hS dX3_startLine_47
  · refine lv_aload_n hx hb dX3_startLine_13 rfl (lv_at hl 0 rfl) ?_
    refine c_gX3_web hx hb hts hown hK hP (hts _ kw_375) dX3_startLine_14 ?_
    refine c_gX10_awake hx hb hts hown hK hP (hts _ kw_122) dX3_startLine_17 ?_
    refine lv_iload_n hx hb dX3_startLine_20 rfl (lv_at hl 1 rfl) ?_
    refine ja_zld hx hb hK hP 9 2 rfl rfl hf dX3_startLine_21 (fun v1 hf => ?_)
    refine jb_eq (tgt := 30) hx hb hf dX3_startLine_22 (by decide) (fun hf => ?_) (fun hf => ?_)
    · exact (p_cX3_startLine_b30 C hap hk2) σ x1 hf H locs ls hP hS (lv_sub hl [0, 1] rfl)
    · refine lv_aload_n hx hb dX3_startLine_25 rfl (lv_at hl 0 rfl) ?_
      refine lv_iload_n hx hb dX3_startLine_26 rfl (lv_at hl 1 rfl) ?_
      refine jk_u hf (fun res hres => jv_run hx hb hml hown hts hK hN c_hG c_hNW hl.1 (n := 1) (As := [.int x1]) (rest := []) (c_cX3_sendOn l hap σ x1 res hres) hP (ci := 3) (q0 := 31) rfl rfl rfl kw_547 kw_544 kw_546 kw_2 kw_63 ⟨rfl, rfl⟩ (by decide +kernel) rfl ⟨Nat.le_of_ble_eq_true rfl, Nat.le_of_ble_eq_true rfl⟩ rfl (Nat.le_of_ble_eq_true rfl) dX3_startLine_27) hS (fun σ3 H locs hP hS hf => ?_)
      exact (p_cX3_startLine_b30 C hap hk2) σ3 x1 hf H locs ls hP hS (lv_sub hl [0, 1] rfl)
def f_cX3_startLine_b2 : RS → Int32 → Option (RS) := kn_fix (fun _ _ => none) (s_cX3_startLine_b2) FU
theorem q_cX3_startLine_b2 {p : Program} {l : Launch} {e : Env} {s : State} {m : MethodId} {args : Array Value} {below : List Frame} {meth : Method} {c : Code} {dC : Nat → ClassId} {dI : Nat → Nat → Nat} {kA : Nat → ClassId} {ad : Nat → Nat} (C : jxc cX3_startLine none 2 RX3 p s m args meth c dC dI kA) (hap : jw_ap 57 ad) {res : RS} : G_cX3_startLine_b2 p l e s m args below meth c dC dI kA ad res (f_cX3_startLine_b2) := kn_fix_ind (G := fun F => G_cX3_startLine_b2 p l e s m args below meth c dC dI kA ad res F) (fun _ _ hf => by cases hf) (fun k2 hk2 => p_cX3_startLine_b2 C hap hk2) FU
def s_cX3_startLine (σ : RS) : Option (RS) := f_cX3_startLine_b2 σ 0
set_option maxRecDepth 100000 in
set_option maxHeartbeats 4000000 in
theorem p_cX3_startLine {p : Program} {l : Launch} {e : Env} {s : State} {m : MethodId} {args : Array Value} {below : List Frame} {meth : Method} {c : Code} {dC : Nat → ClassId} {dI : Nat → Nat → Nat} {kA : Nat → ClassId} {ad : Nat → Nat} (C : jxc cX3_startLine none 2 RX3 p s m args meth c dC dI kA) (hap : jw_ap 57 ad) {res : RS} : G_cX3_startLine p l e s m args below meth c dC dI kA ad res (s_cX3_startLine) := by
  obtain ⟨hx, hb, hml, hown, hts, hr, hlocks, hK, hN⟩ := id C
  intro σ hf H locs ls hP hS hl
  unfold s_cX3_startLine at hf
  refine lv_iconst (v := 0) hx hb dX3_startLine_0 (by decide) ?_
  refine lv_istore_n (lv' := [(1, .int 0), (0, .ref (ad 31))]) hx hb dX3_startLine_1 rfl hl (by decide) rfl (fun ls hl => ?_)
  exact (q_cX3_startLine_b2 C hap) σ 0 hf H locs ls hP hS (lv_sub hl [1, 0] rfl)
theorem c_cX3_startLine (l : Launch) {dC : Nat → ClassId} {dI : Nat → Nat → Nat} {kA : Nat → ClassId} {ad : Nat → Nat} (hap : jw_ap 57 ad) (σ : RS) (res : RS) (hf : s_cX3_startLine σ = some res) : jm_u l KW NW (dC, dI) vwCl (jtys kA) (jw_A 57 ad) (c_w kA ad) yX3_startLine cX3_startLine 2 (rm_cX3_startLine) [.ref (ad 31)] σ res := jm_u_of (by decide) (Nat.le_of_ble_eq_true rfl) (fun p e s m below meth c C hP hS ls hl => p_cX3_startLine C hap σ hf s.heap [] ls hP hS hl)

def rm_cX7_isDone : Room := { frames := 46, cells := 0, slots := 0, locals := 1317 }
def G_cX7_isDone_b62 (p : Program) (l : Launch) (e : Env) (s : State) (m : MethodId) (args : Array Value) (below : List Frame) (meth : Method) (c : Code) (dC : Nat → ClassId) (dI : Nat → Nat → Nat) (kA : Nat → ClassId) (ad : Nat → Nat) (res : Int32 × RS) (F : RS → Option (Int32 × RS)) : Prop := ∀ (σ : RS), F σ = some res → ∀ (H : Heap) (locs : List Loc) (ls : Array Slot), va_P (dC, dI) vwCl (c_w kA ad σ) H → va_S (jw_A 57 ad) s.heap H locs → lv_has ls 2 [(0, .ref (ad 24))] → W p l e rm_cX7_isDone s m args below meth c H locs 0 0 (c_Qi below dC dI kA ad args s res) (F0 m 62 ls [])
def G_cX7_isDone_b48 (p : Program) (l : Launch) (e : Env) (s : State) (m : MethodId) (args : Array Value) (below : List Frame) (meth : Method) (c : Code) (dC : Nat → ClassId) (dI : Nat → Nat → Nat) (kA : Nat → ClassId) (ad : Nat → Nat) (res : Int32 × RS) (F : RS → Option (Int32 × RS)) : Prop := ∀ (σ : RS), F σ = some res → ∀ (H : Heap) (locs : List Loc) (ls : Array Slot), va_P (dC, dI) vwCl (c_w kA ad σ) H → va_S (jw_A 57 ad) s.heap H locs → lv_has ls 2 [(0, .ref (ad 24))] → W p l e rm_cX7_isDone s m args below meth c H locs 0 0 (c_Qi below dC dI kA ad args s res) (F0 m 48 ls [])
def G_cX7_isDone_b34 (p : Program) (l : Launch) (e : Env) (s : State) (m : MethodId) (args : Array Value) (below : List Frame) (meth : Method) (c : Code) (dC : Nat → ClassId) (dI : Nat → Nat → Nat) (kA : Nat → ClassId) (ad : Nat → Nat) (res : Int32 × RS) (F : RS → Option (Int32 × RS)) : Prop := ∀ (σ : RS), F σ = some res → ∀ (H : Heap) (locs : List Loc) (ls : Array Slot), va_P (dC, dI) vwCl (c_w kA ad σ) H → va_S (jw_A 57 ad) s.heap H locs → lv_has ls 2 [(0, .ref (ad 24))] → W p l e rm_cX7_isDone s m args below meth c H locs 0 0 (c_Qi below dC dI kA ad args s res) (F0 m 34 ls [])
def G_cX7_isDone (p : Program) (l : Launch) (e : Env) (s : State) (m : MethodId) (args : Array Value) (below : List Frame) (meth : Method) (c : Code) (dC : Nat → ClassId) (dI : Nat → Nat → Nat) (kA : Nat → ClassId) (ad : Nat → Nat) (res : Int32 × RS) (F : RS → Int32 → Option (Int32 × RS)) : Prop := ∀ (σ : RS) (x1 : Int32), F σ x1 = some res → ∀ (H : Heap) (locs : List Loc) (ls : Array Slot), va_P (dC, dI) vwCl (c_w kA ad σ) H → va_S (jw_A 57 ad) s.heap H locs → lv_has ls 2 [(0, .ref (ad 24)), (1, .int x1)] → W p l e rm_cX7_isDone s m args below meth c H locs 0 0 (c_Qi below dC dI kA ad args s res) (F0 m 0 ls [])
def s_cX7_isDone_b62 (σ : RS) : Option (Int32 × RS) := kn_i (s_cX2_is σ) (fun v1 σ2 => if v1 = 0 then (kn_v (rs_I σ2 4 ((rg_I σ2 4) + 1)) (fun σ3 => kn_u (s_cX5_keepMark σ3) (fun σ5 => kn_u (s_cX7_tellMessages σ5) (fun σ7 => some (1, σ7))))) else (kn_u (s_cX5_backToMark σ2) (fun σ9 => some (0, σ9))))
set_option maxRecDepth 100000 in
set_option maxHeartbeats 4000000 in
theorem p_cX7_isDone_b62 {p : Program} {l : Launch} {e : Env} {s : State} {m : MethodId} {args : Array Value} {below : List Frame} {meth : Method} {c : Code} {dC : Nat → ClassId} {dI : Nat → Nat → Nat} {kA : Nat → ClassId} {ad : Nat → Nat} (C : jxc cX7_isDone (some .boolean) 2 RX7 p s m args meth c dC dI kA) (hap : jw_ap 57 ad) {res : Int32 × RS} : G_cX7_isDone_b62 p l e s m args below meth c dC dI kA ad res (s_cX7_isDone_b62) := by
  obtain ⟨hx, hb, hml, hown, hts, hr, hlocks, hK, hN⟩ := id C
  intro σ hf H locs ls hP hS hl
  unfold s_cX7_isDone_b62 at hf
  refine lv_aload_n hx hb dX7_isDone_62 rfl (lv_at hl 0 rfl) ?_
  refine c_gX7_failure hx hb hts hown hK hP (hts _ kw_334) dX7_isDone_63 ?_
  refine jk_i hf (fun res hres => jv_run hx hb hml hown hts hK hN c_hG c_hNW hl.1 (n := 0) (As := []) (rest := []) (c_cX2_is l hap σ res hres) hP (ci := 2) (q0 := 16) rfl rfl rfl kw_584 kw_635 kw_582 kw_583 kw_56 ⟨rfl, rfl⟩ (by decide +kernel) rfl ⟨Nat.le_of_ble_eq_true rfl, Nat.le_of_ble_eq_true rfl⟩ rfl (Nat.le_of_ble_eq_true rfl) dX7_isDone_66) hS (fun v1 σ2 H locs hP hS hf => ?_)
  refine jb_eq (tgt := 85) hx hb hf dX7_isDone_69 (by decide) (fun hf => ?_) (fun hf => ?_)
  · refine lv_aload_n hx hb dX7_isDone_85 rfl (lv_at hl 0 rfl) ?_
    refine c_gX7_web hx hb hts hown hK hP (hts _ kw_332) dX7_isDone_86 ?_
    refine lv_dup hx hb dX7_isDone_89 rfl ?_
    refine c_gX10_rounds hx hb hts hown hK hP (hts _ kw_145) dX7_isDone_90 ?_
    refine lv_iconst (v := 1) hx hb dX7_isDone_93 (by decide) ?_
    refine lv_iadd hx hb dX7_isDone_94 ?_
    refine c_pX10_rounds hx hb hts hown hK hap hP hS hf (hts _ kw_145) dX7_isDone_95 (fun σ3 H locs hP hS hf => ?_)
    refine lv_aload_n hx hb dX7_isDone_98 rfl (lv_at hl 0 rfl) ?_
    refine c_gX7_past hx hb hts hown hK hP (hts _ kw_335) dX7_isDone_99 ?_
    refine jk_u hf (fun res hres => jv_run hx hb hml hown hts hK hN c_hG c_hNW hl.1 (n := 0) (As := []) (rest := []) (c_cX5_keepMark l hap σ3 res hres) hP (ci := 5) (q0 := 17) rfl rfl rfl kw_607 kw_681 kw_605 kw_606 kw_57 ⟨rfl, rfl⟩ (by decide +kernel) rfl ⟨Nat.le_of_ble_eq_true rfl, Nat.le_of_ble_eq_true rfl⟩ rfl (Nat.le_of_ble_eq_true rfl) dX7_isDone_102) hS (fun σ5 H locs hP hS hf => ?_)
    refine lv_aload_n hx hb dX7_isDone_105 rfl (lv_at hl 0 rfl) ?_
    refine jk_u hf (fun res hres => jv_run hx hb hml hown hts hK hN c_hG c_hNW hl.1 (n := 0) (As := []) (rest := []) (c_cX7_tellMessages l hap σ5 res hres) hP (ci := 7) (q0 := 24) rfl rfl rfl kw_685 kw_682 kw_684 kw_22 kw_62 ⟨rfl, rfl⟩ (by decide +kernel) rfl ⟨Nat.le_of_ble_eq_true rfl, Nat.le_of_ble_eq_true rfl⟩ rfl (Nat.le_of_ble_eq_true rfl) dX7_isDone_106) hS (fun σ7 H locs hP hS hf => ?_)
    refine lv_iconst (v := 1) hx hb dX7_isDone_109 (by decide) ?_
    exact jr_i hx hb hr hlocks hf (by decide) hP hS dX7_isDone_110
  · refine lv_aload_n hx hb dX7_isDone_72 rfl (lv_at hl 0 rfl) ?_
    refine c_gX7_past hx hb hts hown hK hP (hts _ kw_335) dX7_isDone_73 ?_
    refine lv_aload_n hx hb dX7_isDone_76 rfl (lv_at hl 0 rfl) ?_
    refine c_gX7_web hx hb hts hown hK hP (hts _ kw_332) dX7_isDone_77 ?_
    refine jk_u hf (fun res hres => jv_run hx hb hml hown hts hK hN c_hG c_hNW hl.1 (n := 1) (As := [.ref (ad 7)]) (rest := []) (c_cX5_backToMark l hap σ2 res hres) hP (ci := 5) (q0 := 17) rfl rfl rfl kw_676 kw_673 kw_674 kw_675 kw_57 ⟨rfl, rfl⟩ (by decide +kernel) rfl ⟨Nat.le_of_ble_eq_true rfl, Nat.le_of_ble_eq_true rfl⟩ rfl (Nat.le_of_ble_eq_true rfl) dX7_isDone_80) hS (fun σ9 H locs hP hS hf => ?_)
    refine lv_iconst (v := 0) hx hb dX7_isDone_83 (by decide) ?_
    exact jr_i hx hb hr hlocks hf (by decide) hP hS dX7_isDone_84
def s_cX7_isDone_b48 (σ : RS) : Option (Int32 × RS) := kn_i (s_cX2_is σ) (fun v1 σ2 => if v1 = 0 then (kn_u (s_cX7_sumParts σ2) (fun σ4 => s_cX7_isDone_b62 σ4)) else (s_cX7_isDone_b62 σ2))
set_option maxRecDepth 100000 in
set_option maxHeartbeats 4000000 in
theorem p_cX7_isDone_b48 {p : Program} {l : Launch} {e : Env} {s : State} {m : MethodId} {args : Array Value} {below : List Frame} {meth : Method} {c : Code} {dC : Nat → ClassId} {dI : Nat → Nat → Nat} {kA : Nat → ClassId} {ad : Nat → Nat} (C : jxc cX7_isDone (some .boolean) 2 RX7 p s m args meth c dC dI kA) (hap : jw_ap 57 ad) {res : Int32 × RS} : G_cX7_isDone_b48 p l e s m args below meth c dC dI kA ad res (s_cX7_isDone_b48) := by
  obtain ⟨hx, hb, hml, hown, hts, hr, hlocks, hK, hN⟩ := id C
  intro σ hf H locs ls hP hS hl
  unfold s_cX7_isDone_b48 at hf
  refine lv_aload_n hx hb dX7_isDone_48 rfl (lv_at hl 0 rfl) ?_
  refine c_gX7_failure hx hb hts hown hK hP (hts _ kw_334) dX7_isDone_49 ?_
  refine jk_i hf (fun res hres => jv_run hx hb hml hown hts hK hN c_hG c_hNW hl.1 (n := 0) (As := []) (rest := []) (c_cX2_is l hap σ res hres) hP (ci := 2) (q0 := 16) rfl rfl rfl kw_584 kw_635 kw_582 kw_583 kw_56 ⟨rfl, rfl⟩ (by decide +kernel) rfl ⟨Nat.le_of_ble_eq_true rfl, Nat.le_of_ble_eq_true rfl⟩ rfl (Nat.le_of_ble_eq_true rfl) dX7_isDone_52) hS (fun v1 σ2 H locs hP hS hf => ?_)
  refine jb_ne (tgt := 62) hx hb hf dX7_isDone_55 (by decide) (fun hf => ?_) (fun hf => ?_)
  · exact (p_cX7_isDone_b62 C hap) σ2 hf H locs ls hP hS (lv_sub hl [0] rfl)
  · refine lv_aload_n hx hb dX7_isDone_58 rfl (lv_at hl 0 rfl) ?_
    refine jk_u hf (fun res hres => jv_run hx hb hml hown hts hK hN c_hG c_hNW hl.1 (n := 0) (As := []) (rest := []) (c_cX7_sumParts l hap σ2 res hres) hP (ci := 7) (q0 := 24) rfl rfl rfl kw_672 kw_669 kw_671 kw_21 kw_62 ⟨rfl, rfl⟩ (by decide +kernel) rfl ⟨Nat.le_of_ble_eq_true rfl, Nat.le_of_ble_eq_true rfl⟩ rfl (Nat.le_of_ble_eq_true rfl) dX7_isDone_59) hS (fun σ4 H locs hP hS hf => ?_)
    exact (p_cX7_isDone_b62 C hap) σ4 hf H locs ls hP hS (lv_sub hl [0] rfl)
def s_cX7_isDone_b34 (σ : RS) : Option (Int32 × RS) := kn_i (s_cX2_is σ) (fun v1 σ2 => if v1 = 0 then (kn_u (s_cX7_changeNodes σ2) (fun σ4 => s_cX7_isDone_b48 σ4)) else (s_cX7_isDone_b48 σ2))
set_option maxRecDepth 100000 in
set_option maxHeartbeats 4000000 in
theorem p_cX7_isDone_b34 {p : Program} {l : Launch} {e : Env} {s : State} {m : MethodId} {args : Array Value} {below : List Frame} {meth : Method} {c : Code} {dC : Nat → ClassId} {dI : Nat → Nat → Nat} {kA : Nat → ClassId} {ad : Nat → Nat} (C : jxc cX7_isDone (some .boolean) 2 RX7 p s m args meth c dC dI kA) (hap : jw_ap 57 ad) {res : Int32 × RS} : G_cX7_isDone_b34 p l e s m args below meth c dC dI kA ad res (s_cX7_isDone_b34) := by
  obtain ⟨hx, hb, hml, hown, hts, hr, hlocks, hK, hN⟩ := id C
  intro σ hf H locs ls hP hS hl
  unfold s_cX7_isDone_b34 at hf
  refine lv_aload_n hx hb dX7_isDone_34 rfl (lv_at hl 0 rfl) ?_
  refine c_gX7_failure hx hb hts hown hK hP (hts _ kw_334) dX7_isDone_35 ?_
  refine jk_i hf (fun res hres => jv_run hx hb hml hown hts hK hN c_hG c_hNW hl.1 (n := 0) (As := []) (rest := []) (c_cX2_is l hap σ res hres) hP (ci := 2) (q0 := 16) rfl rfl rfl kw_584 kw_635 kw_582 kw_583 kw_56 ⟨rfl, rfl⟩ (by decide +kernel) rfl ⟨Nat.le_of_ble_eq_true rfl, Nat.le_of_ble_eq_true rfl⟩ rfl (Nat.le_of_ble_eq_true rfl) dX7_isDone_38) hS (fun v1 σ2 H locs hP hS hf => ?_)
  refine jb_ne (tgt := 48) hx hb hf dX7_isDone_41 (by decide) (fun hf => ?_) (fun hf => ?_)
  · exact (p_cX7_isDone_b48 C hap) σ2 hf H locs ls hP hS (lv_sub hl [0] rfl)
  · refine lv_aload_n hx hb dX7_isDone_44 rfl (lv_at hl 0 rfl) ?_
    refine jk_u hf (fun res hres => jv_run hx hb hml hown hts hK hN c_hG c_hNW hl.1 (n := 0) (As := []) (rest := []) (c_cX7_changeNodes l hap σ2 res hres) hP (ci := 7) (q0 := 24) rfl rfl rfl kw_667 kw_664 kw_666 kw_20 kw_62 ⟨rfl, rfl⟩ (by decide +kernel) rfl ⟨Nat.le_of_ble_eq_true rfl, Nat.le_of_ble_eq_true rfl⟩ rfl (Nat.le_of_ble_eq_true rfl) dX7_isDone_45) hS (fun σ4 H locs hP hS hf => ?_)
    exact (p_cX7_isDone_b48 C hap) σ4 hf H locs ls hP hS (lv_sub hl [0] rfl)
def s_cX7_isDone (σ : RS) (x1 : Int32) : Option (Int32 × RS) := kn_u (s_cX5_mark σ) (fun σ2 => kn_u (s_cX7_begin σ2) (fun σ4 => kn_u (s_cX7_sendAll σ4 x1) (fun σ6 => kn_i (s_cX2_is σ6) (fun v7 σ8 => if v7 = 0 then (kn_u (s_cX7_askNodes σ8) (fun σ10 => s_cX7_isDone_b34 σ10)) else (s_cX7_isDone_b34 σ8)))))
set_option maxRecDepth 100000 in
set_option maxHeartbeats 4000000 in
theorem p_cX7_isDone {p : Program} {l : Launch} {e : Env} {s : State} {m : MethodId} {args : Array Value} {below : List Frame} {meth : Method} {c : Code} {dC : Nat → ClassId} {dI : Nat → Nat → Nat} {kA : Nat → ClassId} {ad : Nat → Nat} (C : jxc cX7_isDone (some .boolean) 2 RX7 p s m args meth c dC dI kA) (hap : jw_ap 57 ad) {res : Int32 × RS} : G_cX7_isDone p l e s m args below meth c dC dI kA ad res (s_cX7_isDone) := by
  obtain ⟨hx, hb, hml, hown, hts, hr, hlocks, hK, hN⟩ := id C
  intro σ x1 hf H locs ls hP hS hl
  unfold s_cX7_isDone at hf
  refine lv_aload_n hx hb dX7_isDone_0 rfl (lv_at hl 0 rfl) ?_
  refine c_gX7_past hx hb hts hown hK hP (hts _ kw_335) dX7_isDone_1 ?_
  refine lv_aload_n hx hb dX7_isDone_4 rfl (lv_at hl 0 rfl) ?_
  refine c_gX7_web hx hb hts hown hK hP (hts _ kw_332) dX7_isDone_5 ?_
  refine jk_u hf (fun res hres => jv_run hx hb hml hown hts hK hN c_hG c_hNW hl.1 (n := 1) (As := [.ref (ad 7)]) (rest := []) (c_cX5_mark l hap σ res hres) hP (ci := 5) (q0 := 17) rfl rfl rfl kw_524 kw_620 kw_522 kw_523 kw_57 ⟨rfl, rfl⟩ (by decide +kernel) rfl ⟨Nat.le_of_ble_eq_true rfl, Nat.le_of_ble_eq_true rfl⟩ rfl (Nat.le_of_ble_eq_true rfl) dX7_isDone_8) hS (fun σ2 H locs hP hS hf => ?_)
  refine lv_aload_n hx hb dX7_isDone_11 rfl (lv_at hl 0 rfl) ?_
  refine jk_u hf (fun res hres => jv_run hx hb hml hown hts hK hN c_hG c_hNW hl.1 (n := 0) (As := []) (rest := []) (c_cX7_begin l hap σ2 res hres) hP (ci := 7) (q0 := 24) rfl rfl rfl kw_624 kw_621 kw_623 kw_12 kw_62 ⟨rfl, rfl⟩ (by decide +kernel) rfl ⟨Nat.le_of_ble_eq_true rfl, Nat.le_of_ble_eq_true rfl⟩ rfl (Nat.le_of_ble_eq_true rfl) dX7_isDone_12) hS (fun σ4 H locs hP hS hf => ?_)
  refine lv_aload_n hx hb dX7_isDone_15 rfl (lv_at hl 0 rfl) ?_
  refine lv_iload_n hx hb dX7_isDone_16 rfl (lv_at hl 1 rfl) ?_
  refine jk_u hf (fun res hres => jv_run hx hb hml hown hts hK hN c_hG c_hNW hl.1 (n := 1) (As := [.int x1]) (rest := []) (c_cX7_sendAll l hap σ4 x1 res hres) hP (ci := 7) (q0 := 24) rfl rfl rfl kw_629 kw_626 kw_628 kw_13 kw_62 ⟨rfl, rfl⟩ (by decide +kernel) rfl ⟨Nat.le_of_ble_eq_true rfl, Nat.le_of_ble_eq_true rfl⟩ rfl (Nat.le_of_ble_eq_true rfl) dX7_isDone_17) hS (fun σ6 H locs hP hS hf => ?_)
  refine lv_aload_n hx hb dX7_isDone_20 rfl (lv_at hl 0 rfl) ?_
  refine c_gX7_failure hx hb hts hown hK hP (hts _ kw_334) dX7_isDone_21 ?_
  refine jk_i hf (fun res hres => jv_run hx hb hml hown hts hK hN c_hG c_hNW hl.1 (n := 0) (As := []) (rest := []) (c_cX2_is l hap σ6 res hres) hP (ci := 2) (q0 := 16) rfl rfl rfl kw_584 kw_635 kw_582 kw_583 kw_56 ⟨rfl, rfl⟩ (by decide +kernel) rfl ⟨Nat.le_of_ble_eq_true rfl, Nat.le_of_ble_eq_true rfl⟩ rfl (Nat.le_of_ble_eq_true rfl) dX7_isDone_24) hS (fun v7 σ8 H locs hP hS hf => ?_)
  refine jb_ne (tgt := 34) hx hb hf dX7_isDone_27 (by decide) (fun hf => ?_) (fun hf => ?_)
  · exact (p_cX7_isDone_b34 C hap) σ8 hf H locs ls hP hS (lv_sub hl [0] rfl)
  · refine lv_aload_n hx hb dX7_isDone_30 rfl (lv_at hl 0 rfl) ?_
    refine jk_u hf (fun res hres => jv_run hx hb hml hown hts hK hN c_hG c_hNW hl.1 (n := 0) (As := []) (rest := []) (c_cX7_askNodes l hap σ8 res hres) hP (ci := 7) (q0 := 24) rfl rfl rfl kw_639 kw_636 kw_638 kw_15 kw_62 ⟨rfl, rfl⟩ (by decide +kernel) rfl ⟨Nat.le_of_ble_eq_true rfl, Nat.le_of_ble_eq_true rfl⟩ rfl (Nat.le_of_ble_eq_true rfl) dX7_isDone_31) hS (fun σ10 H locs hP hS hf => ?_)
    exact (p_cX7_isDone_b34 C hap) σ10 hf H locs ls hP hS (lv_sub hl [0] rfl)
theorem c_cX7_isDone (l : Launch) {dC : Nat → ClassId} {dI : Nat → Nat → Nat} {kA : Nat → ClassId} {ad : Nat → Nat} (hap : jw_ap 57 ad) (σ : RS) (x1 : Int32) (res : Int32 × RS) (hf : s_cX7_isDone σ x1 = some res) : jm_i l KW NW (dC, dI) vwCl (jtys kA) (jw_A 57 ad) (c_w kA ad) yX7_isDone cX7_isDone 2 .boolean (rm_cX7_isDone) [.ref (ad 24), .int x1] σ res := jm_i_of (by decide) (Nat.le_of_ble_eq_true rfl) (fun p e s m below meth c C hP hS ls hl => p_cX7_isDone C hap σ x1 hf s.heap [] ls hP hS hl)

def rm_cX3_walk : Room := { frames := 47, cells := 0, slots := 0, locals := 1343 }
def G_cX3_walk_b120 (p : Program) (l : Launch) (e : Env) (s : State) (m : MethodId) (args : Array Value) (below : List Frame) (meth : Method) (c : Code) (dC : Nat → ClassId) (dI : Nat → Nat → Nat) (kA : Nat → ClassId) (ad : Nat → Nat) (res : Int32 × RS) (F : RS → Int32 → Option (Int32 × RS)) : Prop := ∀ (σ : RS) (x2 : Int32), F σ x2 = some res → ∀ (H : Heap) (locs : List Loc) (ls : Array Slot), va_P (dC, dI) vwCl (c_w kA ad σ) H → va_S (jw_A 57 ad) s.heap H locs → lv_has ls 6 [(0, .ref (ad 31)), (2, .int x2)] → W p l e rm_cX3_walk s m args below meth c H locs 0 0 (c_Qi below dC dI kA ad args s res) (F0 m 120 ls [])
def G_cX3_walk_b104 (p : Program) (l : Launch) (e : Env) (s : State) (m : MethodId) (args : Array Value) (below : List Frame) (meth : Method) (c : Code) (dC : Nat → ClassId) (dI : Nat → Nat → Nat) (kA : Nat → ClassId) (ad : Nat → Nat) (res : Int32 × RS) (F : RS → Int32 → Int32 → Int32 → Int64 → Option (Int32 × RS)) : Prop := ∀ (σ : RS) (x1 : Int32) (x2 : Int32) (x3 : Int32) (x4 : Int64), F σ x1 x2 x3 x4 = some res → ∀ (H : Heap) (locs : List Loc) (ls : Array Slot), va_P (dC, dI) vwCl (c_w kA ad σ) H → va_S (jw_A 57 ad) s.heap H locs → lv_has ls 6 [(0, .ref (ad 31)), (1, .int x1), (2, .int x2), (3, .int x3), (4, .long x4)] → W p l e rm_cX3_walk s m args below meth c H locs 0 0 (c_Qi below dC dI kA ad args s res) (F0 m 104 ls [])
def G_cX3_walk_b90 (p : Program) (l : Launch) (e : Env) (s : State) (m : MethodId) (args : Array Value) (below : List Frame) (meth : Method) (c : Code) (dC : Nat → ClassId) (dI : Nat → Nat → Nat) (kA : Nat → ClassId) (ad : Nat → Nat) (res : Int32 × RS) (F : RS → Int32 → Option (Int32 × RS)) : Prop := ∀ (σ : RS) (x2 : Int32), F σ x2 = some res → ∀ (H : Heap) (locs : List Loc) (ls : Array Slot), va_P (dC, dI) vwCl (c_w kA ad σ) H → va_S (jw_A 57 ad) s.heap H locs → lv_has ls 6 [(0, .ref (ad 31)), (2, .int x2)] → W p l e rm_cX3_walk s m args below meth c H locs 0 0 (c_Qi below dC dI kA ad args s res) (F0 m 90 ls [])
def G_cX3_walk_b37 (p : Program) (l : Launch) (e : Env) (s : State) (m : MethodId) (args : Array Value) (below : List Frame) (meth : Method) (c : Code) (dC : Nat → ClassId) (dI : Nat → Nat → Nat) (kA : Nat → ClassId) (ad : Nat → Nat) (res : Int32 × RS) (F : RS → Int32 → Int32 → Option (Int32 × RS)) : Prop := ∀ (σ : RS) (x1 : Int32) (x2 : Int32), F σ x1 x2 = some res → ∀ (H : Heap) (locs : List Loc) (ls : Array Slot), va_P (dC, dI) vwCl (c_w kA ad σ) H → va_S (jw_A 57 ad) s.heap H locs → lv_has ls 6 [(0, .ref (ad 31)), (1, .int x1), (2, .int x2)] → W p l e rm_cX3_walk s m args below meth c H locs 0 0 (c_Qi below dC dI kA ad args s res) (F0 m 37 ls [])
def G_cX3_walk (p : Program) (l : Launch) (e : Env) (s : State) (m : MethodId) (args : Array Value) (below : List Frame) (meth : Method) (c : Code) (dC : Nat → ClassId) (dI : Nat → Nat → Nat) (kA : Nat → ClassId) (ad : Nat → Nat) (res : Int32 × RS) (F : RS → Int32 → Option (Int32 × RS)) : Prop := ∀ (σ : RS) (x1 : Int32), F σ x1 = some res → ∀ (H : Heap) (locs : List Loc) (ls : Array Slot), va_P (dC, dI) vwCl (c_w kA ad σ) H → va_S (jw_A 57 ad) s.heap H locs → lv_has ls 6 [(0, .ref (ad 31)), (1, .int x1)] → W p l e rm_cX3_walk s m args below meth c H locs 0 0 (c_Qi below dC dI kA ad args s res) (F0 m 0 ls [])
def s_cX3_walk_b120 (σ : RS) (x2 : Int32) : Option (Int32 × RS) := if x2 ≤ 0 then (some (x2, σ)) else (kn_u (s_cX5_keepMark σ) (fun σ2 => some (x2, σ2)))
set_option maxRecDepth 100000 in
set_option maxHeartbeats 4000000 in
theorem p_cX3_walk_b120 {p : Program} {l : Launch} {e : Env} {s : State} {m : MethodId} {args : Array Value} {below : List Frame} {meth : Method} {c : Code} {dC : Nat → ClassId} {dI : Nat → Nat → Nat} {kA : Nat → ClassId} {ad : Nat → Nat} (C : jxc cX3_walk (some .int) 6 RX3 p s m args meth c dC dI kA) (hap : jw_ap 57 ad) {res : Int32 × RS} : G_cX3_walk_b120 p l e s m args below meth c dC dI kA ad res (s_cX3_walk_b120) := by
  obtain ⟨hx, hb, hml, hown, hts, hr, hlocks, hK, hN⟩ := id C
  intro σ x2 hf H locs ls hP hS hl
  unfold s_cX3_walk_b120 at hf
  refine lv_iload_n hx hb dX3_walk_120 rfl (lv_at hl 1 rfl) ?_
  refine jb_le (tgt := 131) hx hb hf dX3_walk_121 (by decide) (fun hf => ?_) (fun hf => ?_)
  · refine lv_iload_n hx hb dX3_walk_131 rfl (lv_at hl 1 rfl) ?_
    exact jr_i hx hb hr hlocks hf rfl hP hS dX3_walk_132
  · refine lv_aload_n hx hb dX3_walk_124 rfl (lv_at hl 0 rfl) ?_
    refine c_gX3_past hx hb hts hown hK hP (hts _ kw_378) dX3_walk_125 ?_
    refine jk_u hf (fun res hres => jv_run hx hb hml hown hts hK hN c_hG c_hNW hl.1 (n := 0) (As := []) (rest := []) (c_cX5_keepMark l hap σ res hres) hP (ci := 5) (q0 := 17) rfl rfl rfl kw_607 kw_604 kw_605 kw_606 kw_57 ⟨rfl, rfl⟩ (by decide +kernel) rfl ⟨Nat.le_of_ble_eq_true rfl, Nat.le_of_ble_eq_true rfl⟩ rfl (Nat.le_of_ble_eq_true rfl) dX3_walk_128) hS (fun σ2 H locs hP hS hf => ?_)
    refine lv_iload_n hx hb dX3_walk_131 rfl (lv_at hl 1 rfl) ?_
    exact jr_i hx hb hr hlocks hf rfl hP hS dX3_walk_132
def s_cX3_walk_b104 (k37 : RS → Int32 → Int32 → Option (Int32 × RS)) (σ : RS) (x1 : Int32) (x2 : Int32) (x3 : Int32) (x4 : Int64) : Option (Int32 × RS) := kn_u (s_cX9_add σ x3 x4) (fun σ2 => kn_v (x2 + 1) (fun v3 => k37 σ2 x1 v3))
set_option maxRecDepth 100000 in
set_option maxHeartbeats 4000000 in
theorem p_cX3_walk_b104 {p : Program} {l : Launch} {e : Env} {s : State} {m : MethodId} {args : Array Value} {below : List Frame} {meth : Method} {c : Code} {dC : Nat → ClassId} {dI : Nat → Nat → Nat} {kA : Nat → ClassId} {ad : Nat → Nat} (C : jxc cX3_walk (some .int) 6 RX3 p s m args meth c dC dI kA) (hap : jw_ap 57 ad) {res : Int32 × RS} {k37 : RS → Int32 → Int32 → Option (Int32 × RS)} (hk37 : G_cX3_walk_b37 p l e s m args below meth c dC dI kA ad res k37) : G_cX3_walk_b104 p l e s m args below meth c dC dI kA ad res (s_cX3_walk_b104 k37) := by
  obtain ⟨hx, hb, hml, hown, hts, hr, hlocks, hK, hN⟩ := id C
  intro σ x1 x2 x3 x4 hf H locs ls hP hS hl
  unfold s_cX3_walk_b104 at hf
  refine lv_aload_n hx hb dX3_walk_104 rfl (lv_at hl 0 rfl) ?_
  refine c_gX3_told hx hb hts hown hK hP (hts _ kw_379) dX3_walk_105 ?_
  refine lv_iload_n hx hb dX3_walk_108 rfl (lv_at hl 3 rfl) ?_
  refine lv_lload hx hb dX3_walk_109 (lv_at hl 4 rfl) ?_
  refine jk_u hf (fun res hres => jv_run hx hb hml hown hts hK hN c_hG c_hNW hl.1 (n := 2) (As := [.int x3, .long x4]) (rest := []) (c_cX9_add l hap σ x3 x4 res hres) hP (ci := 9) (q0 := 19) rfl rfl rfl kw_603 kw_600 kw_601 kw_602 kw_59 ⟨rfl, rfl⟩ (by decide +kernel) rfl ⟨Nat.le_of_ble_eq_true rfl, Nat.le_of_ble_eq_true rfl⟩ rfl (Nat.le_of_ble_eq_true rfl) dX3_walk_111) hS (fun σ2 H locs hP hS hf => ?_)
  obtain ⟨v3, e_v3, hf⟩ := kn_v_e hf
  refine lv_iinc (v := v3) (lv' := [(2, .int v3), (0, .ref (ad 31)), (1, .int x1), (3, .int x3), (4, .long x4)]) hx hb dX3_walk_114 hl (k := 2) rfl e_v3 (by decide) rfl (fun ls hl => ?_)
  refine lv_goto (tgt := 37) hx hb dX3_walk_117 (by decide) ?_
  exact hk37 σ2 x1 v3 hf H locs ls hP hS (lv_sub hl [1, 2, 0] rfl)
def s_cX3_walk_b90 (σ : RS) (x2 : Int32) : Option (Int32 × RS) := s_cX3_walk_b120 σ x2
set_option maxRecDepth 100000 in
set_option maxHeartbeats 4000000 in
theorem p_cX3_walk_b90 {p : Program} {l : Launch} {e : Env} {s : State} {m : MethodId} {args : Array Value} {below : List Frame} {meth : Method} {c : Code} {dC : Nat → ClassId} {dI : Nat → Nat → Nat} {kA : Nat → ClassId} {ad : Nat → Nat} (C : jxc cX3_walk (some .int) 6 RX3 p s m args meth c dC dI kA) (hap : jw_ap 57 ad) {res : Int32 × RS} : G_cX3_walk_b90 p l e s m args below meth c dC dI kA ad res (s_cX3_walk_b90) := by
  obtain ⟨hx, hb, hml, hown, hts, hr, hlocks, hK, hN⟩ := id C
  intro σ x2 hf H locs ls hP hS hl
  unfold s_cX3_walk_b90 at hf
  refine lv_goto (tgt := 120) hx hb dX3_walk_90 (by decide) ?_
  exact (p_cX3_walk_b120 C hap) σ x2 hf H locs ls hP hS (lv_sub hl [0, 1] rfl)
def s_cX3_walk_b37 (k37 : RS → Int32 → Int32 → Option (Int32 × RS)) (σ : RS) (x1 : Int32) (x2 : Int32) : Option (Int32 × RS) := if x1 ≤ x2 then (s_cX3_walk_b120 σ x2) else (if (rg_I σ 20) ≤ 0 then (s_cX3_walk_b120 σ x2) else (kn_i (s_cX2_is σ) (fun v1 σ2 => if v1 = 0 then (kn_ld (rg_A σ2 14) 60 (rg_I σ2 19) (fun v3 => kn_ld (rg_B σ2 6) 60 (rg_I σ2 19) (fun v4 => kn_i (s_cX3_isDone σ2 v3 v4) (fun v5 σ6 => if v5 = 0 then (s_cX3_walk_b90 σ6 x2) else (if x2 = 0 then (kn_u (s_cX9_clear σ6) (fun σ8 => s_cX3_walk_b104 k37 σ8 x1 x2 v3 v4)) else (s_cX3_walk_b104 k37 σ6 x1 x2 v3 v4)))))) else (s_cX3_walk_b120 σ2 x2))))
set_option maxRecDepth 100000 in
set_option maxHeartbeats 4000000 in
theorem p_cX3_walk_b37 {p : Program} {l : Launch} {e : Env} {s : State} {m : MethodId} {args : Array Value} {below : List Frame} {meth : Method} {c : Code} {dC : Nat → ClassId} {dI : Nat → Nat → Nat} {kA : Nat → ClassId} {ad : Nat → Nat} (C : jxc cX3_walk (some .int) 6 RX3 p s m args meth c dC dI kA) (hap : jw_ap 57 ad) {res : Int32 × RS} {k37 : RS → Int32 → Int32 → Option (Int32 × RS)} (hk37 : G_cX3_walk_b37 p l e s m args below meth c dC dI kA ad res k37) : G_cX3_walk_b37 p l e s m args below meth c dC dI kA ad res (s_cX3_walk_b37 k37) := by
  obtain ⟨hx, hb, hml, hown, hts, hr, hlocks, hK, hN⟩ := id C
  intro σ x1 x2 hf H locs ls hP hS hl
  unfold s_cX3_walk_b37 at hf
  refine lv_iload_n hx hb dX3_walk_37 rfl (lv_at hl 2 rfl) ?_
  refine lv_iload_n hx hb dX3_walk_38 rfl (lv_at hl 1 rfl) ?_
  refine jc_ge (tgt := 120) hx hb hf dX3_walk_39 (by decide) (fun hf => ?_) (fun hf => ?_)
  · exact (p_cX3_walk_b120 C hap) σ x2 hf H locs ls hP hS (lv_sub hl [0, 2] rfl)
  · refine lv_aload_n hx hb dX3_walk_42 rfl (lv_at hl 0 rfl) ?_
    refine c_gX3_size hx hb hts hown hK hP (hts _ kw_385) dX3_walk_43 ?_
    refine jb_le (tgt := 120) hx hb hf dX3_walk_46 (by decide) (fun hf => ?_) (fun hf => ?_)
    · exact (p_cX3_walk_b120 C hap) σ x2 hf H locs ls hP hS (lv_sub hl [0, 2] rfl)
    · refine lv_aload_n hx hb dX3_walk_49 rfl (lv_at hl 0 rfl) ?_
      refine c_gX3_failure hx hb hts hown hK hP (hts _ kw_377) dX3_walk_50 ?_
      refine jk_i hf (fun res hres => jv_run hx hb hml hown hts hK hN c_hG c_hNW hl.1 (n := 0) (As := []) (rest := []) (c_cX2_is l hap σ res hres) hP (ci := 2) (q0 := 16) rfl rfl rfl kw_584 kw_581 kw_582 kw_583 kw_56 ⟨rfl, rfl⟩ (by decide +kernel) rfl ⟨Nat.le_of_ble_eq_true rfl, Nat.le_of_ble_eq_true rfl⟩ rfl (Nat.le_of_ble_eq_true rfl) dX3_walk_53) hS (fun v1 σ2 H locs hP hS hf => ?_)
      refine jb_ne (tgt := 120) hx hb hf dX3_walk_56 (by decide) (fun hf => ?_) (fun hf => ?_)
      · exact (p_cX3_walk_b120 C hap) σ2 x2 hf H locs ls hP hS (lv_sub hl [0, 2] rfl)
      · refine lv_aload_n hx hb dX3_walk_59 rfl (lv_at hl 0 rfl) ?_
        refine c_gX3_arcs hx hb hts hown hK hP (hts _ kw_380) dX3_walk_60 ?_
        refine lv_aload_n hx hb dX3_walk_63 rfl (lv_at hl 0 rfl) ?_
        refine c_gX3_first hx hb hts hown hK hP (hts _ kw_384) dX3_walk_64 ?_
        refine ja_ild hx hb hK hP 32 0 rfl rfl hf dX3_walk_67 (fun v3 hf => ?_)
        refine lv_istore_n (lv' := [(3, .int v3), (0, .ref (ad 31)), (1, .int x1), (2, .int x2)]) hx hb dX3_walk_68 rfl hl (by decide) rfl (fun ls hl => ?_)
        refine lv_aload_n hx hb dX3_walk_69 rfl (lv_at hl 1 rfl) ?_
        refine c_gX3_values hx hb hts hown hK hP (hts _ kw_381) dX3_walk_70 ?_
        refine lv_aload_n hx hb dX3_walk_73 rfl (lv_at hl 1 rfl) ?_
        refine c_gX3_first hx hb hts hown hK hP (hts _ kw_384) dX3_walk_74 ?_
        refine ja_lld hx hb hK hP 33 1 rfl rfl hf dX3_walk_77 (fun v4 hf => ?_)
        refine lv_lstore (lv' := [(4, .long v4), (3, .int v3), (0, .ref (ad 31)), (1, .int x1), (2, .int x2)]) hx hb dX3_walk_78 hl (by decide) rfl (fun ls hl => ?_)
        refine lv_aload_n hx hb dX3_walk_80 rfl (lv_at hl 2 rfl) ?_
        refine lv_iload_n hx hb dX3_walk_81 rfl (lv_at hl 1 rfl) ?_
        refine lv_lload hx hb dX3_walk_82 (lv_at hl 0 rfl) ?_
        refine jk_i hf (fun res hres => jv_run hx hb hml hown hts hK hN c_hG c_hNW hl.1 (n := 2) (As := [.int v3, .long v4]) (rest := []) (c_cX3_isDone l hap σ2 v3 v4 res hres) hP (ci := 3) (q0 := 31) rfl rfl rfl kw_589 kw_586 kw_588 kw_9 kw_63 ⟨rfl, rfl⟩ (by decide +kernel) rfl ⟨Nat.le_of_ble_eq_true rfl, Nat.le_of_ble_eq_true rfl⟩ rfl (Nat.le_of_ble_eq_true rfl) dX3_walk_84) hS (fun v5 σ6 H locs hP hS hf => ?_)
        refine jb_ne (tgt := 93) hx hb hf dX3_walk_87 (by decide) (fun hf => ?_) (fun hf => ?_)
        · refine lv_iload_n hx hb dX3_walk_93 rfl (lv_at hl 4 rfl) ?_
          refine jb_ne (tgt := 104) hx hb hf dX3_walk_94 (by decide) (fun hf => ?_) (fun hf => ?_)
          · exact (p_cX3_walk_b104 C hap hk37) σ6 x1 x2 v3 v4 hf H locs ls hP hS (lv_sub hl [2, 3, 4, 1, 0] rfl)
          · refine lv_aload_n hx hb dX3_walk_97 rfl (lv_at hl 2 rfl) ?_
            refine c_gX3_told hx hb hts hown hK hP (hts _ kw_379) dX3_walk_98 ?_
            refine jk_u hf (fun res hres => jv_run hx hb hml hown hts hK hN c_hG c_hNW hl.1 (n := 0) (As := []) (rest := []) (c_cX9_clear l hap σ6 res hres) hP (ci := 9) (q0 := 19) rfl rfl rfl kw_599 kw_596 kw_597 kw_598 kw_59 ⟨rfl, rfl⟩ (by decide +kernel) rfl ⟨Nat.le_of_ble_eq_true rfl, Nat.le_of_ble_eq_true rfl⟩ rfl (Nat.le_of_ble_eq_true rfl) dX3_walk_101) hS (fun σ8 H locs hP hS hf => ?_)
            exact (p_cX3_walk_b104 C hap hk37) σ8 x1 x2 v3 v4 hf H locs ls hP hS (lv_sub hl [2, 3, 4, 1, 0] rfl)
        · exact (p_cX3_walk_b90 C hap) σ6 x2 hf H locs ls hP hS (lv_sub hl [2, 4] rfl)
def f_cX3_walk_b37 : RS → Int32 → Int32 → Option (Int32 × RS) := kn_fix (fun _ _ _ => none) (s_cX3_walk_b37) FU
theorem q_cX3_walk_b37 {p : Program} {l : Launch} {e : Env} {s : State} {m : MethodId} {args : Array Value} {below : List Frame} {meth : Method} {c : Code} {dC : Nat → ClassId} {dI : Nat → Nat → Nat} {kA : Nat → ClassId} {ad : Nat → Nat} (C : jxc cX3_walk (some .int) 6 RX3 p s m args meth c dC dI kA) (hap : jw_ap 57 ad) {res : Int32 × RS} : G_cX3_walk_b37 p l e s m args below meth c dC dI kA ad res (f_cX3_walk_b37) := kn_fix_ind (G := fun F => G_cX3_walk_b37 p l e s m args below meth c dC dI kA ad res F) (fun _ _ _ hf => by cases hf) (fun k37 hk37 => p_cX3_walk_b37 C hap hk37) FU
def s_cX3_walk (σ : RS) (x1 : Int32) : Option (Int32 × RS) := kn_u (s_cX5_mark σ) (fun σ2 => kn_u (s_cX1_begin σ2) (fun σ4 => kn_v (rs_I σ4 19 0) (fun σ5 => kn_v (rs_I σ5 20 0) (fun σ6 => kn_u (s_cX3_startLine σ6) (fun σ8 => f_cX3_walk_b37 σ8 x1 0)))))
set_option maxRecDepth 100000 in
set_option maxHeartbeats 4000000 in
theorem p_cX3_walk {p : Program} {l : Launch} {e : Env} {s : State} {m : MethodId} {args : Array Value} {below : List Frame} {meth : Method} {c : Code} {dC : Nat → ClassId} {dI : Nat → Nat → Nat} {kA : Nat → ClassId} {ad : Nat → Nat} (C : jxc cX3_walk (some .int) 6 RX3 p s m args meth c dC dI kA) (hap : jw_ap 57 ad) {res : Int32 × RS} : G_cX3_walk p l e s m args below meth c dC dI kA ad res (s_cX3_walk) := by
  obtain ⟨hx, hb, hml, hown, hts, hr, hlocks, hK, hN⟩ := id C
  intro σ x1 hf H locs ls hP hS hl
  unfold s_cX3_walk at hf
  refine lv_aload_n hx hb dX3_walk_0 rfl (lv_at hl 0 rfl) ?_
  refine c_gX3_past hx hb hts hown hK hP (hts _ kw_378) dX3_walk_1 ?_
  refine lv_aload_n hx hb dX3_walk_4 rfl (lv_at hl 0 rfl) ?_
  refine c_gX3_web hx hb hts hown hK hP (hts _ kw_375) dX3_walk_5 ?_
  refine jk_u hf (fun res hres => jv_run hx hb hml hown hts hK hN c_hG c_hNW hl.1 (n := 1) (As := [.ref (ad 7)]) (rest := []) (c_cX5_mark l hap σ res hres) hP (ci := 5) (q0 := 17) rfl rfl rfl kw_524 kw_521 kw_522 kw_523 kw_57 ⟨rfl, rfl⟩ (by decide +kernel) rfl ⟨Nat.le_of_ble_eq_true rfl, Nat.le_of_ble_eq_true rfl⟩ rfl (Nat.le_of_ble_eq_true rfl) dX3_walk_8) hS (fun σ2 H locs hP hS hf => ?_)
  refine lv_aload_n hx hb dX3_walk_11 rfl (lv_at hl 0 rfl) ?_
  refine c_gX3_actor hx hb hts hown hK hP (hts _ kw_376) dX3_walk_12 ?_
  refine c_gX0_asker hx hb hts hown hK hP (hts _ kw_312) dX3_walk_15 ?_
  refine jk_u hf (fun res hres => jv_run hx hb hml hown hts hK hN c_hG c_hNW hl.1 (n := 0) (As := []) (rest := []) (c_cX1_begin l hap σ2 res hres) hP (ci := 1) (q0 := 22) rfl rfl rfl kw_535 kw_532 kw_533 kw_534 kw_60 ⟨rfl, rfl⟩ (by decide +kernel) rfl ⟨Nat.le_of_ble_eq_true rfl, Nat.le_of_ble_eq_true rfl⟩ rfl (Nat.le_of_ble_eq_true rfl) dX3_walk_18) hS (fun σ4 H locs hP hS hf => ?_)
  refine lv_aload_n hx hb dX3_walk_21 rfl (lv_at hl 0 rfl) ?_
  refine lv_iconst (v := 0) hx hb dX3_walk_22 (by decide) ?_
  refine c_pX3_first hx hb hts hown hK hap hP hS hf (hts _ kw_384) dX3_walk_23 (fun σ5 H locs hP hS hf => ?_)
  refine lv_aload_n hx hb dX3_walk_26 rfl (lv_at hl 0 rfl) ?_
  refine lv_iconst (v := 0) hx hb dX3_walk_27 (by decide) ?_
  refine c_pX3_size hx hb hts hown hK hap hP hS hf (hts _ kw_385) dX3_walk_28 (fun σ6 H locs hP hS hf => ?_)
  refine lv_aload_n hx hb dX3_walk_31 rfl (lv_at hl 0 rfl) ?_
  refine jk_u hf (fun res hres => jv_run hx hb hml hown hts hK hN c_hG c_hNW hl.1 (n := 0) (As := []) (rest := []) (c_cX3_startLine l hap σ6 res hres) hP (ci := 3) (q0 := 31) rfl rfl rfl kw_543 kw_540 kw_542 kw_1 kw_63 ⟨rfl, rfl⟩ (by decide +kernel) rfl ⟨Nat.le_of_ble_eq_true rfl, Nat.le_of_ble_eq_true rfl⟩ rfl (Nat.le_of_ble_eq_true rfl) dX3_walk_32) hS (fun σ8 H locs hP hS hf => ?_)
  refine lv_iconst (v := 0) hx hb dX3_walk_35 (by decide) ?_
  refine lv_istore_n (lv' := [(2, .int 0), (0, .ref (ad 31)), (1, .int x1)]) hx hb dX3_walk_36 rfl hl (by decide) rfl (fun ls hl => ?_)
  exact (q_cX3_walk_b37 C hap) σ8 x1 0 hf H locs ls hP hS (lv_sub hl [1, 2, 0] rfl)
theorem c_cX3_walk (l : Launch) {dC : Nat → ClassId} {dI : Nat → Nat → Nat} {kA : Nat → ClassId} {ad : Nat → Nat} (hap : jw_ap 57 ad) (σ : RS) (x1 : Int32) (res : Int32 × RS) (hf : s_cX3_walk σ x1 = some res) : jm_i l KW NW (dC, dI) vwCl (jtys kA) (jw_A 57 ad) (c_w kA ad) yX3_walk cX3_walk 6 .int (rm_cX3_walk) [.ref (ad 31), .int x1] σ res := jm_i_of (by decide) (Nat.le_of_ble_eq_true rfl) (fun p e s m below meth c C hP hS ls hl => p_cX3_walk C hap σ x1 hf s.heap [] ls hP hS hl)

def rm_cX7_walk : Room := { frames := 47, cells := 0, slots := 0, locals := 1338 }
def G_cX7_walk_b2 (p : Program) (l : Launch) (e : Env) (s : State) (m : MethodId) (args : Array Value) (below : List Frame) (meth : Method) (c : Code) (dC : Nat → ClassId) (dI : Nat → Nat → Nat) (kA : Nat → ClassId) (ad : Nat → Nat) (res : Int32 × RS) (F : RS → Int32 → Int32 → Int32 → Option (Int32 × RS)) : Prop := ∀ (σ : RS) (x1 : Int32) (x2 : Int32) (x3 : Int32), F σ x1 x2 x3 = some res → ∀ (H : Heap) (locs : List Loc) (ls : Array Slot), va_P (dC, dI) vwCl (c_w kA ad σ) H → va_S (jw_A 57 ad) s.heap H locs → lv_has ls 4 [(0, .ref (ad 24)), (1, .int x1), (2, .int x2), (3, .int x3)] → W p l e rm_cX7_walk s m args below meth c H locs 0 0 (c_Qi below dC dI kA ad args s res) (F0 m 2 ls [])
def G_cX7_walk (p : Program) (l : Launch) (e : Env) (s : State) (m : MethodId) (args : Array Value) (below : List Frame) (meth : Method) (c : Code) (dC : Nat → ClassId) (dI : Nat → Nat → Nat) (kA : Nat → ClassId) (ad : Nat → Nat) (res : Int32 × RS) (F : RS → Int32 → Int32 → Option (Int32 × RS)) : Prop := ∀ (σ : RS) (x1 : Int32) (x2 : Int32), F σ x1 x2 = some res → ∀ (H : Heap) (locs : List Loc) (ls : Array Slot), va_P (dC, dI) vwCl (c_w kA ad σ) H → va_S (jw_A 57 ad) s.heap H locs → lv_has ls 4 [(0, .ref (ad 24)), (1, .int x1), (2, .int x2)] → W p l e rm_cX7_walk s m args below meth c H locs 0 0 (c_Qi below dC dI kA ad args s res) (F0 m 0 ls [])
def s_cX7_walk_b2 (k2 : RS → Int32 → Int32 → Int32 → Option (Int32 × RS)) (σ : RS) (x1 : Int32) (x2 : Int32) (x3 : Int32) : Option (Int32 × RS) := if x2 ≤ x3 then (some (x3, σ)) else (kn_i (s_cX10_awakeNodes σ) (fun v1 σ2 => if v1 ≤ 0 then (some (x3, σ2)) else (kn_i (s_cX7_isDone σ2 x1) (fun v3 σ4 => if v3 = 0 then (some (x3, σ4)) else (kn_v (x3 + 1) (fun v5 => k2 σ4 x1 x2 v5))))))
set_option maxRecDepth 100000 in
set_option maxHeartbeats 4000000 in
theorem p_cX7_walk_b2 {p : Program} {l : Launch} {e : Env} {s : State} {m : MethodId} {args : Array Value} {below : List Frame} {meth : Method} {c : Code} {dC : Nat → ClassId} {dI : Nat → Nat → Nat} {kA : Nat → ClassId} {ad : Nat → Nat} (C : jxc cX7_walk (some .int) 4 RX7 p s m args meth c dC dI kA) (hap : jw_ap 57 ad) {res : Int32 × RS} {k2 : RS → Int32 → Int32 → Int32 → Option (Int32 × RS)} (hk2 : G_cX7_walk_b2 p l e s m args below meth c dC dI kA ad res k2) : G_cX7_walk_b2 p l e s m args below meth c dC dI kA ad res (s_cX7_walk_b2 k2) := by
  obtain ⟨hx, hb, hml, hown, hts, hr, hlocks, hK, hN⟩ := id C
  intro σ x1 x2 x3 hf H locs ls hP hS hl
  unfold s_cX7_walk_b2 at hf
  refine lv_iload_n hx hb dX7_walk_2 rfl (lv_at hl 3 rfl) ?_
  refine lv_iload_n hx hb dX7_walk_3 rfl (lv_at hl 2 rfl) ?_
  refine jc_ge (tgt := 31) hx hb hf dX7_walk_4 (by decide) (fun hf => ?_) (fun hf => ?_)
  · refine lv_iload_n hx hb dX7_walk_31 rfl (lv_at hl 3 rfl) ?_
    exact jr_i hx hb hr hlocks hf rfl hP hS dX7_walk_32
  · refine lv_aload_n hx hb dX7_walk_7 rfl (lv_at hl 0 rfl) ?_
    refine c_gX7_web hx hb hts hown hK hP (hts _ kw_332) dX7_walk_8 ?_
    refine jk_i hf (fun res hres => jv_run hx hb hml hown hts hK hN c_hG c_hNW hl.1 (n := 0) (As := []) (rest := []) (c_cX10_awakeNodes l hap σ res hres) hP (ci := 10) (q0 := 7) rfl rfl rfl kw_615 kw_612 kw_613 kw_614 kw_54 ⟨rfl, rfl⟩ (by decide +kernel) rfl ⟨Nat.le_of_ble_eq_true rfl, Nat.le_of_ble_eq_true rfl⟩ rfl (Nat.le_of_ble_eq_true rfl) dX7_walk_11) hS (fun v1 σ2 H locs hP hS hf => ?_)
    refine jb_le (tgt := 31) hx hb hf dX7_walk_14 (by decide) (fun hf => ?_) (fun hf => ?_)
    · refine lv_iload_n hx hb dX7_walk_31 rfl (lv_at hl 3 rfl) ?_
      exact jr_i hx hb hr hlocks hf rfl hP hS dX7_walk_32
    · refine lv_aload_n hx hb dX7_walk_17 rfl (lv_at hl 0 rfl) ?_
      refine lv_iload_n hx hb dX7_walk_18 rfl (lv_at hl 1 rfl) ?_
      refine jk_i hf (fun res hres => jv_run hx hb hml hown hts hK hN c_hG c_hNW hl.1 (n := 1) (As := [.int x1]) (rest := []) (c_cX7_isDone l hap σ2 x1 res hres) hP (ci := 7) (q0 := 24) rfl rfl rfl kw_619 kw_616 kw_618 kw_11 kw_62 ⟨rfl, rfl⟩ (by decide +kernel) rfl ⟨Nat.le_of_ble_eq_true rfl, Nat.le_of_ble_eq_true rfl⟩ rfl (Nat.le_of_ble_eq_true rfl) dX7_walk_19) hS (fun v3 σ4 H locs hP hS hf => ?_)
      refine jb_eq (tgt := 31) hx hb hf dX7_walk_22 (by decide) (fun hf => ?_) (fun hf => ?_)
      · refine lv_iload_n hx hb dX7_walk_31 rfl (lv_at hl 3 rfl) ?_
        exact jr_i hx hb hr hlocks hf rfl hP hS dX7_walk_32
      · obtain ⟨v5, e_v5, hf⟩ := kn_v_e hf
        refine lv_iinc (v := v5) (lv' := [(3, .int v5), (0, .ref (ad 24)), (1, .int x1), (2, .int x2)]) hx hb dX7_walk_25 hl (k := 3) rfl e_v5 (by decide) rfl (fun ls hl => ?_)
        refine lv_goto (tgt := 2) hx hb dX7_walk_28 (by decide) ?_
        exact hk2 σ4 x1 x2 v5 hf H locs ls hP hS (lv_sub hl [1, 2, 3, 0] rfl)
def f_cX7_walk_b2 : RS → Int32 → Int32 → Int32 → Option (Int32 × RS) := kn_fix (fun _ _ _ _ => none) (s_cX7_walk_b2) FU
theorem q_cX7_walk_b2 {p : Program} {l : Launch} {e : Env} {s : State} {m : MethodId} {args : Array Value} {below : List Frame} {meth : Method} {c : Code} {dC : Nat → ClassId} {dI : Nat → Nat → Nat} {kA : Nat → ClassId} {ad : Nat → Nat} (C : jxc cX7_walk (some .int) 4 RX7 p s m args meth c dC dI kA) (hap : jw_ap 57 ad) {res : Int32 × RS} : G_cX7_walk_b2 p l e s m args below meth c dC dI kA ad res (f_cX7_walk_b2) := kn_fix_ind (G := fun F => G_cX7_walk_b2 p l e s m args below meth c dC dI kA ad res F) (fun _ _ _ _ hf => by cases hf) (fun k2 hk2 => p_cX7_walk_b2 C hap hk2) FU
def s_cX7_walk (σ : RS) (x1 : Int32) (x2 : Int32) : Option (Int32 × RS) := f_cX7_walk_b2 σ x1 x2 0
set_option maxRecDepth 100000 in
set_option maxHeartbeats 4000000 in
theorem p_cX7_walk {p : Program} {l : Launch} {e : Env} {s : State} {m : MethodId} {args : Array Value} {below : List Frame} {meth : Method} {c : Code} {dC : Nat → ClassId} {dI : Nat → Nat → Nat} {kA : Nat → ClassId} {ad : Nat → Nat} (C : jxc cX7_walk (some .int) 4 RX7 p s m args meth c dC dI kA) (hap : jw_ap 57 ad) {res : Int32 × RS} : G_cX7_walk p l e s m args below meth c dC dI kA ad res (s_cX7_walk) := by
  obtain ⟨hx, hb, hml, hown, hts, hr, hlocks, hK, hN⟩ := id C
  intro σ x1 x2 hf H locs ls hP hS hl
  unfold s_cX7_walk at hf
  refine lv_iconst (v := 0) hx hb dX7_walk_0 (by decide) ?_
  refine lv_istore_n (lv' := [(3, .int 0), (0, .ref (ad 24)), (1, .int x1), (2, .int x2)]) hx hb dX7_walk_1 rfl hl (by decide) rfl (fun ls hl => ?_)
  exact (q_cX7_walk_b2 C hap) σ x1 x2 0 hf H locs ls hP hS (lv_sub hl [1, 2, 3, 0] rfl)
theorem c_cX7_walk (l : Launch) {dC : Nat → ClassId} {dI : Nat → Nat → Nat} {kA : Nat → ClassId} {ad : Nat → Nat} (hap : jw_ap 57 ad) (σ : RS) (x1 : Int32) (x2 : Int32) (res : Int32 × RS) (hf : s_cX7_walk σ x1 x2 = some res) : jm_i l KW NW (dC, dI) vwCl (jtys kA) (jw_A 57 ad) (c_w kA ad) yX7_walk cX7_walk 4 .int (rm_cX7_walk) [.ref (ad 24), .int x1, .int x2] σ res := jm_i_of (by decide) (Nat.le_of_ble_eq_true rfl) (fun p e s m below meth c C hP hS ls hl => p_cX7_walk C hap σ x1 x2 hf s.heap [] ls hP hS hl)
end
section
theorem dX11_run_0 : decode cX11_run 0 = .ok (.iload_n 1, 1) := by decide +kernel
theorem dX11_run_1 : decode cX11_run 1 = .ok (.ifCond .lt 8, 3) := by decide +kernel
theorem dX11_run_4 : decode cX11_run 4 = .ok (.iload_n 1, 1) := by decide +kernel
theorem dX11_run_5 : decode cX11_run 5 = .ok (.iconst 2, 1) := by decide +kernel
theorem dX11_run_6 : decode cX11_run 6 = .ok (.if_icmp .le 6, 3) := by decide +kernel
theorem dX11_run_9 : decode cX11_run 9 = .ok (.bipush (-102), 2) := by decide +kernel
theorem dX11_run_11 : decode cX11_run 11 = .ok (.ireturn, 1) := by decide +kernel
theorem dX11_run_12 : decode cX11_run 12 = .ok (.iload_n 2, 1) := by decide +kernel
theorem dX11_run_13 : decode cX11_run 13 = .ok (.iconst 1, 1) := by decide +kernel
theorem dX11_run_14 : decode cX11_run 14 = .ok (.if_icmp .lt 20, 3) := by decide +kernel
theorem dX11_run_17 : decode cX11_run 17 = .ok (.iload_n 2, 1) := by decide +kernel
theorem dX11_run_18 : decode cX11_run 18 = .ok (.iload_n 1, 1) := by decide +kernel
theorem dX11_run_19 : decode cX11_run 19 = .ok (.iconst 2, 1) := by decide +kernel
theorem dX11_run_20 : decode cX11_run 20 = .ok (.if_icmp .ne 9, 3) := by decide +kernel
theorem dX11_run_23 : decode cX11_run 23 = .ok (.sipush 200, 3) := by decide +kernel
theorem dX11_run_26 : decode cX11_run 26 = .ok (.goto 5, 3) := by decide +kernel
theorem dX11_run_29 : decode cX11_run 29 = .ok (.bipush 50, 2) := by decide +kernel
theorem dX11_run_31 : decode cX11_run 31 = .ok (.if_icmp .le 6, 3) := by decide +kernel
theorem dX11_run_34 : decode cX11_run 34 = .ok (.bipush (-102), 2) := by decide +kernel
theorem dX11_run_36 : decode cX11_run 36 = .ok (.ireturn, 1) := by decide +kernel
theorem dX11_run_37 : decode cX11_run 37 = .ok (.aload_n 0, 1) := by decide +kernel
theorem dX11_run_38 : decode cX11_run 38 = .ok (.getfield 33, 3) := by decide +kernel
theorem dX11_run_41 : decode cX11_run 41 = .ok (.invokevirtual 128, 3) := by decide +kernel
theorem dX11_run_44 : decode cX11_run 44 = .ok (.iload_n 1, 1) := by decide +kernel
theorem dX11_run_45 : decode cX11_run 45 = .ok (.iconst 2, 1) := by decide +kernel
theorem dX11_run_46 : decode cX11_run 46 = .ok (.if_icmp .ne 14, 3) := by decide +kernel
theorem dX11_run_49 : decode cX11_run 49 = .ok (.aload_n 0, 1) := by decide +kernel
theorem dX11_run_50 : decode cX11_run 50 = .ok (.getfield 81, 3) := by decide +kernel
theorem dX11_run_53 : decode cX11_run 53 = .ok (.iload_n 2, 1) := by decide +kernel
theorem dX11_run_54 : decode cX11_run 54 = .ok (.invokevirtual 131, 3) := by decide +kernel
theorem dX11_run_57 : decode cX11_run 57 = .ok (.goto 21, 3) := by decide +kernel
theorem dX11_run_60 : decode cX11_run 60 = .ok (.aload_n 0, 1) := by decide +kernel
theorem dX11_run_61 : decode cX11_run 61 = .ok (.getfield 74, 3) := by decide +kernel
theorem dX11_run_64 : decode cX11_run 64 = .ok (.iload_n 1, 1) := by decide +kernel
theorem dX11_run_65 : decode cX11_run 65 = .ok (.iconst 1, 1) := by decide +kernel
theorem dX11_run_66 : decode cX11_run 66 = .ok (.if_icmp .ne 7, 3) := by decide +kernel
theorem dX11_run_69 : decode cX11_run 69 = .ok (.iconst 1, 1) := by decide +kernel
theorem dX11_run_70 : decode cX11_run 70 = .ok (.goto 4, 3) := by decide +kernel
theorem dX11_run_73 : decode cX11_run 73 = .ok (.iconst 0, 1) := by decide +kernel
theorem dX11_run_74 : decode cX11_run 74 = .ok (.iload_n 2, 1) := by decide +kernel
theorem dX11_run_75 : decode cX11_run 75 = .ok (.invokevirtual 134, 3) := by decide +kernel
theorem dX11_run_78 : decode cX11_run 78 = .ok (.ireturn, 1) := by decide +kernel
def rm_cX11_run : Room := { frames := 48, cells := 0, slots := 0, locals := 1368 }
def G_cX11_run_b74 (p : Program) (l : Launch) (e : Env) (s : State) (m : MethodId) (args : Array Value) (below : List Frame) (meth : Method) (c : Code) (dC : Nat → ClassId) (dI : Nat → Nat → Nat) (kA : Nat → ClassId) (ad : Nat → Nat) (res : Int32 × RS) (F : RS → Int32 → Int32 → Option (Int32 × RS)) : Prop := ∀ (σ : RS) (x2 : Int32) (s0 : Int32), F σ x2 s0 = some res → ∀ (H : Heap) (locs : List Loc) (ls : Array Slot), va_P (dC, dI) vwCl (c_w kA ad σ) H → va_S (jw_A 57 ad) s.heap H locs → lv_has ls 3 [(2, .int x2)] → W p l e rm_cX11_run s m args below meth c H locs 0 0 (c_Qi below dC dI kA ad args s res) (F0 m 74 ls [.int s0, .ref (ad 24)])
def G_cX11_run_b31 (p : Program) (l : Launch) (e : Env) (s : State) (m : MethodId) (args : Array Value) (below : List Frame) (meth : Method) (c : Code) (dC : Nat → ClassId) (dI : Nat → Nat → Nat) (kA : Nat → ClassId) (ad : Nat → Nat) (res : Int32 × RS) (F : RS → Int32 → Int32 → Int32 → Int32 → Option (Int32 × RS)) : Prop := ∀ (σ : RS) (x1 : Int32) (x2 : Int32) (s0 : Int32) (s1 : Int32), F σ x1 x2 s0 s1 = some res → ∀ (H : Heap) (locs : List Loc) (ls : Array Slot), va_P (dC, dI) vwCl (c_w kA ad σ) H → va_S (jw_A 57 ad) s.heap H locs → lv_has ls 3 [(0, .ref (ad 0)), (1, .int x1), (2, .int x2)] → W p l e rm_cX11_run s m args below meth c H locs 0 0 (c_Qi below dC dI kA ad args s res) (F0 m 31 ls [.int s0, .int s1])
def G_cX11_run (p : Program) (l : Launch) (e : Env) (s : State) (m : MethodId) (args : Array Value) (below : List Frame) (meth : Method) (c : Code) (dC : Nat → ClassId) (dI : Nat → Nat → Nat) (kA : Nat → ClassId) (ad : Nat → Nat) (res : Int32 × RS) (F : RS → Int32 → Int32 → Option (Int32 × RS)) : Prop := ∀ (σ : RS) (x1 : Int32) (x2 : Int32), F σ x1 x2 = some res → ∀ (H : Heap) (locs : List Loc) (ls : Array Slot), va_P (dC, dI) vwCl (c_w kA ad σ) H → va_S (jw_A 57 ad) s.heap H locs → lv_has ls 3 [(0, .ref (ad 0)), (1, .int x1), (2, .int x2)] → W p l e rm_cX11_run s m args below meth c H locs 0 0 (c_Qi below dC dI kA ad args s res) (F0 m 0 ls [])
def s_cX11_run_b74 (σ : RS) (x2 : Int32) (s0 : Int32) : Option (Int32 × RS) := kn_i (s_cX7_walk σ s0 x2) (fun v1 σ2 => some (v1, σ2))
set_option maxRecDepth 100000 in
set_option maxHeartbeats 4000000 in
theorem p_cX11_run_b74 {p : Program} {l : Launch} {e : Env} {s : State} {m : MethodId} {args : Array Value} {below : List Frame} {meth : Method} {c : Code} {dC : Nat → ClassId} {dI : Nat → Nat → Nat} {kA : Nat → ClassId} {ad : Nat → Nat} (C : jxc cX11_run (some .int) 3 RX11 p s m args meth c dC dI kA) (hap : jw_ap 57 ad) {res : Int32 × RS} : G_cX11_run_b74 p l e s m args below meth c dC dI kA ad res (s_cX11_run_b74) := by
  obtain ⟨hx, hb, hml, hown, hts, hr, hlocks, hK, hN⟩ := id C
  intro σ x2 s0 hf H locs ls hP hS hl
  unfold s_cX11_run_b74 at hf
  refine lv_iload_n hx hb dX11_run_74 rfl (lv_at hl 0 rfl) ?_
  refine jk_i hf (fun res hres => jv_run hx hb hml hown hts hK hN c_hG c_hNW hl.1 (n := 2) (As := [.int s0, .int x2]) (rest := []) (c_cX7_walk l hap σ s0 x2 res hres) hP (ci := 7) (q0 := 24) rfl rfl rfl kw_611 kw_608 kw_609 kw_610 kw_62 ⟨rfl, rfl⟩ (by decide +kernel) rfl ⟨Nat.le_of_ble_eq_true rfl, Nat.le_of_ble_eq_true rfl⟩ rfl (Nat.le_of_ble_eq_true rfl) dX11_run_75) hS (fun v1 σ2 H locs hP hS hf => ?_)
  exact jr_i hx hb hr hlocks hf rfl hP hS dX11_run_78
def s_cX11_run_b31 (σ : RS) (x1 : Int32) (x2 : Int32) (s0 : Int32) (s1 : Int32) : Option (Int32 × RS) := if s1 ≤ s0 then (kn_u (s_cX2_clear σ) (fun σ2 => if x1 = 2 then (kn_i (s_cX3_walk σ2 x2) (fun v3 σ4 => some (v3, σ4))) else (if x1 = 1 then (s_cX11_run_b74 σ2 x2 1) else (s_cX11_run_b74 σ2 x2 0)))) else (some ((-102), σ))
set_option maxRecDepth 100000 in
set_option maxHeartbeats 4000000 in
theorem p_cX11_run_b31 {p : Program} {l : Launch} {e : Env} {s : State} {m : MethodId} {args : Array Value} {below : List Frame} {meth : Method} {c : Code} {dC : Nat → ClassId} {dI : Nat → Nat → Nat} {kA : Nat → ClassId} {ad : Nat → Nat} (C : jxc cX11_run (some .int) 3 RX11 p s m args meth c dC dI kA) (hap : jw_ap 57 ad) {res : Int32 × RS} : G_cX11_run_b31 p l e s m args below meth c dC dI kA ad res (s_cX11_run_b31) := by
  obtain ⟨hx, hb, hml, hown, hts, hr, hlocks, hK, hN⟩ := id C
  intro σ x1 x2 s0 s1 hf H locs ls hP hS hl
  unfold s_cX11_run_b31 at hf
  refine jc_le (tgt := 37) hx hb hf dX11_run_31 (by decide) (fun hf => ?_) (fun hf => ?_)
  · refine lv_aload_n hx hb dX11_run_37 rfl (lv_at hl 0 rfl) ?_
    refine c_gX11_failure hx hb hts hown hK hP (hts _ kw_412) dX11_run_38 ?_
    refine jk_u hf (fun res hres => jv_run hx hb hml hown hts hK hN c_hG c_hNW hl.1 (n := 0) (As := []) (rest := []) (c_cX2_clear l hap σ res hres) hP (ci := 2) (q0 := 16) rfl rfl rfl kw_516 kw_513 kw_514 kw_515 kw_56 ⟨rfl, rfl⟩ (by decide +kernel) rfl ⟨Nat.le_of_ble_eq_true rfl, Nat.le_of_ble_eq_true rfl⟩ rfl (Nat.le_of_ble_eq_true rfl) dX11_run_41) hS (fun σ2 H locs hP hS hf => ?_)
    refine lv_iload_n hx hb dX11_run_44 rfl (lv_at hl 1 rfl) ?_
    refine lv_iconst (v := 2) hx hb dX11_run_45 (by decide) ?_
    refine jc_ne (tgt := 60) hx hb hf dX11_run_46 (by decide) (fun hf => ?_) (fun hf => ?_)
    · refine lv_aload_n hx hb dX11_run_60 rfl (lv_at hl 0 rfl) ?_
      refine c_gX11_roundWalk hx hb hts hown hK hP (hts _ kw_417) dX11_run_61 ?_
      refine lv_iload_n hx hb dX11_run_64 rfl (lv_at hl 1 rfl) ?_
      refine lv_iconst (v := 1) hx hb dX11_run_65 (by decide) ?_
      refine jc_ne (tgt := 73) hx hb hf dX11_run_66 (by decide) (fun hf => ?_) (fun hf => ?_)
      · refine lv_iconst (v := 0) hx hb dX11_run_73 (by decide) ?_
        exact (p_cX11_run_b74 C hap) σ2 x2 0 hf H locs ls hP hS (lv_sub hl [2] rfl)
      · refine lv_iconst (v := 1) hx hb dX11_run_69 (by decide) ?_
        refine lv_goto (tgt := 74) hx hb dX11_run_70 (by decide) ?_
        exact (p_cX11_run_b74 C hap) σ2 x2 1 hf H locs ls hP hS (lv_sub hl [2] rfl)
    · refine lv_aload_n hx hb dX11_run_49 rfl (lv_at hl 0 rfl) ?_
      refine c_gX11_lineWalk hx hb hts hown hK hP (hts _ kw_418) dX11_run_50 ?_
      refine lv_iload_n hx hb dX11_run_53 rfl (lv_at hl 2 rfl) ?_
      refine jk_i hf (fun res hres => jv_run hx hb hml hown hts hK hN c_hG c_hNW hl.1 (n := 1) (As := [.int x2]) (rest := []) (c_cX3_walk l hap σ2 x2 res hres) hP (ci := 3) (q0 := 31) rfl rfl rfl kw_520 kw_517 kw_518 kw_519 kw_63 ⟨rfl, rfl⟩ (by decide +kernel) rfl ⟨Nat.le_of_ble_eq_true rfl, Nat.le_of_ble_eq_true rfl⟩ rfl (Nat.le_of_ble_eq_true rfl) dX11_run_54) hS (fun v3 σ4 H locs hP hS hf => ?_)
      refine lv_goto (tgt := 78) hx hb dX11_run_57 (by decide) ?_
      exact jr_i hx hb hr hlocks hf rfl hP hS dX11_run_78
  · refine lv_bipush (v := (-102)) hx hb dX11_run_34 (by decide) ?_
    exact jr_i hx hb hr hlocks hf rfl hP hS dX11_run_36
def s_cX11_run (σ : RS) (x1 : Int32) (x2 : Int32) : Option (Int32 × RS) := if x1 < 0 then (some ((-102), σ)) else (if x1 ≤ 2 then (if x2 < 1 then (some ((-102), σ)) else (if x1 = 2 then (s_cX11_run_b31 σ x1 x2 200 x2) else (s_cX11_run_b31 σ x1 x2 50 x2))) else (some ((-102), σ)))
set_option maxRecDepth 100000 in
set_option maxHeartbeats 4000000 in
theorem p_cX11_run {p : Program} {l : Launch} {e : Env} {s : State} {m : MethodId} {args : Array Value} {below : List Frame} {meth : Method} {c : Code} {dC : Nat → ClassId} {dI : Nat → Nat → Nat} {kA : Nat → ClassId} {ad : Nat → Nat} (C : jxc cX11_run (some .int) 3 RX11 p s m args meth c dC dI kA) (hap : jw_ap 57 ad) {res : Int32 × RS} : G_cX11_run p l e s m args below meth c dC dI kA ad res (s_cX11_run) := by
  obtain ⟨hx, hb, hml, hown, hts, hr, hlocks, hK, hN⟩ := id C
  intro σ x1 x2 hf H locs ls hP hS hl
  unfold s_cX11_run at hf
  refine lv_iload_n hx hb dX11_run_0 rfl (lv_at hl 1 rfl) ?_
  refine jb_lt (tgt := 9) hx hb hf dX11_run_1 (by decide) (fun hf => ?_) (fun hf => ?_)
  · refine lv_bipush (v := (-102)) hx hb dX11_run_9 (by decide) ?_
    exact jr_i hx hb hr hlocks hf rfl hP hS dX11_run_11
  · refine lv_iload_n hx hb dX11_run_4 rfl (lv_at hl 1 rfl) ?_
    refine lv_iconst (v := 2) hx hb dX11_run_5 (by decide) ?_
    refine jc_le (tgt := 12) hx hb hf dX11_run_6 (by decide) (fun hf => ?_) (fun hf => ?_)
    · refine lv_iload_n hx hb dX11_run_12 rfl (lv_at hl 2 rfl) ?_
      refine lv_iconst (v := 1) hx hb dX11_run_13 (by decide) ?_
      refine jc_lt (tgt := 34) hx hb hf dX11_run_14 (by decide) (fun hf => ?_) (fun hf => ?_)
      · refine lv_bipush (v := (-102)) hx hb dX11_run_34 (by decide) ?_
        exact jr_i hx hb hr hlocks hf rfl hP hS dX11_run_36
      · refine lv_iload_n hx hb dX11_run_17 rfl (lv_at hl 2 rfl) ?_
        refine lv_iload_n hx hb dX11_run_18 rfl (lv_at hl 1 rfl) ?_
        refine lv_iconst (v := 2) hx hb dX11_run_19 (by decide) ?_
        refine jc_ne (tgt := 29) hx hb hf dX11_run_20 (by decide) (fun hf => ?_) (fun hf => ?_)
        · refine lv_bipush (v := 50) hx hb dX11_run_29 (by decide) ?_
          exact (p_cX11_run_b31 C hap) σ x1 x2 50 x2 hf H locs ls hP hS (lv_sub hl [0, 1, 2] rfl)
        · refine lv_sipush (v := 200) hx hb dX11_run_23 (by decide) ?_
          refine lv_goto (tgt := 31) hx hb dX11_run_26 (by decide) ?_
          exact (p_cX11_run_b31 C hap) σ x1 x2 200 x2 hf H locs ls hP hS (lv_sub hl [0, 1, 2] rfl)
    · refine lv_bipush (v := (-102)) hx hb dX11_run_9 (by decide) ?_
      exact jr_i hx hb hr hlocks hf rfl hP hS dX11_run_11
theorem c_cX11_run (l : Launch) {dC : Nat → ClassId} {dI : Nat → Nat → Nat} {kA : Nat → ClassId} {ad : Nat → Nat} (hap : jw_ap 57 ad) (σ : RS) (x1 : Int32) (x2 : Int32) (res : Int32 × RS) (hf : s_cX11_run σ x1 x2 = some res) : jm_i l KW NW (dC, dI) vwCl (jtys kA) (jw_A 57 ad) (c_w kA ad) yX11_run cX11_run 3 .int (rm_cX11_run) [.ref (ad 0), .int x1, .int x2] σ res := jm_i_of (by decide) (Nat.le_of_ble_eq_true rfl) (fun p e s m below meth c C hP hS ls hl => p_cX11_run C hap σ x1 x2 hf s.heap [] ls hP hS hl)
end
