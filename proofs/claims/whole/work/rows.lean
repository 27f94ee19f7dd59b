section
-- ===== PART A: goes FIRST, ahead of the names: the tables' words, and 'selects' of the private methods out of them =====
/-- a private method of a class that the tables say can be made, by its rows of tables_1 -/
def lw_okq (q : MethodName × Nat) : Prop := (q.1.cls ≠ "java/lang/invoke/MethodHandle" ∧ q.1.cls ≠ "java/lang/invoke/VarHandle") ∧ Cond.instantiable q.1.cls q.2 ∈ tables_1 ∧ Cond.privateMethod q.1 ∈ tables_1 ∧ Cond.instanceMethod q.1 ∈ tables_1
theorem lw_p0 : lw_okq (⟨"WalkedRounds", "changed", "(I)I"⟩, 11) := ⟨⟨by decide +kernel, by decide +kernel⟩, List.mem_of_getElem? (i := 17) (by decide +kernel), List.mem_of_getElem? (i := 420) (by decide +kernel), List.mem_of_getElem? (i := 421) (by decide +kernel)⟩
theorem lw_p1 : lw_okq (⟨"WalkedRounds$LineWalk", "startLine", "()V"⟩, 11) := ⟨⟨by decide +kernel, by decide +kernel⟩, List.mem_of_getElem? (i := 319) (by decide +kernel), List.mem_of_getElem? (i := 490) (by decide +kernel), List.mem_of_getElem? (i := 491) (by decide +kernel)⟩
theorem lw_p2 : lw_okq (⟨"WalkedRounds$LineWalk", "sendOn", "(I)V"⟩, 11) := ⟨⟨by decide +kernel, by decide +kernel⟩, List.mem_of_getElem? (i := 319) (by decide +kernel), List.mem_of_getElem? (i := 494) (by decide +kernel), List.mem_of_getElem? (i := 495) (by decide +kernel)⟩
theorem lw_p3 : lw_okq (⟨"WalkedRounds$LineWalk", "sendAlong", "(II)V"⟩, 11) := ⟨⟨by decide +kernel, by decide +kernel⟩, List.mem_of_getElem? (i := 319) (by decide +kernel), List.mem_of_getElem? (i := 498) (by decide +kernel), List.mem_of_getElem? (i := 499) (by decide +kernel)⟩
theorem lw_p4 : lw_okq (⟨"WalkedRounds$Asker", "valueOf", "(IIII)J"⟩, 7) := ⟨⟨by decide +kernel, by decide +kernel⟩, List.mem_of_getElem? (i := 219) (by decide +kernel), List.mem_of_getElem? (i := 506) (by decide +kernel), List.mem_of_getElem? (i := 507) (by decide +kernel)⟩
theorem lw_p5 : lw_okq (⟨"WalkedRounds$Asker", "fails", "(I)J"⟩, 7) := ⟨⟨by decide +kernel, by decide +kernel⟩, List.mem_of_getElem? (i := 219) (by decide +kernel), List.mem_of_getElem? (i := 510) (by decide +kernel), List.mem_of_getElem? (i := 511) (by decide +kernel)⟩
theorem lw_p6 : lw_okq (⟨"WalkedRounds$Asker", "plainValue", "(III)J"⟩, 7) := ⟨⟨by decide +kernel, by decide +kernel⟩, List.mem_of_getElem? (i := 219) (by decide +kernel), List.mem_of_getElem? (i := 514) (by decide +kernel), List.mem_of_getElem? (i := 515) (by decide +kernel)⟩
theorem lw_p7 : lw_okq (⟨"WalkedRounds$Asker", "stateAt", "(II)J"⟩, 7) := ⟨⟨by decide +kernel, by decide +kernel⟩, List.mem_of_getElem? (i := 219) (by decide +kernel), List.mem_of_getElem? (i := 519) (by decide +kernel), List.mem_of_getElem? (i := 520) (by decide +kernel)⟩
theorem lw_p8 : lw_okq (⟨"WalkedRounds$Asker", "joined", "(IJJ)J"⟩, 7) := ⟨⟨by decide +kernel, by decide +kernel⟩, List.mem_of_getElem? (i := 219) (by decide +kernel), List.mem_of_getElem? (i := 523) (by decide +kernel), List.mem_of_getElem? (i := 524) (by decide +kernel)⟩
theorem lw_p9 : lw_okq (⟨"WalkedRounds$LineWalk", "isDone", "(IJ)Z"⟩, 11) := ⟨⟨by decide +kernel, by decide +kernel⟩, List.mem_of_getElem? (i := 319) (by decide +kernel), List.mem_of_getElem? (i := 536) (by decide +kernel), List.mem_of_getElem? (i := 537) (by decide +kernel)⟩
theorem lw_p10 : lw_okq (⟨"WalkedRounds$LineWalk", "takeStates", "(I)V"⟩, 11) := ⟨⟨by decide +kernel, by decide +kernel⟩, List.mem_of_getElem? (i := 319) (by decide +kernel), List.mem_of_getElem? (i := 542) (by decide +kernel), List.mem_of_getElem? (i := 543) (by decide +kernel)⟩
theorem lw_p11 : lw_okq (⟨"WalkedRounds$RoundWalk", "isDone", "(Z)Z"⟩, 12) := ⟨⟨by decide +kernel, by decide +kernel⟩, List.mem_of_getElem? (i := 276) (by decide +kernel), List.mem_of_getElem? (i := 566) (by decide +kernel), List.mem_of_getElem? (i := 567) (by decide +kernel)⟩
theorem lw_p12 : lw_okq (⟨"WalkedRounds$RoundWalk", "begin", "()V"⟩, 12) := ⟨⟨by decide +kernel, by decide +kernel⟩, List.mem_of_getElem? (i := 276) (by decide +kernel), List.mem_of_getElem? (i := 571) (by decide +kernel), List.mem_of_getElem? (i := 572) (by decide +kernel)⟩
theorem lw_p13 : lw_okq (⟨"WalkedRounds$RoundWalk", "sendAll", "(Z)V"⟩, 12) := ⟨⟨by decide +kernel, by decide +kernel⟩, List.mem_of_getElem? (i := 276) (by decide +kernel), List.mem_of_getElem? (i := 576) (by decide +kernel), List.mem_of_getElem? (i := 577) (by decide +kernel)⟩
theorem lw_p14 : lw_okq (⟨"WalkedRounds$RoundWalk", "sendAlong", "(I)V"⟩, 12) := ⟨⟨by decide +kernel, by decide +kernel⟩, List.mem_of_getElem? (i := 276) (by decide +kernel), List.mem_of_getElem? (i := 580) (by decide +kernel), List.mem_of_getElem? (i := 581) (by decide +kernel)⟩
theorem lw_p15 : lw_okq (⟨"WalkedRounds$RoundWalk", "askNodes", "()V"⟩, 12) := ⟨⟨by decide +kernel, by decide +kernel⟩, List.mem_of_getElem? (i := 276) (by decide +kernel), List.mem_of_getElem? (i := 586) (by decide +kernel), List.mem_of_getElem? (i := 587) (by decide +kernel)⟩
def lw_privs_1 : List (MethodName × Nat) := [(⟨"WalkedRounds", "changed", "(I)I"⟩, 11), (⟨"WalkedRounds$LineWalk", "startLine", "()V"⟩, 11), (⟨"WalkedRounds$LineWalk", "sendOn", "(I)V"⟩, 11), (⟨"WalkedRounds$LineWalk", "sendAlong", "(II)V"⟩, 11), (⟨"WalkedRounds$Asker", "valueOf", "(IIII)J"⟩, 7), (⟨"WalkedRounds$Asker", "fails", "(I)J"⟩, 7), (⟨"WalkedRounds$Asker", "plainValue", "(III)J"⟩, 7), (⟨"WalkedRounds$Asker", "stateAt", "(II)J"⟩, 7), (⟨"WalkedRounds$Asker", "joined", "(IJJ)J"⟩, 7), (⟨"WalkedRounds$LineWalk", "isDone", "(IJ)Z"⟩, 11), (⟨"WalkedRounds$LineWalk", "takeStates", "(I)V"⟩, 11), (⟨"WalkedRounds$RoundWalk", "isDone", "(Z)Z"⟩, 12), (⟨"WalkedRounds$RoundWalk", "begin", "()V"⟩, 12), (⟨"WalkedRounds$RoundWalk", "sendAll", "(Z)V"⟩, 12), (⟨"WalkedRounds$RoundWalk", "sendAlong", "(I)V"⟩, 12), (⟨"WalkedRounds$RoundWalk", "askNodes", "()V"⟩, 12)]
theorem lw_r1 : ∀ q ∈ lw_privs_1, lw_okq q := List.forall_mem_cons.mpr ⟨lw_p0, List.forall_mem_cons.mpr ⟨lw_p1, List.forall_mem_cons.mpr ⟨lw_p2, List.forall_mem_cons.mpr ⟨lw_p3, List.forall_mem_cons.mpr ⟨lw_p4, List.forall_mem_cons.mpr ⟨lw_p5, List.forall_mem_cons.mpr ⟨lw_p6, List.forall_mem_cons.mpr ⟨lw_p7, List.forall_mem_cons.mpr ⟨lw_p8, List.forall_mem_cons.mpr ⟨lw_p9, List.forall_mem_cons.mpr ⟨lw_p10, List.forall_mem_cons.mpr ⟨lw_p11, List.forall_mem_cons.mpr ⟨lw_p12, List.forall_mem_cons.mpr ⟨lw_p13, List.forall_mem_cons.mpr ⟨lw_p14, List.forall_mem_cons.mpr ⟨lw_p15, fun _ h => absurd h List.not_mem_nil⟩⟩⟩⟩⟩⟩⟩⟩⟩⟩⟩⟩⟩⟩⟩⟩
theorem lw_p16 : lw_okq (⟨"WalkedRounds$RoundWalk", "messagesTo", "(I)I"⟩, 12) := ⟨⟨by decide +kernel, by decide +kernel⟩, List.mem_of_getElem? (i := 276) (by decide +kernel), List.mem_of_getElem? (i := 590) (by decide +kernel), List.mem_of_getElem? (i := 591) (by decide +kernel)⟩
theorem lw_p17 : lw_okq (⟨"WalkedRounds$RoundWalk", "askNode", "(II)V"⟩, 12) := ⟨⟨by decide +kernel, by decide +kernel⟩, List.mem_of_getElem? (i := 276) (by decide +kernel), List.mem_of_getElem? (i := 594) (by decide +kernel), List.mem_of_getElem? (i := 595) (by decide +kernel)⟩
theorem lw_p18 : lw_okq (⟨"WalkedRounds$RoundWalk", "foldFor", "(I)J"⟩, 12) := ⟨⟨by decide +kernel, by decide +kernel⟩, List.mem_of_getElem? (i := 276) (by decide +kernel), List.mem_of_getElem? (i := 598) (by decide +kernel), List.mem_of_getElem? (i := 599) (by decide +kernel)⟩
theorem lw_p19 : lw_okq (⟨"WalkedRounds$RoundWalk", "foldTwo", "(JJI)J"⟩, 12) := ⟨⟨by decide +kernel, by decide +kernel⟩, List.mem_of_getElem? (i := 276) (by decide +kernel), List.mem_of_getElem? (i := 602) (by decide +kernel), List.mem_of_getElem? (i := 603) (by decide +kernel)⟩
theorem lw_p20 : lw_okq (⟨"WalkedRounds$RoundWalk", "changeNodes", "()V"⟩, 12) := ⟨⟨by decide +kernel, by decide +kernel⟩, List.mem_of_getElem? (i := 276) (by decide +kernel), List.mem_of_getElem? (i := 614) (by decide +kernel), List.mem_of_getElem? (i := 615) (by decide +kernel)⟩
theorem lw_p21 : lw_okq (⟨"WalkedRounds$RoundWalk", "sumParts", "()V"⟩, 12) := ⟨⟨by decide +kernel, by decide +kernel⟩, List.mem_of_getElem? (i := 276) (by decide +kernel), List.mem_of_getElem? (i := 619) (by decide +kernel), List.mem_of_getElem? (i := 620) (by decide +kernel)⟩
theorem lw_p22 : lw_okq (⟨"WalkedRounds$RoundWalk", "tellMessages", "()V"⟩, 12) := ⟨⟨by decide +kernel, by decide +kernel⟩, List.mem_of_getElem? (i := 276) (by decide +kernel), List.mem_of_getElem? (i := 632) (by decide +kernel), List.mem_of_getElem? (i := 633) (by decide +kernel)⟩
theorem lw_p23 : lw_okq (⟨"WalkedRoundsModel", "clearFailed", "()V"⟩, 53) := ⟨⟨by decide +kernel, by decide +kernel⟩, List.mem_of_getElem? (i := 699) (by decide +kernel), List.mem_of_getElem? (i := 705) (by decide +kernel), List.mem_of_getElem? (i := 706) (by decide +kernel)⟩
theorem lw_p24 : lw_okq (⟨"WalkedRoundsModel", "isTerm", "(I)Z"⟩, 53) := ⟨⟨by decide +kernel, by decide +kernel⟩, List.mem_of_getElem? (i := 699) (by decide +kernel), List.mem_of_getElem? (i := 876) (by decide +kernel), List.mem_of_getElem? (i := 877) (by decide +kernel)⟩
theorem lw_p25 : lw_okq (⟨"WalkedRoundsModel", "isNode", "(I)Z"⟩, 53) := ⟨⟨by decide +kernel, by decide +kernel⟩, List.mem_of_getElem? (i := 699) (by decide +kernel), List.mem_of_getElem? (i := 889) (by decide +kernel), List.mem_of_getElem? (i := 890) (by decide +kernel)⟩
theorem lw_p26 : lw_okq (⟨"WalkedRoundsModel", "walk", "(I)I"⟩, 53) := ⟨⟨by decide +kernel, by decide +kernel⟩, List.mem_of_getElem? (i := 699) (by decide +kernel), List.mem_of_getElem? (i := 913) (by decide +kernel), List.mem_of_getElem? (i := 914) (by decide +kernel)⟩
theorem lw_p27 : lw_okq (⟨"WalkedRoundsModel", "remember", "()V"⟩, 53) := ⟨⟨by decide +kernel, by decide +kernel⟩, List.mem_of_getElem? (i := 699) (by decide +kernel), List.mem_of_getElem? (i := 917) (by decide +kernel), List.mem_of_getElem? (i := 918) (by decide +kernel)⟩
theorem lw_p28 : lw_okq (⟨"WalkedRoundsModel", "isFailed", "()Z"⟩, 53) := ⟨⟨by decide +kernel, by decide +kernel⟩, List.mem_of_getElem? (i := 699) (by decide +kernel), List.mem_of_getElem? (i := 921) (by decide +kernel), List.mem_of_getElem? (i := 922) (by decide +kernel)⟩
theorem lw_p29 : lw_okq (⟨"WalkedRoundsModel", "sendsOn", "(I)V"⟩, 53) := ⟨⟨by decide +kernel, by decide +kernel⟩, List.mem_of_getElem? (i := 699) (by decide +kernel), List.mem_of_getElem? (i := 925) (by decide +kernel), List.mem_of_getElem? (i := 926) (by decide +kernel)⟩
theorem lw_p30 : lw_okq (⟨"WalkedRoundsModel", "askArc", "(I)V"⟩, 53) := ⟨⟨by decide +kernel, by decide +kernel⟩, List.mem_of_getElem? (i := 699) (by decide +kernel), List.mem_of_getElem? (i := 929) (by decide +kernel), List.mem_of_getElem? (i := 930) (by decide +kernel)⟩
theorem lw_p31 : lw_okq (⟨"WalkedRoundsModel", "does", "(III)Z"⟩, 53) := ⟨⟨by decide +kernel, by decide +kernel⟩, List.mem_of_getElem? (i := 699) (by decide +kernel), List.mem_of_getElem? (i := 933) (by decide +kernel), List.mem_of_getElem? (i := 934) (by decide +kernel)⟩
def lw_privs_2 : List (MethodName × Nat) := [(⟨"WalkedRounds$RoundWalk", "messagesTo", "(I)I"⟩, 12), (⟨"WalkedRounds$RoundWalk", "askNode", "(II)V"⟩, 12), (⟨"WalkedRounds$RoundWalk", "foldFor", "(I)J"⟩, 12), (⟨"WalkedRounds$RoundWalk", "foldTwo", "(JJI)J"⟩, 12), (⟨"WalkedRounds$RoundWalk", "changeNodes", "()V"⟩, 12), (⟨"WalkedRounds$RoundWalk", "sumParts", "()V"⟩, 12), (⟨"WalkedRounds$RoundWalk", "tellMessages", "()V"⟩, 12), (⟨"WalkedRoundsModel", "clearFailed", "()V"⟩, 53), (⟨"WalkedRoundsModel", "isTerm", "(I)Z"⟩, 53), (⟨"WalkedRoundsModel", "isNode", "(I)Z"⟩, 53), (⟨"WalkedRoundsModel", "walk", "(I)I"⟩, 53), (⟨"WalkedRoundsModel", "remember", "()V"⟩, 53), (⟨"WalkedRoundsModel", "isFailed", "()Z"⟩, 53), (⟨"WalkedRoundsModel", "sendsOn", "(I)V"⟩, 53), (⟨"WalkedRoundsModel", "askArc", "(I)V"⟩, 53), (⟨"WalkedRoundsModel", "does", "(III)Z"⟩, 53)]
theorem lw_r2 : ∀ q ∈ lw_privs_2, lw_okq q := List.forall_mem_cons.mpr ⟨lw_p16, List.forall_mem_cons.mpr ⟨lw_p17, List.forall_mem_cons.mpr ⟨lw_p18, List.forall_mem_cons.mpr ⟨lw_p19, List.forall_mem_cons.mpr ⟨lw_p20, List.forall_mem_cons.mpr ⟨lw_p21, List.forall_mem_cons.mpr ⟨lw_p22, List.forall_mem_cons.mpr ⟨lw_p23, List.forall_mem_cons.mpr ⟨lw_p24, List.forall_mem_cons.mpr ⟨lw_p25, List.forall_mem_cons.mpr ⟨lw_p26, List.forall_mem_cons.mpr ⟨lw_p27, List.forall_mem_cons.mpr ⟨lw_p28, List.forall_mem_cons.mpr ⟨lw_p29, List.forall_mem_cons.mpr ⟨lw_p30, List.forall_mem_cons.mpr ⟨lw_p31, fun _ h => absurd h List.not_mem_nil⟩⟩⟩⟩⟩⟩⟩⟩⟩⟩⟩⟩⟩⟩⟩⟩
theorem lw_p32 : lw_okq (⟨"WalkedRoundsModel", "asked", "(III)I"⟩, 53) := ⟨⟨by decide +kernel, by decide +kernel⟩, List.mem_of_getElem? (i := 699) (by decide +kernel), List.mem_of_getElem? (i := 937) (by decide +kernel), List.mem_of_getElem? (i := 938) (by decide +kernel)⟩
theorem lw_p33 : lw_okq (⟨"WalkedRoundsModel", "push", "(I)V"⟩, 53) := ⟨⟨by decide +kernel, by decide +kernel⟩, List.mem_of_getElem? (i := 699) (by decide +kernel), List.mem_of_getElem? (i := 941) (by decide +kernel), List.mem_of_getElem? (i := 942) (by decide +kernel)⟩
theorem lw_p34 : lw_okq (⟨"WalkedRoundsModel", "begins", "(I)Z"⟩, 53) := ⟨⟨by decide +kernel, by decide +kernel⟩, List.mem_of_getElem? (i := 699) (by decide +kernel), List.mem_of_getElem? (i := 945) (by decide +kernel), List.mem_of_getElem? (i := 946) (by decide +kernel)⟩
theorem lw_p35 : lw_okq (⟨"WalkedRoundsModel", "arcsFrom", "(I)I"⟩, 53) := ⟨⟨by decide +kernel, by decide +kernel⟩, List.mem_of_getElem? (i := 699) (by decide +kernel), List.mem_of_getElem? (i := 949) (by decide +kernel), List.mem_of_getElem? (i := 950) (by decide +kernel)⟩
theorem lw_p36 : lw_okq (⟨"WalkedRoundsModel", "goesOn", "(I)Z"⟩, 53) := ⟨⟨by decide +kernel, by decide +kernel⟩, List.mem_of_getElem? (i := 699) (by decide +kernel), List.mem_of_getElem? (i := 953) (by decide +kernel), List.mem_of_getElem? (i := 954) (by decide +kernel)⟩
theorem lw_p37 : lw_okq (⟨"WalkedRoundsModel", "joined", "(IJJ)J"⟩, 53) := ⟨⟨by decide +kernel, by decide +kernel⟩, List.mem_of_getElem? (i := 699) (by decide +kernel), List.mem_of_getElem? (i := 957) (by decide +kernel), List.mem_of_getElem? (i := 958) (by decide +kernel)⟩
theorem lw_p38 : lw_okq (⟨"WalkedRoundsModel", "note", "(IIII)V"⟩, 53) := ⟨⟨by decide +kernel, by decide +kernel⟩, List.mem_of_getElem? (i := 699) (by decide +kernel), List.mem_of_getElem? (i := 961) (by decide +kernel), List.mem_of_getElem? (i := 962) (by decide +kernel)⟩
theorem lw_p39 : lw_okq (⟨"WalkedRoundsModel", "takes", "(I)Z"⟩, 53) := ⟨⟨by decide +kernel, by decide +kernel⟩, List.mem_of_getElem? (i := 699) (by decide +kernel), List.mem_of_getElem? (i := 965) (by decide +kernel), List.mem_of_getElem? (i := 966) (by decide +kernel)⟩
theorem lw_p40 : lw_okq (⟨"WalkedRoundsModel", "keep", "(JI)V"⟩, 53) := ⟨⟨by decide +kernel, by decide +kernel⟩, List.mem_of_getElem? (i := 699) (by decide +kernel), List.mem_of_getElem? (i := 969) (by decide +kernel), List.mem_of_getElem? (i := 970) (by decide +kernel)⟩
theorem lw_p41 : lw_okq (⟨"WalkedRoundsModel", "isAnyAwake", "()Z"⟩, 53) := ⟨⟨by decide +kernel, by decide +kernel⟩, List.mem_of_getElem? (i := 699) (by decide +kernel), List.mem_of_getElem? (i := 973) (by decide +kernel), List.mem_of_getElem? (i := 974) (by decide +kernel)⟩
theorem lw_p42 : lw_okq (⟨"WalkedRoundsModel", "round", "(I)Z"⟩, 53) := ⟨⟨by decide +kernel, by decide +kernel⟩, List.mem_of_getElem? (i := 699) (by decide +kernel), List.mem_of_getElem? (i := 977) (by decide +kernel), List.mem_of_getElem? (i := 978) (by decide +kernel)⟩
theorem lw_p43 : lw_okq (⟨"WalkedRoundsModel", "sendAll", "(I)V"⟩, 53) := ⟨⟨by decide +kernel, by decide +kernel⟩, List.mem_of_getElem? (i := 699) (by decide +kernel), List.mem_of_getElem? (i := 981) (by decide +kernel), List.mem_of_getElem? (i := 982) (by decide +kernel)⟩
theorem lw_p44 : lw_okq (⟨"WalkedRoundsModel", "sendAlong", "(I)V"⟩, 53) := ⟨⟨by decide +kernel, by decide +kernel⟩, List.mem_of_getElem? (i := 699) (by decide +kernel), List.mem_of_getElem? (i := 985) (by decide +kernel), List.mem_of_getElem? (i := 986) (by decide +kernel)⟩
theorem lw_p45 : lw_okq (⟨"WalkedRoundsModel", "isReached", "(I)Z"⟩, 53) := ⟨⟨by decide +kernel, by decide +kernel⟩, List.mem_of_getElem? (i := 699) (by decide +kernel), List.mem_of_getElem? (i := 989) (by decide +kernel), List.mem_of_getElem? (i := 990) (by decide +kernel)⟩
theorem lw_p46 : lw_okq (⟨"WalkedRoundsModel", "renew", "(I)V"⟩, 53) := ⟨⟨by decide +kernel, by decide +kernel⟩, List.mem_of_getElem? (i := 699) (by decide +kernel), List.mem_of_getElem? (i := 993) (by decide +kernel), List.mem_of_getElem? (i := 994) (by decide +kernel)⟩
theorem lw_p47 : lw_okq (⟨"WalkedRoundsModel", "foldFor", "(I)V"⟩, 53) := ⟨⟨by decide +kernel, by decide +kernel⟩, List.mem_of_getElem? (i := 699) (by decide +kernel), List.mem_of_getElem? (i := 997) (by decide +kernel), List.mem_of_getElem? (i := 998) (by decide +kernel)⟩
def lw_privs_3 : List (MethodName × Nat) := [(⟨"WalkedRoundsModel", "asked", "(III)I"⟩, 53), (⟨"WalkedRoundsModel", "push", "(I)V"⟩, 53), (⟨"WalkedRoundsModel", "begins", "(I)Z"⟩, 53), (⟨"WalkedRoundsModel", "arcsFrom", "(I)I"⟩, 53), (⟨"WalkedRoundsModel", "goesOn", "(I)Z"⟩, 53), (⟨"WalkedRoundsModel", "joined", "(IJJ)J"⟩, 53), (⟨"WalkedRoundsModel", "note", "(IIII)V"⟩, 53), (⟨"WalkedRoundsModel", "takes", "(I)Z"⟩, 53), (⟨"WalkedRoundsModel", "keep", "(JI)V"⟩, 53), (⟨"WalkedRoundsModel", "isAnyAwake", "()Z"⟩, 53), (⟨"WalkedRoundsModel", "round", "(I)Z"⟩, 53), (⟨"WalkedRoundsModel", "sendAll", "(I)V"⟩, 53), (⟨"WalkedRoundsModel", "sendAlong", "(I)V"⟩, 53), (⟨"WalkedRoundsModel", "isReached", "(I)Z"⟩, 53), (⟨"WalkedRoundsModel", "renew", "(I)V"⟩, 53), (⟨"WalkedRoundsModel", "foldFor", "(I)V"⟩, 53)]
theorem lw_r3 : ∀ q ∈ lw_privs_3, lw_okq q := List.forall_mem_cons.mpr ⟨lw_p32, List.forall_mem_cons.mpr ⟨lw_p33, List.forall_mem_cons.mpr ⟨lw_p34, List.forall_mem_cons.mpr ⟨lw_p35, List.forall_mem_cons.mpr ⟨lw_p36, List.forall_mem_cons.mpr ⟨lw_p37, List.forall_mem_cons.mpr ⟨lw_p38, List.forall_mem_cons.mpr ⟨lw_p39, List.forall_mem_cons.mpr ⟨lw_p40, List.forall_mem_cons.mpr ⟨lw_p41, List.forall_mem_cons.mpr ⟨lw_p42, List.forall_mem_cons.mpr ⟨lw_p43, List.forall_mem_cons.mpr ⟨lw_p44, List.forall_mem_cons.mpr ⟨lw_p45, List.forall_mem_cons.mpr ⟨lw_p46, List.forall_mem_cons.mpr ⟨lw_p47, fun _ h => absurd h List.not_mem_nil⟩⟩⟩⟩⟩⟩⟩⟩⟩⟩⟩⟩⟩⟩⟩⟩
theorem lw_p48 : lw_okq (⟨"WalkedRoundsModel", "isOver", "(JJ)Z"⟩, 53) := ⟨⟨by decide +kernel, by decide +kernel⟩, List.mem_of_getElem? (i := 699) (by decide +kernel), List.mem_of_getElem? (i := 1001) (by decide +kernel), List.mem_of_getElem? (i := 1002) (by decide +kernel)⟩
theorem lw_p49 : lw_okq (⟨"WalkedRoundsModel", "asBefore", "()V"⟩, 53) := ⟨⟨by decide +kernel, by decide +kernel⟩, List.mem_of_getElem? (i := 699) (by decide +kernel), List.mem_of_getElem? (i := 1005) (by decide +kernel), List.mem_of_getElem? (i := 1006) (by decide +kernel)⟩
theorem lw_p50 : lw_okq (⟨"WalkedRoundsModel", "isArc", "(I)Z"⟩, 53) := ⟨⟨by decide +kernel, by decide +kernel⟩, List.mem_of_getElem? (i := 699) (by decide +kernel), List.mem_of_getElem? (i := 1021) (by decide +kernel), List.mem_of_getElem? (i := 1022) (by decide +kernel)⟩
def lw_privs_4 : List (MethodName × Nat) := [(⟨"WalkedRoundsModel", "isOver", "(JJ)Z"⟩, 53), (⟨"WalkedRoundsModel", "asBefore", "()V"⟩, 53), (⟨"WalkedRoundsModel", "isArc", "(I)Z"⟩, 53)]
theorem lw_r4 : ∀ q ∈ lw_privs_4, lw_okq q := List.forall_mem_cons.mpr ⟨lw_p48, List.forall_mem_cons.mpr ⟨lw_p49, List.forall_mem_cons.mpr ⟨lw_p50, fun _ h => absurd h List.not_mem_nil⟩⟩⟩
def lw_privs : List (MethodName × Nat) := lw_privs_1 ++ (lw_privs_2 ++ (lw_privs_3 ++ (lw_privs_4)))
def lw_tbl : List Cond := k2_sels lw_privs ++ tables_1
theorem lw_privs_ok : ∀ q ∈ lw_privs, lw_okq q := by
  show ∀ q ∈ lw_privs_1 ++ (lw_privs_2 ++ (lw_privs_3 ++ (lw_privs_4))), lw_okq q
  exact List.forall_mem_append.mpr ⟨lw_r1, List.forall_mem_append.mpr ⟨lw_r2, List.forall_mem_append.mpr ⟨lw_r3, lw_r4⟩⟩⟩
def RX0 : String := "WalkedRounds$Actor"
def TX0 : u_T := fun k => match k with
  | 0 => ("WalkedRounds$Actor", "web", "LWalkedRounds$Web;", true)
  | 1 => ("WalkedRounds$Actor", "program", "LWalkedRounds$Program;", true)
  | 2 => ("WalkedRounds$Actor", "asker", "LWalkedRounds$Asker;", true)
  | _ => ("WalkedRounds$Actor", "failure", "LWalkedRounds$Failure;", true)
def tyX0 : Nat → FieldType := fun k => match k with
  | 0 => .object "WalkedRounds$Web"
  | 1 => .object "WalkedRounds$Program"
  | 2 => .object "WalkedRounds$Asker"
  | _ => .object "WalkedRounds$Failure"
theorem nmX0 : ∀ a, a < 4 → ∀ b, b < 4 → a ≠ b → (TX0 a).2.1 ≠ (TX0 b).2.1 := by decide +kernel
theorem tyX0_ok : ∀ k, k < 4 → parseFieldDescriptor (TX0 k).2.2.1 = some (tyX0 k) := by decide +kernel
abbrev cX0_init : ByteArray := prog_2_method_1_code
def yX0_init : MethodName := ⟨RX0, "<init>", "(LWalkedRounds$Web;LWalkedRounds$Program;LWalkedRounds$Asker;LWalkedRounds$Failure;)V"⟩
abbrev cX0_comesTo : ByteArray := prog_2_method_2_code
def yX0_comesTo : MethodName := ⟨RX0, "comesTo", "(IIIJ)J"⟩
def RX1 : String := "WalkedRounds$Asker"
def TX1 : u_T := fun k => match k with
  | 0 => ("WalkedRounds$Asker", "terms", "LWalkedRounds$Terms;", true)
  | 1 => ("WalkedRounds$Asker", "web", "LWalkedRounds$Web;", true)
  | 2 => ("WalkedRounds$Asker", "foldedMessages", "I", false)
  | 3 => ("WalkedRounds$Asker", "steps", "I", false)
  | 4 => ("WalkedRounds$Asker", "foldedValue", "J", false)
  | 5 => ("WalkedRounds$Asker", "fault", "I", false)
  | _ => ("WalkedRounds$Asker", "allSteps", "I", false)
def tyX1 : Nat → FieldType := fun k => match k with
  | 0 => .object "WalkedRounds$Terms"
  | 1 => .object "WalkedRounds$Web"
  | 2 => .int
  | 3 => .int
  | 4 => .long
  | 5 => .int
  | _ => .int
theorem nmX1 : ∀ a, a < 7 → ∀ b, b < 7 → a ≠ b → (TX1 a).2.1 ≠ (TX1 b).2.1 := by decide +kernel
theorem tyX1_ok : ∀ k, k < 7 → parseFieldDescriptor (TX1 k).2.2.1 = some (tyX1 k) := by decide +kernel
abbrev cX1_init : ByteArray := prog_3_method_1_code
def yX1_init : MethodName := ⟨RX1, "<init>", "(LWalkedRounds$Terms;LWalkedRounds$Web;)V"⟩
abbrev cX1_begin : ByteArray := prog_3_method_2_code
def yX1_begin : MethodName := ⟨RX1, "begin", "()V"⟩
abbrev cX1_setFolded : ByteArray := prog_3_method_3_code
def yX1_setFolded : MethodName := ⟨RX1, "setFolded", "(JI)V"⟩
abbrev cX1_valueOf : ByteArray := prog_3_method_4_code
def yX1_valueOf : MethodName := ⟨RX1, "valueOf", "(IIII)J"⟩
abbrev cX1_plainValue : ByteArray := prog_3_method_5_code
def yX1_plainValue : MethodName := ⟨RX1, "plainValue", "(III)J"⟩
abbrev cX1_stateAt : ByteArray := prog_3_method_6_code
def yX1_stateAt : MethodName := ⟨RX1, "stateAt", "(II)J"⟩
abbrev cX1_joined : ByteArray := prog_3_method_7_code
def yX1_joined : MethodName := ⟨RX1, "joined", "(IJJ)J"⟩
abbrev cX1_fails : ByteArray := prog_3_method_8_code
def yX1_fails : MethodName := ⟨RX1, "fails", "(I)J"⟩
def RX2 : String := "WalkedRounds$Failure"
def TX2 : u_T := fun k => match k with
  | 0 => ("WalkedRounds$Failure", "sort", "I", false)
  | 1 => ("WalkedRounds$Failure", "act", "I", false)
  | 2 => ("WalkedRounds$Failure", "node", "I", false)
  | 3 => ("WalkedRounds$Failure", "arc", "I", false)
  | _ => ("WalkedRounds$Failure", "round", "I", false)
def tyX2 : Nat → FieldType := fun k => match k with
  | 0 => .int
  | 1 => .int
  | 2 => .int
  | 3 => .int
  | _ => .int
theorem nmX2 : ∀ a, a < 5 → ∀ b, b < 5 → a ≠ b → (TX2 a).2.1 ≠ (TX2 b).2.1 := by decide +kernel
theorem tyX2_ok : ∀ k, k < 5 → parseFieldDescriptor (TX2 k).2.2.1 = some (tyX2 k) := by decide +kernel
abbrev cX2_init : ByteArray := prog_4_method_1_code
def yX2_init : MethodName := ⟨RX2, "<init>", "()V"⟩
abbrev cX2_clear : ByteArray := prog_4_method_2_code
def yX2_clear : MethodName := ⟨RX2, "clear", "()V"⟩
abbrev cX2_is : ByteArray := prog_4_method_3_code
def yX2_is : MethodName := ⟨RX2, "is", "()Z"⟩
abbrev cX2_keep : ByteArray := prog_4_method_4_code
def yX2_keep : MethodName := ⟨RX2, "keep", "(IIIII)V"⟩
abbrev cX2_tell : ByteArray := prog_4_method_5_code
def yX2_tell : MethodName := ⟨RX2, "tell", "(I)I"⟩
def RX3 : String := "WalkedRounds$LineWalk"
def TX3 : u_T := fun k => match k with
  | 0 => ("WalkedRounds$LineWalk", "web", "LWalkedRounds$Web;", true)
  | 1 => ("WalkedRounds$LineWalk", "actor", "LWalkedRounds$Actor;", true)
  | 2 => ("WalkedRounds$LineWalk", "failure", "LWalkedRounds$Failure;", true)
  | 3 => ("WalkedRounds$LineWalk", "past", "LWalkedRounds$Past;", true)
  | 4 => ("WalkedRounds$LineWalk", "told", "LWalkedRounds$Told;", true)
  | 5 => ("WalkedRounds$LineWalk", "arcs", "[I", true)
  | 6 => ("WalkedRounds$LineWalk", "values", "[J", true)
  | 7 => ("WalkedRounds$LineWalk", "newStates", "[J", true)
  | 8 => ("WalkedRounds$LineWalk", "oldStates", "[J", true)
  | 9 => ("WalkedRounds$LineWalk", "first", "I", false)
  | _ => ("WalkedRounds$LineWalk", "size", "I", false)
def tyX3 : Nat → FieldType := fun k => match k with
  | 0 => .object "WalkedRounds$Web"
  | 1 => .object "WalkedRounds$Actor"
  | 2 => .object "WalkedRounds$Failure"
  | 3 => .object "WalkedRounds$Past"
  | 4 => .object "WalkedRounds$Told"
  | 5 => .array .int
  | 6 => .array .long
  | 7 => .array .long
  | 8 => .array .long
  | 9 => .int
  | _ => .int
theorem nmX3 : ∀ a, a < 11 → ∀ b, b < 11 → a ≠ b → (TX3 a).2.1 ≠ (TX3 b).2.1 := by decide +kernel
theorem tyX3_ok : ∀ k, k < 11 → parseFieldDescriptor (TX3 k).2.2.1 = some (tyX3 k) := by decide +kernel
abbrev cX3_init : ByteArray := prog_5_method_1_code
def yX3_init : MethodName := ⟨RX3, "<init>", "(LWalkedRounds$Actor;LWalkedRounds$Past;LWalkedRounds$Told;)V"⟩
abbrev cX3_walk : ByteArray := prog_5_method_2_code
def yX3_walk : MethodName := ⟨RX3, "walk", "(I)I"⟩
abbrev cX3_startLine : ByteArray := prog_5_method_3_code
def yX3_startLine : MethodName := ⟨RX3, "startLine", "()V"⟩
abbrev cX3_sendOn : ByteArray := prog_5_method_4_code
def yX3_sendOn : MethodName := ⟨RX3, "sendOn", "(I)V"⟩
abbrev cX3_sendAlong : ByteArray := prog_5_method_5_code
def yX3_sendAlong : MethodName := ⟨RX3, "sendAlong", "(II)V"⟩
abbrev cX3_isDone : ByteArray := prog_5_method_6_code
def yX3_isDone : MethodName := ⟨RX3, "isDone", "(IJ)Z"⟩
abbrev cX3_takeStates : ByteArray := prog_5_method_7_code
def yX3_takeStates : MethodName := ⟨RX3, "takeStates", "(I)V"⟩
def RX4 : String := "WalkedRounds$Memory"
def TX4 : u_T := fun k => match k with
  | 0 => ("WalkedRounds$Memory", "states", "[J", true)
  | 1 => ("WalkedRounds$Memory", "awake", "[Z", true)
  | 2 => ("WalkedRounds$Memory", "rounds", "I", false)
  | _ => ("WalkedRounds$Memory", "sum", "J", false)
def tyX4 : Nat → FieldType := fun k => match k with
  | 0 => .array .long
  | 1 => .array .boolean
  | 2 => .int
  | _ => .long
theorem nmX4 : ∀ a, a < 4 → ∀ b, b < 4 → a ≠ b → (TX4 a).2.1 ≠ (TX4 b).2.1 := by decide +kernel
theorem tyX4_ok : ∀ k, k < 4 → parseFieldDescriptor (TX4 k).2.2.1 = some (tyX4 k) := by decide +kernel
abbrev cX4_init : ByteArray := prog_6_method_1_code
def yX4_init : MethodName := ⟨RX4, "<init>", "()V"⟩
abbrev cX4_take : ByteArray := prog_6_method_2_code
def yX4_take : MethodName := ⟨RX4, "take", "(LWalkedRounds$Web;)V"⟩
abbrev cX4_giveBack : ByteArray := prog_6_method_3_code
def yX4_giveBack : MethodName := ⟨RX4, "giveBack", "(LWalkedRounds$Web;)V"⟩
def RX5 : String := "WalkedRounds$Past"
def TX5 : u_T := fun k => match k with
  | 0 => ("WalkedRounds$Past", "ring", "[LWalkedRounds$Memory;", true)
  | 1 => ("WalkedRounds$Past", "next", "I", false)
  | _ => ("WalkedRounds$Past", "kept", "I", false)
def tyX5 : Nat → FieldType := fun k => match k with
  | 0 => .array (.object "WalkedRounds$Memory")
  | 1 => .int
  | _ => .int
theorem nmX5 : ∀ a, a < 3 → ∀ b, b < 3 → a ≠ b → (TX5 a).2.1 ≠ (TX5 b).2.1 := by decide +kernel
theorem tyX5_ok : ∀ k, k < 3 → parseFieldDescriptor (TX5 k).2.2.1 = some (tyX5 k) := by decide +kernel
abbrev cX5_init : ByteArray := prog_7_method_1_code
def yX5_init : MethodName := ⟨RX5, "<init>", "()V"⟩
abbrev cX5_mark : ByteArray := prog_7_method_2_code
def yX5_mark : MethodName := ⟨RX5, "mark", "(LWalkedRounds$Web;)V"⟩
abbrev cX5_backToMark : ByteArray := prog_7_method_3_code
def yX5_backToMark : MethodName := ⟨RX5, "backToMark", "(LWalkedRounds$Web;)V"⟩
abbrev cX5_keepMark : ByteArray := prog_7_method_4_code
def yX5_keepMark : MethodName := ⟨RX5, "keepMark", "()V"⟩
abbrev cX5_forget : ByteArray := prog_7_method_5_code
def yX5_forget : MethodName := ⟨RX5, "forget", "()V"⟩
abbrev cX5_undoLatest : ByteArray := prog_7_method_6_code
def yX5_undoLatest : MethodName := ⟨RX5, "undoLatest", "(LWalkedRounds$Web;)I"⟩
def RX6 : String := "WalkedRounds$Program"
def TX6 : u_T := fun k => match k with
  | 0 => ("WalkedRounds$Program", "acts", "[I", true)
  | _ => ("WalkedRounds$Program", "foldSort", "I", false)
def tyX6 : Nat → FieldType := fun k => match k with
  | 0 => .array .int
  | _ => .int
theorem nmX6 : ∀ a, a < 2 → ∀ b, b < 2 → a ≠ b → (TX6 a).2.1 ≠ (TX6 b).2.1 := by decide +kernel
theorem tyX6_ok : ∀ k, k < 2 → parseFieldDescriptor (TX6 k).2.2.1 = some (tyX6 k) := by decide +kernel
abbrev cX6_init : ByteArray := prog_8_method_1_code
def yX6_init : MethodName := ⟨RX6, "<init>", "()V"⟩
def RX7 : String := "WalkedRounds$RoundWalk"
def TX7 : u_T := fun k => match k with
  | 0 => ("WalkedRounds$RoundWalk", "web", "LWalkedRounds$Web;", true)
  | 1 => ("WalkedRounds$RoundWalk", "actor", "LWalkedRounds$Actor;", true)
  | 2 => ("WalkedRounds$RoundWalk", "failure", "LWalkedRounds$Failure;", true)
  | 3 => ("WalkedRounds$RoundWalk", "past", "LWalkedRounds$Past;", true)
  | 4 => ("WalkedRounds$RoundWalk", "told", "LWalkedRounds$Told;", true)
  | 5 => ("WalkedRounds$RoundWalk", "sentArcs", "[I", true)
  | 6 => ("WalkedRounds$RoundWalk", "carries", "[Z", true)
  | 7 => ("WalkedRounds$RoundWalk", "carried", "[J", true)
  | 8 => ("WalkedRounds$RoundWalk", "reached", "[Z", true)
  | 9 => ("WalkedRounds$RoundWalk", "halting", "[Z", true)
  | 10 => ("WalkedRounds$RoundWalk", "newStates", "[J", true)
  | _ => ("WalkedRounds$RoundWalk", "sent", "I", false)
def tyX7 : Nat → FieldType := fun k => match k with
  | 0 => .object "WalkedRounds$Web"
  | 1 => .object "WalkedRounds$Actor"
  | 2 => .object "WalkedRounds$Failure"
  | 3 => .object "WalkedRounds$Past"
  | 4 => .object "WalkedRounds$Told"
  | 5 => .array .int
  | 6 => .array .boolean
  | 7 => .array .long
  | 8 => .array .boolean
  | 9 => .array .boolean
  | 10 => .array .long
  | _ => .int
theorem nmX7 : ∀ a, a < 12 → ∀ b, b < 12 → a ≠ b → (TX7 a).2.1 ≠ (TX7 b).2.1 := by decide +kernel
theorem tyX7_ok : ∀ k, k < 12 → parseFieldDescriptor (TX7 k).2.2.1 = some (tyX7 k) := by decide +kernel
abbrev cX7_init : ByteArray := prog_9_method_1_code
def yX7_init : MethodName := ⟨RX7, "<init>", "(LWalkedRounds$Actor;LWalkedRounds$Past;LWalkedRounds$Told;)V"⟩
abbrev cX7_walk : ByteArray := prog_9_method_2_code
def yX7_walk : MethodName := ⟨RX7, "walk", "(ZI)I"⟩
abbrev cX7_isDone : ByteArray := prog_9_method_3_code
def yX7_isDone : MethodName := ⟨RX7, "isDone", "(Z)Z"⟩
abbrev cX7_begin : ByteArray := prog_9_method_4_code
def yX7_begin : MethodName := ⟨RX7, "begin", "()V"⟩
abbrev cX7_sendAll : ByteArray := prog_9_method_5_code
def yX7_sendAll : MethodName := ⟨RX7, "sendAll", "(Z)V"⟩
abbrev cX7_sendAlong : ByteArray := prog_9_method_6_code
def yX7_sendAlong : MethodName := ⟨RX7, "sendAlong", "(I)V"⟩
abbrev cX7_askNodes : ByteArray := prog_9_method_7_code
def yX7_askNodes : MethodName := ⟨RX7, "askNodes", "()V"⟩
abbrev cX7_messagesTo : ByteArray := prog_9_method_8_code
def yX7_messagesTo : MethodName := ⟨RX7, "messagesTo", "(I)I"⟩
abbrev cX7_askNode : ByteArray := prog_9_method_9_code
def yX7_askNode : MethodName := ⟨RX7, "askNode", "(II)V"⟩
abbrev cX7_foldFor : ByteArray := prog_9_method_10_code
def yX7_foldFor : MethodName := ⟨RX7, "foldFor", "(I)J"⟩
abbrev cX7_foldTwo : ByteArray := prog_9_method_11_code
def yX7_foldTwo : MethodName := ⟨RX7, "foldTwo", "(JJI)J"⟩
abbrev cX7_changeNodes : ByteArray := prog_9_method_12_code
def yX7_changeNodes : MethodName := ⟨RX7, "changeNodes", "()V"⟩
abbrev cX7_sumParts : ByteArray := prog_9_method_13_code
def yX7_sumParts : MethodName := ⟨RX7, "sumParts", "()V"⟩
abbrev cX7_tellMessages : ByteArray := prog_9_method_14_code
def yX7_tellMessages : MethodName := ⟨RX7, "tellMessages", "()V"⟩
def RX8 : String := "WalkedRounds$Terms"
def TX8 : u_T := fun k => match k with
  | 0 => ("WalkedRounds$Terms", "kinds", "[I", true)
  | 1 => ("WalkedRounds$Terms", "partA", "[I", true)
  | 2 => ("WalkedRounds$Terms", "partB", "[I", true)
  | 3 => ("WalkedRounds$Terms", "partC", "[I", true)
  | 4 => ("WalkedRounds$Terms", "numbers", "[J", true)
  | _ => ("WalkedRounds$Terms", "size", "I", false)
def tyX8 : Nat → FieldType := fun k => match k with
  | 0 => .array .int
  | 1 => .array .int
  | 2 => .array .int
  | 3 => .array .int
  | 4 => .array .long
  | _ => .int
theorem nmX8 : ∀ a, a < 6 → ∀ b, b < 6 → a ≠ b → (TX8 a).2.1 ≠ (TX8 b).2.1 := by decide +kernel
theorem tyX8_ok : ∀ k, k < 6 → parseFieldDescriptor (TX8 k).2.2.1 = some (tyX8 k) := by decide +kernel
abbrev cX8_init : ByteArray := prog_10_method_1_code
def yX8_init : MethodName := ⟨RX8, "<init>", "()V"⟩
abbrev cX8_has : ByteArray := prog_10_method_2_code
def yX8_has : MethodName := ⟨RX8, "has", "(I)Z"⟩
abbrev cX8_add : ByteArray := prog_10_method_3_code
def yX8_add : MethodName := ⟨RX8, "add", "(IIIIJ)I"⟩
abbrev cX8_partsOf : ByteArray := prog_10_method_4_code
def yX8_partsOf : MethodName := ⟨RX8, "partsOf", "(I)I"⟩
def RX9 : String := "WalkedRounds$Told"
def TX9 : u_T := fun k => match k with
  | 0 => ("WalkedRounds$Told", "arcs", "[I", true)
  | 1 => ("WalkedRounds$Told", "values", "[J", true)
  | _ => ("WalkedRounds$Told", "size", "I", false)
def tyX9 : Nat → FieldType := fun k => match k with
  | 0 => .array .int
  | 1 => .array .long
  | _ => .int
theorem nmX9 : ∀ a, a < 3 → ∀ b, b < 3 → a ≠ b → (TX9 a).2.1 ≠ (TX9 b).2.1 := by decide +kernel
theorem tyX9_ok : ∀ k, k < 3 → parseFieldDescriptor (TX9 k).2.2.1 = some (tyX9 k) := by decide +kernel
abbrev cX9_init : ByteArray := prog_11_method_1_code
def yX9_init : MethodName := ⟨RX9, "<init>", "()V"⟩
abbrev cX9_has : ByteArray := prog_11_method_2_code
def yX9_has : MethodName := ⟨RX9, "has", "(I)Z"⟩
abbrev cX9_clear : ByteArray := prog_11_method_3_code
def yX9_clear : MethodName := ⟨RX9, "clear", "()V"⟩
abbrev cX9_add : ByteArray := prog_11_method_4_code
def yX9_add : MethodName := ⟨RX9, "add", "(IJ)V"⟩
def RX10 : String := "WalkedRounds$Web"
def TX10 : u_T := fun k => match k with
  | 0 => ("WalkedRounds$Web", "states", "[J", true)
  | 1 => ("WalkedRounds$Web", "awake", "[Z", true)
  | 2 => ("WalkedRounds$Web", "degrees", "[I", true)
  | 3 => ("WalkedRounds$Web", "from", "[I", true)
  | 4 => ("WalkedRounds$Web", "to", "[I", true)
  | 5 => ("WalkedRounds$Web", "weights", "[J", true)
  | 6 => ("WalkedRounds$Web", "nodes", "I", false)
  | 7 => ("WalkedRounds$Web", "arcs", "I", false)
  | 8 => ("WalkedRounds$Web", "rounds", "I", false)
  | _ => ("WalkedRounds$Web", "sum", "J", false)
def tyX10 : Nat → FieldType := fun k => match k with
  | 0 => .array .long
  | 1 => .array .boolean
  | 2 => .array .int
  | 3 => .array .int
  | 4 => .array .int
  | 5 => .array .long
  | 6 => .int
  | 7 => .int
  | 8 => .int
  | _ => .long
theorem nmX10 : ∀ a, a < 10 → ∀ b, b < 10 → a ≠ b → (TX10 a).2.1 ≠ (TX10 b).2.1 := by decide +kernel
theorem tyX10_ok : ∀ k, k < 10 → parseFieldDescriptor (TX10 k).2.2.1 = some (tyX10 k) := by decide +kernel
abbrev cX10_init : ByteArray := prog_12_method_1_code
def yX10_init : MethodName := ⟨RX10, "<init>", "()V"⟩
abbrev cX10_hasNode : ByteArray := prog_12_method_2_code
def yX10_hasNode : MethodName := ⟨RX10, "hasNode", "(I)Z"⟩
abbrev cX10_hasArc : ByteArray := prog_12_method_3_code
def yX10_hasArc : MethodName := ⟨RX10, "hasArc", "(I)Z"⟩
abbrev cX10_addNode : ByteArray := prog_12_method_4_code
def yX10_addNode : MethodName := ⟨RX10, "addNode", "()I"⟩
abbrev cX10_addArc : ByteArray := prog_12_method_5_code
def yX10_addArc : MethodName := ⟨RX10, "addArc", "(IIJ)I"⟩
abbrev cX10_awakeNodes : ByteArray := prog_12_method_6_code
def yX10_awakeNodes : MethodName := ⟨RX10, "awakeNodes", "()I"⟩
def RX11 : String := "WalkedRounds"
def TX11 : u_T := fun k => match k with
  | 0 => ("WalkedRounds", "terms", "LWalkedRounds$Terms;", true)
  | 1 => ("WalkedRounds", "web", "LWalkedRounds$Web;", true)
  | 2 => ("WalkedRounds", "program", "LWalkedRounds$Program;", true)
  | 3 => ("WalkedRounds", "failure", "LWalkedRounds$Failure;", true)
  | 4 => ("WalkedRounds", "past", "LWalkedRounds$Past;", true)
  | 5 => ("WalkedRounds", "told", "LWalkedRounds$Told;", true)
  | 6 => ("WalkedRounds", "asker", "LWalkedRounds$Asker;", true)
  | 7 => ("WalkedRounds", "actor", "LWalkedRounds$Actor;", true)
  | 8 => ("WalkedRounds", "roundWalk", "LWalkedRounds$RoundWalk;", true)
  | 9 => ("WalkedRounds", "lineWalk", "LWalkedRounds$LineWalk;", true)
  | _ => ("WalkedRounds", "whyAsked", "I", false)
def tyX11 : Nat → FieldType := fun k => match k with
  | 0 => .object "WalkedRounds$Terms"
  | 1 => .object "WalkedRounds$Web"
  | 2 => .object "WalkedRounds$Program"
  | 3 => .object "WalkedRounds$Failure"
  | 4 => .object "WalkedRounds$Past"
  | 5 => .object "WalkedRounds$Told"
  | 6 => .object "WalkedRounds$Asker"
  | 7 => .object "WalkedRounds$Actor"
  | 8 => .object "WalkedRounds$RoundWalk"
  | 9 => .object "WalkedRounds$LineWalk"
  | _ => .int
theorem nmX11 : ∀ a, a < 11 → ∀ b, b < 11 → a ≠ b → (TX11 a).2.1 ≠ (TX11 b).2.1 := by decide +kernel
theorem tyX11_ok : ∀ k, k < 11 → parseFieldDescriptor (TX11 k).2.2.1 = some (tyX11 k) := by decide +kernel
abbrev cX11_init : ByteArray := prog_1_method_1_code
def yX11_init : MethodName := ⟨RX11, "<init>", "()V"⟩
abbrev cX11_term : ByteArray := prog_1_method_2_code
def yX11_term : MethodName := ⟨RX11, "term", "(IIIIJ)I"⟩
abbrev cX11_node : ByteArray := prog_1_method_3_code
def yX11_node : MethodName := ⟨RX11, "node", "()I"⟩
abbrev cX11_arc : ByteArray := prog_1_method_4_code
def yX11_arc : MethodName := ⟨RX11, "arc", "(IIJ)I"⟩
abbrev cX11_put : ByteArray := prog_1_method_5_code
def yX11_put : MethodName := ⟨RX11, "put", "(IIJ)I"⟩
abbrev cX11_wake : ByteArray := prog_1_method_6_code
def yX11_wake : MethodName := ⟨RX11, "wake", "(IZ)I"⟩
abbrev cX11_act : ByteArray := prog_1_method_7_code
def yX11_act : MethodName := ⟨RX11, "act", "(II)I"⟩
abbrev cX11_fold : ByteArray := prog_1_method_8_code
def yX11_fold : MethodName := ⟨RX11, "fold", "(I)I"⟩
abbrev cX11_run : ByteArray := prog_1_method_9_code
def yX11_run : MethodName := ⟨RX11, "run", "(II)I"⟩
abbrev cX11_undo : ByteArray := prog_1_method_10_code
def yX11_undo : MethodName := ⟨RX11, "undo", "()I"⟩
abbrev cX11_failed : ByteArray := prog_1_method_11_code
def yX11_failed : MethodName := ⟨RX11, "failed", "(I)I"⟩
abbrev cX11_ask : ByteArray := prog_1_method_12_code
def yX11_ask : MethodName := ⟨RX11, "ask", "(III)J"⟩
abbrev cX11_why : ByteArray := prog_1_method_13_code
def yX11_why : MethodName := ⟨RX11, "why", "()I"⟩
abbrev cX11_state : ByteArray := prog_1_method_14_code
def yX11_state : MethodName := ⟨RX11, "state", "(II)J"⟩
abbrev cX11_whole : ByteArray := prog_1_method_15_code
def yX11_whole : MethodName := ⟨RX11, "whole", "()J"⟩
abbrev cX11_awake : ByteArray := prog_1_method_16_code
def yX11_awake : MethodName := ⟨RX11, "awake", "(I)I"⟩
abbrev cX11_along : ByteArray := prog_1_method_17_code
def yX11_along : MethodName := ⟨RX11, "along", "(I)I"⟩
abbrev cX11_message : ByteArray := prog_1_method_18_code
def yX11_message : MethodName := ⟨RX11, "message", "(I)J"⟩
abbrev cX11_count : ByteArray := prog_1_method_19_code
def yX11_count : MethodName := ⟨RX11, "count", "(I)I"⟩
abbrev cX11_isState : ByteArray := prog_1_method_20_code
def yX11_isState : MethodName := ⟨RX11, "isState", "(J)Z"⟩
abbrev cX11_changed : ByteArray := prog_1_method_21_code
def yX11_changed : MethodName := ⟨RX11, "changed", "(I)I"⟩
def RX12 : String := "WalkedRoundsModel"
def TX12 : u_T := fun k => match k with
  | 0 => ("WalkedRoundsModel", "terms", "I", false)
  | 1 => ("WalkedRoundsModel", "kinds", "[I", true)
  | 2 => ("WalkedRoundsModel", "partA", "[I", true)
  | 3 => ("WalkedRoundsModel", "partB", "[I", true)
  | 4 => ("WalkedRoundsModel", "partC", "[I", true)
  | 5 => ("WalkedRoundsModel", "numbers", "[J", true)
  | 6 => ("WalkedRoundsModel", "nodes", "I", false)
  | 7 => ("WalkedRoundsModel", "states", "[J", true)
  | 8 => ("WalkedRoundsModel", "awake", "[Z", true)
  | 9 => ("WalkedRoundsModel", "arcs", "I", false)
  | 10 => ("WalkedRoundsModel", "from", "[I", true)
  | 11 => ("WalkedRoundsModel", "to", "[I", true)
  | 12 => ("WalkedRoundsModel", "weights", "[J", true)
  | 13 => ("WalkedRoundsModel", "acts", "[I", true)
  | 14 => ("WalkedRoundsModel", "fold", "I", false)
  | 15 => ("WalkedRoundsModel", "whole", "J", false)
  | 16 => ("WalkedRoundsModel", "rounds", "I", false)
  | 17 => ("WalkedRoundsModel", "steps", "I", false)
  | 18 => ("WalkedRoundsModel", "failed", "[I", true)
  | 19 => ("WalkedRoundsModel", "why", "I", false)
  | 20 => ("WalkedRoundsModel", "kept", "I", false)
  | 21 => ("WalkedRoundsModel", "oldStates", "[J", true)
  | 22 => ("WalkedRoundsModel", "oldAwake", "[Z", true)
  | 23 => ("WalkedRoundsModel", "oldWhole", "[J", true)
  | 24 => ("WalkedRoundsModel", "oldRounds", "[I", true)
  | 25 => ("WalkedRoundsModel", "told", "I", false)
  | 26 => ("WalkedRoundsModel", "toldArcs", "[I", true)
  | 27 => ("WalkedRoundsModel", "toldMessages", "[J", true)
  | 28 => ("WalkedRoundsModel", "top", "I", false)
  | 29 => ("WalkedRoundsModel", "pile", "[I", true)
  | 30 => ("WalkedRoundsModel", "stage", "[I", true)
  | 31 => ("WalkedRoundsModel", "first", "[J", true)
  | 32 => ("WalkedRoundsModel", "came", "J", false)
  | 33 => ("WalkedRoundsModel", "fails", "I", false)
  | 34 => ("WalkedRoundsModel", "spent", "I", false)
  | 35 => ("WalkedRoundsModel", "atNode", "I", false)
  | 36 => ("WalkedRoundsModel", "atArc", "I", false)
  | 37 => ("WalkedRoundsModel", "folded", "J", false)
  | 38 => ("WalkedRoundsModel", "many", "I", false)
  | 39 => ("WalkedRoundsModel", "goes", "[Z", true)
  | 40 => ("WalkedRoundsModel", "messages", "[J", true)
  | 41 => ("WalkedRoundsModel", "sent", "I", false)
  | 42 => ("WalkedRoundsModel", "sentArcs", "[I", true)
  | 43 => ("WalkedRoundsModel", "sends", "Z", false)
  | 44 => ("WalkedRoundsModel", "message", "J", false)
  | 45 => ("WalkedRoundsModel", "newStates", "[J", true)
  | 46 => ("WalkedRoundsModel", "newAwake", "[Z", true)
  | 47 => ("WalkedRoundsModel", "beforeStates", "[J", true)
  | 48 => ("WalkedRoundsModel", "beforeAwake", "[Z", true)
  | 49 => ("WalkedRoundsModel", "waiting", "I", false)
  | 50 => ("WalkedRoundsModel", "lineArcs", "[I", true)
  | 51 => ("WalkedRoundsModel", "line", "[J", true)
  | _ => ("WalkedRoundsModel", "takenStates", "[J", true)
def tyX12 : Nat → FieldType := fun k => match k with
  | 0 => .int
  | 1 => .array .int
  | 2 => .array .int
  | 3 => .array .int
  | 4 => .array .int
  | 5 => .array .long
  | 6 => .int
  | 7 => .array .long
  | 8 => .array .boolean
  | 9 => .int
  | 10 => .array .int
  | 11 => .array .int
  | 12 => .array .long
  | 13 => .array .int
  | 14 => .int
  | 15 => .long
  | 16 => .int
  | 17 => .int
  | 18 => .array .int
  | 19 => .int
  | 20 => .int
  | 21 => .array .long
  | 22 => .array .boolean
  | 23 => .array .long
  | 24 => .array .int
  | 25 => .int
  | 26 => .array .int
  | 27 => .array .long
  | 28 => .int
  | 29 => .array .int
  | 30 => .array .int
  | 31 => .array .long
  | 32 => .long
  | 33 => .int
  | 34 => .int
  | 35 => .int
  | 36 => .int
  | 37 => .long
  | 38 => .int
  | 39 => .array .boolean
  | 40 => .array .long
  | 41 => .int
  | 42 => .array .int
  | 43 => .boolean
  | 44 => .long
  | 45 => .array .long
  | 46 => .array .boolean
  | 47 => .array .long
  | 48 => .array .boolean
  | 49 => .int
  | 50 => .array .int
  | 51 => .array .long
  | _ => .array .long
theorem nmX12 : ∀ a, a < 53 → ∀ b, b < 53 → a ≠ b → (TX12 a).2.1 ≠ (TX12 b).2.1 := by decide +kernel
theorem tyX12_ok : ∀ k, k < 53 → parseFieldDescriptor (TX12 k).2.2.1 = some (tyX12 k) := by decide +kernel
abbrev cX12_init : ByteArray := prog_14_method_1_code
def yX12_init : MethodName := ⟨RX12, "<init>", "()V"⟩
abbrev cX12_in : ByteArray := prog_14_method_3_code
def yX12_in : MethodName := ⟨RX12, "in", "(III)Z"⟩
abbrev cX12_isTerm : ByteArray := prog_14_method_4_code
def yX12_isTerm : MethodName := ⟨RX12, "isTerm", "(I)Z"⟩
abbrev cX12_isNode : ByteArray := prog_14_method_5_code
def yX12_isNode : MethodName := ⟨RX12, "isNode", "(I)Z"⟩
abbrev cX12_isArc : ByteArray := prog_14_method_6_code
def yX12_isArc : MethodName := ⟨RX12, "isArc", "(I)Z"⟩
abbrev cX12_term : ByteArray := prog_14_method_7_code
def yX12_term : MethodName := ⟨RX12, "term", "(IIIIJ)I"⟩
abbrev cX12_node : ByteArray := prog_14_method_8_code
def yX12_node : MethodName := ⟨RX12, "node", "()I"⟩
abbrev cX12_arc : ByteArray := prog_14_method_9_code
def yX12_arc : MethodName := ⟨RX12, "arc", "(IIJ)I"⟩
abbrev cX12_put : ByteArray := prog_14_method_10_code
def yX12_put : MethodName := ⟨RX12, "put", "(IIJ)I"⟩
abbrev cX12_wake : ByteArray := prog_14_method_11_code
def yX12_wake : MethodName := ⟨RX12, "wake", "(IZ)I"⟩
abbrev cX12_act : ByteArray := prog_14_method_12_code
def yX12_act : MethodName := ⟨RX12, "act", "(II)I"⟩
abbrev cX12_fold : ByteArray := prog_14_method_13_code
def yX12_fold : MethodName := ⟨RX12, "fold", "(I)I"⟩
abbrev cX12_push : ByteArray := prog_14_method_14_code
def yX12_push : MethodName := ⟨RX12, "push", "(I)V"⟩
abbrev cX12_asked : ByteArray := prog_14_method_15_code
def yX12_asked : MethodName := ⟨RX12, "asked", "(III)I"⟩
abbrev cX12_arcsFrom : ByteArray := prog_14_method_16_code
def yX12_arcsFrom : MethodName := ⟨RX12, "arcsFrom", "(I)I"⟩
abbrev cX12_begins : ByteArray := prog_14_method_17_code
def yX12_begins : MethodName := ⟨RX12, "begins", "(I)Z"⟩
abbrev cX12_goesOn : ByteArray := prog_14_method_18_code
def yX12_goesOn : MethodName := ⟨RX12, "goesOn", "(I)Z"⟩
abbrev cX12_joined : ByteArray := prog_14_method_19_code
def yX12_joined : MethodName := ⟨RX12, "joined", "(IJJ)J"⟩
abbrev cX12_clearFailed : ByteArray := prog_14_method_20_code
def yX12_clearFailed : MethodName := ⟨RX12, "clearFailed", "()V"⟩
abbrev cX12_note : ByteArray := prog_14_method_21_code
def yX12_note : MethodName := ⟨RX12, "note", "(IIII)V"⟩
abbrev cX12_does : ByteArray := prog_14_method_22_code
def yX12_does : MethodName := ⟨RX12, "does", "(III)Z"⟩
abbrev cX12_isFailed : ByteArray := prog_14_method_23_code
def yX12_isFailed : MethodName := ⟨RX12, "isFailed", "()Z"⟩
abbrev cX12_askArc : ByteArray := prog_14_method_24_code
def yX12_askArc : MethodName := ⟨RX12, "askArc", "(I)V"⟩
abbrev cX12_sendAlong : ByteArray := prog_14_method_25_code
def yX12_sendAlong : MethodName := ⟨RX12, "sendAlong", "(I)V"⟩
abbrev cX12_sendAll : ByteArray := prog_14_method_26_code
def yX12_sendAll : MethodName := ⟨RX12, "sendAll", "(I)V"⟩
abbrev cX12_isOver : ByteArray := prog_14_method_27_code
def yX12_isOver : MethodName := ⟨RX12, "isOver", "(JJ)Z"⟩
abbrev cX12_foldFor : ByteArray := prog_14_method_28_code
def yX12_foldFor : MethodName := ⟨RX12, "foldFor", "(I)V"⟩
abbrev cX12_isReached : ByteArray := prog_14_method_29_code
def yX12_isReached : MethodName := ⟨RX12, "isReached", "(I)Z"⟩
abbrev cX12_renew : ByteArray := prog_14_method_30_code
def yX12_renew : MethodName := ⟨RX12, "renew", "(I)V"⟩
abbrev cX12_remember : ByteArray := prog_14_method_31_code
def yX12_remember : MethodName := ⟨RX12, "remember", "()V"⟩
abbrev cX12_keep : ByteArray := prog_14_method_32_code
def yX12_keep : MethodName := ⟨RX12, "keep", "(JI)V"⟩
abbrev cX12_asBefore : ByteArray := prog_14_method_33_code
def yX12_asBefore : MethodName := ⟨RX12, "asBefore", "()V"⟩
abbrev cX12_isAnyAwake : ByteArray := prog_14_method_34_code
def yX12_isAnyAwake : MethodName := ⟨RX12, "isAnyAwake", "()Z"⟩
abbrev cX12_round : ByteArray := prog_14_method_35_code
def yX12_round : MethodName := ⟨RX12, "round", "(I)Z"⟩
abbrev cX12_sendsOn : ByteArray := prog_14_method_36_code
def yX12_sendsOn : MethodName := ⟨RX12, "sendsOn", "(I)V"⟩
abbrev cX12_takes : ByteArray := prog_14_method_37_code
def yX12_takes : MethodName := ⟨RX12, "takes", "(I)Z"⟩
abbrev cX12_walk : ByteArray := prog_14_method_38_code
def yX12_walk : MethodName := ⟨RX12, "walk", "(I)I"⟩
abbrev cX12_run : ByteArray := prog_14_method_39_code
def yX12_run : MethodName := ⟨RX12, "run", "(II)I"⟩
abbrev cX12_undo : ByteArray := prog_14_method_40_code
def yX12_undo : MethodName := ⟨RX12, "undo", "()I"⟩
abbrev cX12_failed : ByteArray := prog_14_method_41_code
def yX12_failed : MethodName := ⟨RX12, "failed", "(I)I"⟩
abbrev cX12_ask : ByteArray := prog_14_method_42_code
def yX12_ask : MethodName := ⟨RX12, "ask", "(III)J"⟩
abbrev cX12_why : ByteArray := prog_14_method_43_code
def yX12_why : MethodName := ⟨RX12, "why", "()I"⟩
abbrev cX12_state : ByteArray := prog_14_method_44_code
def yX12_state : MethodName := ⟨RX12, "state", "(II)J"⟩
abbrev cX12_whole : ByteArray := prog_14_method_45_code
def yX12_whole : MethodName := ⟨RX12, "whole", "()J"⟩
abbrev cX12_awake : ByteArray := prog_14_method_46_code
def yX12_awake : MethodName := ⟨RX12, "awake", "(I)I"⟩
abbrev cX12_along : ByteArray := prog_14_method_47_code
def yX12_along : MethodName := ⟨RX12, "along", "(I)I"⟩
abbrev cX12_message : ByteArray := prog_14_method_48_code
def yX12_message : MethodName := ⟨RX12, "message", "(I)J"⟩
abbrev cX12_count : ByteArray := prog_14_method_49_code
def yX12_count : MethodName := ⟨RX12, "count", "(I)I"⟩
def RL : String := "WalkedRoundsLaw"
abbrev cL_law : ByteArray := code
def yL_law : MethodName := ⟨RL, "law", "([I)Z"⟩
abbrev vwCl : List vw_C := [(RX0, TX0, 4), (RX1, TX1, 7), (RX2, TX2, 5), (RX3, TX3, 11), (RX4, TX4, 4), (RX5, TX5, 3), (RX6, TX6, 2), (RX7, TX7, 12), (RX8, TX8, 6), (RX9, TX9, 3), (RX10, TX10, 10), (RX11, TX11, 11), (RX12, TX12, 53)]
end
section
/-! registers: what the cells of a system hold: int fields, long fields, int (and boolean) arrays, long arrays -/
abbrev RS : Type := (Nat → Int32) × (Nat → Int64) × (Nat → Nat → Int32) × (Nat → Nat → Int64)
def rg_I (σ : RS) (k : Nat) : Int32 := σ.1 k
def rg_L (σ : RS) (k : Nat) : Int64 := σ.2.1 k
def rg_A (σ : RS) (k : Nat) : Nat → Int32 := σ.2.2.1 k
def rg_B (σ : RS) (k : Nat) : Nat → Int64 := σ.2.2.2 k
def rs_I (σ : RS) (k : Nat) (v : Int32) : RS := (va_up σ.1 k v, σ.2.1, σ.2.2.1, σ.2.2.2)
def rs_L (σ : RS) (k : Nat) (v : Int64) : RS := (σ.1, va_up σ.2.1 k v, σ.2.2.1, σ.2.2.2)
def rs_A (σ : RS) (k : Nat) (v : Nat → Int32) : RS := (σ.1, σ.2.1, va_up σ.2.2.1 k v, σ.2.2.2)
def rs_B (σ : RS) (k : Nat) (v : Nat → Int64) : RS := (σ.1, σ.2.1, σ.2.2.1, va_up σ.2.2.2 k v)
/-! the words of the functions that a method comes to -/
def kn_v {α β : Type} (a : α) (k : α → Option β) : Option β := k a
def kn_ld {α β : Type} (f : Nat → α) (n : Nat) (i : Int32) (k : α → Option β) : Option β := if i < 0 ∨ n ≤ i.toNatClampNeg then none else k (f i.toNatClampNeg)
def kn_st {β : Type} (σ : RS) (n : Nat) (i : Int32) (k : RS → Option β) : Option β := if i < 0 ∨ n ≤ i.toNatClampNeg then none else k σ
def kn_i {β : Type} (o : Option (Int32 × RS)) (k : Int32 → RS → Option β) : Option β := o.bind (fun q => k q.1 q.2)
def kn_l {β : Type} (o : Option (Int64 × RS)) (k : Int64 → RS → Option β) : Option β := o.bind (fun q => k q.1 q.2)
def kn_u {β : Type} (o : Option RS) (k : RS → Option β) : Option β := o.bind k
def kn_nz32 {β : Type} (y : Int32) (k : Option β) : Option β := if y = 0 then none else k
def kn_nz64 {β : Type} (y : Int64) (k : Option β) : Option β := if y = 0 then none else k
def kn_cp {β : Type} (n0 n1 : Nat) (sp dp n : Int32) (σ : RS) (k : RS → Option β) : Option β := if sp < 0 ∨ dp < 0 ∨ n < 0 ∨ n0 < sp.toNatClampNeg + n.toNatClampNeg ∨ n1 < dp.toNatClampNeg + n.toNatClampNeg then none else k σ
def kn_bz (f : Nat → Int32) (sp n : Nat) : Bool := (List.range n).all (fun i => fits .boolean (.int (f (sp + i))))
def kn_cz {β : Type} (f : Nat → Int32) (n0 n1 : Nat) (sp dp n : Int32) (σ : RS) (k : RS → Option β) : Option β := if kn_bz f sp.toNatClampNeg n.toNatClampNeg = true then kn_cp n0 n1 sp dp n σ k else none
theorem kn_ld_e {α β : Type} {f : Nat → α} {n : Nat} {i : Int32} {k : α → Option β} {r : β} (h : kn_ld f n i k = some r) : vp_in i n ∧ k (f i.toNatClampNeg) = some r := by
  unfold kn_ld at h
  by_cases c : i < 0 ∨ n ≤ i.toNatClampNeg
  · rw [if_pos c] at h; cases h
  · rw [if_neg c] at h; exact ⟨c, h⟩
theorem kn_st_e {β : Type} {σ : RS} {n : Nat} {i : Int32} {k : RS → Option β} {r : β} (h : kn_st σ n i k = some r) : vp_in i n ∧ k σ = some r := by
  unfold kn_st at h
  by_cases c : i < 0 ∨ n ≤ i.toNatClampNeg
  · rw [if_pos c] at h; cases h
  · rw [if_neg c] at h; exact ⟨c, h⟩
theorem kn_i_e {β : Type} {o : Option (Int32 × RS)} {k : Int32 → RS → Option β} {r : β} (h : kn_i o k = some r) : ∃ v σ, o = some (v, σ) ∧ k v σ = some r := by
  unfold kn_i at h
  cases o with
  | none => cases h
  | some q => exact ⟨q.1, q.2, rfl, h⟩
theorem kn_l_e {β : Type} {o : Option (Int64 × RS)} {k : Int64 → RS → Option β} {r : β} (h : kn_l o k = some r) : ∃ v σ, o = some (v, σ) ∧ k v σ = some r := by
  unfold kn_l at h
  cases o with
  | none => cases h
  | some q => exact ⟨q.1, q.2, rfl, h⟩
theorem kn_u_e {β : Type} {o : Option RS} {k : RS → Option β} {r : β} (h : kn_u o k = some r) : ∃ σ, o = some σ ∧ k σ = some r := by
  unfold kn_u at h
  cases o with
  | none => cases h
  | some q => exact ⟨q, rfl, h⟩
theorem kn_nz32_e {β : Type} {y : Int32} {k : Option β} {r : β} (h : kn_nz32 y k = some r) : ¬ y = 0 ∧ k = some r := by
  unfold kn_nz32 at h
  by_cases c : y = 0
  · rw [if_pos c] at h; cases h
  · rw [if_neg c] at h; exact ⟨c, h⟩
theorem kn_nz64_e {β : Type} {y : Int64} {k : Option β} {r : β} (h : kn_nz64 y k = some r) : ¬ y = 0 ∧ k = some r := by
  unfold kn_nz64 at h
  by_cases c : y = 0
  · rw [if_pos c] at h; cases h
  · rw [if_neg c] at h; exact ⟨c, h⟩
theorem kn_cp_e {β : Type} {n0 n1 : Nat} {sp dp n : Int32} {σ : RS} {k : RS → Option β} {r : β} (h : kn_cp n0 n1 sp dp n σ k = some r) : (¬ sp < 0 ∧ ¬ dp < 0 ∧ ¬ n < 0 ∧ sp.toNatClampNeg + n.toNatClampNeg ≤ n0 ∧ dp.toNatClampNeg + n.toNatClampNeg ≤ n1) ∧ k σ = some r := by
  unfold kn_cp at h
  by_cases c : sp < 0 ∨ dp < 0 ∨ n < 0 ∨ n0 < sp.toNatClampNeg + n.toNatClampNeg ∨ n1 < dp.toNatClampNeg + n.toNatClampNeg
  · rw [if_pos c] at h; cases h
  · rw [if_neg c] at h
    simp only [not_or, Nat.not_lt] at c
    exact ⟨c, h⟩
theorem kn_cz_e {β : Type} {f : Nat → Int32} {n0 n1 : Nat} {sp dp n : Int32} {σ : RS} {k : RS → Option β} {r : β} (h : kn_cz f n0 n1 sp dp n σ k = some r) : (∀ i, i < n.toNatClampNeg → fits .boolean (.int (f (sp.toNatClampNeg + i))) = true) ∧ (¬ sp < 0 ∧ ¬ dp < 0 ∧ ¬ n < 0 ∧ sp.toNatClampNeg + n.toNatClampNeg ≤ n0 ∧ dp.toNatClampNeg + n.toNatClampNeg ≤ n1) ∧ k σ = some r := by
  unfold kn_cz at h
  by_cases c : kn_bz f sp.toNatClampNeg n.toNatClampNeg = true
  · rw [if_pos c] at h
    refine ⟨fun i hi => ?_, kn_cp_e h⟩
    exact List.all_eq_true.mp c i (List.mem_range.mpr hi)
  · rw [if_neg c] at h; cases h
theorem kn_t {β : Type} {c : Prop} {d : Decidable c} {X Y : Option β} {r : β} (h : (@ite _ c d X Y) = some r) (hc : c) : X = some r := by rw [if_pos hc] at h; exact h
theorem kn_f {β : Type} {c : Prop} {d : Decidable c} {X Y : Option β} {r : β} (h : (@ite _ c d X Y) = some r) (hc : ¬ c) : Y = some r := by rw [if_neg hc] at h; exact h
/-! a world that the registers fill, at addresses ad 0 .. ad (N - 1) -/
def jw_A (N : Nat) (ad : Nat → Nat) : Nat → Prop := fun q => ∃ k, k < N ∧ q = ad k
def jw_ap (N : Nat) (ad : Nat → Nat) : Prop := ∀ i j, i < N → j < N → ad i = ad j → i = j
theorem jw_D {N : Nat} {ad : Nat → Nat} {ws : va_W} (hap : jw_ap N ad) (hw : ws.map (·.1) = (List.range N).map ad) : va_D (jw_A N ad) ws := by
  have hlen : ws.length = N := by
    have h := congrArg List.length hw
    simpa using h
  have key : ∀ (k : Nat) (q : Nat × va_E), ws[k]? = some q → k < N ∧ q.1 = ad k := by
    intro k q hk
    have hkN : k < N := by rw [← hlen]; exact (List.getElem?_eq_some_iff.mp hk).1
    refine ⟨hkN, ?_⟩
    have h1 : (ws.map (·.1))[k]? = some q.1 := by rw [List.getElem?_map, hk]; rfl
    rw [hw, List.getElem?_map, List.getElem?_range hkN] at h1
    exact (Option.some.inj h1).symm
  refine ⟨fun i j p q hi hj e => ?_, fun k q hk => ?_⟩
  · obtain ⟨a1, b1⟩ := key i p hi
    obtain ⟨a2, b2⟩ := key j q hj
    exact hap i j a1 a2 (by rw [← b1, ← b2]; exact e)
  · obtain ⟨a1, b1⟩ := key k q hk
    exact ⟨k, a1, b1⟩
def jw_nest : Cond → Bool
  | .fieldLinkNest .. => true
  | .methodLinkNest .. => true
  | _ => false
theorem jw_nest_warm {w : Cond} (h : jw_nest w = true) {s U : State} (hW : s.WarmedH U.vm) (hZ : va_Nw w s) : va_Nw w U := by
  cases w with
  | fieldLinkNest a i b n d k => exact va_Nw.warmF hW hZ
  | methodLinkNest a i x k => exact va_Nw.warmM hW hZ
  | _ => cases h
theorem jw_nest_same {w : Cond} (h : jw_nest w = true) {u U : State} (e : u.vm = U.vm) (hZ : va_Nw w u) : va_Nw w U := by
  cases w with
  | fieldLinkNest a i b n d k => exact va_Nw.same rfl e hZ
  | methodLinkNest a i x k => exact va_Nw.same rfl e hZ
  | _ => cases h
/-- the state of a system: its cells, its classes, its nest's words -/
def jw_at (D : va_G) (cl : List vw_C) (tys : List (ClassId × FieldType)) (NW : List Cond) (w : RS → va_W) (σ : RS) (U : State) : Prop := va_P D cl (w σ) U.heap ∧ va_K D cl tys U ∧ ∀ x ∈ NW, va_Nw x U
theorem jw_at_calling {D : va_G} {cl : List vw_C} {tys : List (ClassId × FieldType)} {NW : List Cond} {w : RS → va_W} {σ : RS} (hNW : ∀ x ∈ NW, jw_nest x = true) {U : State} (g : JFrame) (mk : MethodId) (a : Array Value) (h : jw_at D cl tys NW w σ U) : jw_at D cl tys NW w σ (U.calling g mk a) := by
  obtain ⟨h1, h2, h3⟩ := h
  exact ⟨h1, va_K.moved (u := U) (U := U.calling g mk a) (Vm.Alike.refl U.vm) h2, fun x hx => jw_nest_same (u := U) (U := U.calling g mk a) (hNW x hx) rfl (h3 x hx)⟩
theorem jw_at_of {D : va_G} {cl : List vw_C} {tys : List (ClassId × FieldType)} {NW : List Cond} {w : RS → va_W} {σ : RS} (hNW : ∀ x ∈ NW, jw_nest x = true) {s U : State} {H : Heap} (hP : va_P D cl (w σ) H) (hK : va_K D cl tys s) (hN : ∀ x ∈ NW, va_Nw x s) (hU : U.heap = H) (hW : s.WarmedH U.vm) : jw_at D cl tys NW w σ U :=
  ⟨by rw [hU]; exact hP, va_K.moved hW.alike hK, fun x hx => jw_nest_warm (hNW x hx) hW (hN x hx)⟩
/-- contracts: the method returns what the function came to -/
def jm_i (l : Launch) (KW NW : List Cond) (D : va_G) (cl : List vw_C) (tys : List (ClassId × FieldType)) (A : Nat → Prop) (w : RS → va_W) (y : MethodName) (b : ByteArray) (nL : Nat) (ty : FieldType) (rm : Room) (av : List Value) (σ : RS) (res : Int32 × RS) : Prop :=
  Met l y (.code y b nL (some ty) :: KW) rm (va_Pc av (jw_at D cl tys NW w σ)) (va_Qi (fun r u => (r, u) = res) (fun u t => va_P D cl (w u) t.heap) A) 0 0 A
def jm_l (l : Launch) (KW NW : List Cond) (D : va_G) (cl : List vw_C) (tys : List (ClassId × FieldType)) (A : Nat → Prop) (w : RS → va_W) (y : MethodName) (b : ByteArray) (nL : Nat) (rm : Room) (av : List Value) (σ : RS) (res : Int64 × RS) : Prop :=
  Met l y (.code y b nL (some .long) :: KW) rm (va_Pc av (jw_at D cl tys NW w σ)) (va_Ql (fun r u => (r, u) = res) (fun u t => va_P D cl (w u) t.heap) A) 0 0 A
def jm_u (l : Launch) (KW NW : List Cond) (D : va_G) (cl : List vw_C) (tys : List (ClassId × FieldType)) (A : Nat → Prop) (w : RS → va_W) (y : MethodName) (b : ByteArray) (nL : Nat) (rm : Room) (av : List Value) (σ : RS) (res : RS) : Prop :=
  Met l y (.code y b nL none :: KW) rm (va_Pc av (jw_at D cl tys NW w σ)) (va_Qv (fun u => u = res) (fun u t => va_P D cl (w u) t.heap) A) 0 0 A
/-- what a walk of a method's body stands on -/
def jx (KW NW : List Cond) (D : va_G) (cl : List vw_C) (tys : List (ClassId × FieldType)) (cc : ByteArray) (ret : Option FieldType) (nL : Nat) (own : String) (p : Program) (s : State) (m : MethodId) (args : Array Value) (meth : Method) (c : Code) : Prop :=
  p.tables.exec = Jvm.exec ∧ c.code = cc ∧ c.maxLocals = nL ∧ s.vm.findClass own = some m.cls ∧ (∀ w ∈ KW, w.before args s = true) ∧ meth.sig.returnType = ret ∧ meth.locks = false ∧ va_K D cl tys s ∧ (∀ x ∈ NW, va_Nw x s)
section JM
variable {l : Launch} {KW NW : List Cond} {D : va_G} {cl : List vw_C} {tys : List (ClassId × FieldType)} {A : Nat → Prop} {w : RS → va_W} {y : MethodName} {b : ByteArray} {nL : Nat} {rm : Room} {av : List Value} {σ : RS}
theorem jm_i_of {ty : FieldType} {res : Int32 × RS} (hy : plainName y.cls = true) (hn : (lg_sl av).length ≤ nL)
    (body : ∀ (p : Program) (e : Env) (s : State) (m : MethodId) (below : List Frame) (meth : Method) (c : Code), jx KW NW D cl tys b (some ty) nL y.cls p s m av.toArray meth c → va_P D cl (w σ) s.heap → va_S A s.heap s.heap [] → ∀ ls : Array Slot, lv_has ls nL (lv_args 0 av) →
      W p l e rm s m av.toArray below meth c s.heap [] 0 0 (MQ below (va_Qi (fun r u => (r, u) = res) (fun u t => va_P D cl (w u) t.heap) A) av.toArray s 0 0 A) (F0 m 0 ls [])) : jm_i l KW NW D cl tys A w y b nL ty rm av σ res := by
  refine Met.ofW (cc := b) (maxL := nL) (ret := some ty) hy rfl ?_
  intro p e s m args below meth c s₁ B hml hv
  obtain ⟨rfl, hP, hK, hN⟩ := hv
  have hts := atoms_spec (ws := .code y b nL (some ty) :: KW) B.pre
  have hl := lv_entry av (n := nL) hn
  rw [lg_entry_eq]
  exact body p e s m below meth c ⟨B.exec, B.bytes, hml, findClass_of_methodNamed B.named, fun w h => hts w (List.mem_cons_of_mem _ h), B.returns, B.notSynchronized, hK, hN⟩ hP va_S.rf _ hl
theorem jm_l_of {res : Int64 × RS} (hy : plainName y.cls = true) (hn : (lg_sl av).length ≤ nL)
    (body : ∀ (p : Program) (e : Env) (s : State) (m : MethodId) (below : List Frame) (meth : Method) (c : Code), jx KW NW D cl tys b (some .long) nL y.cls p s m av.toArray meth c → va_P D cl (w σ) s.heap → va_S A s.heap s.heap [] → ∀ ls : Array Slot, lv_has ls nL (lv_args 0 av) →
      W p l e rm s m av.toArray below meth c s.heap [] 0 0 (MQ below (va_Ql (fun r u => (r, u) = res) (fun u t => va_P D cl (w u) t.heap) A) av.toArray s 0 0 A) (F0 m 0 ls [])) : jm_l l KW NW D cl tys A w y b nL rm av σ res := by
  refine Met.ofW (cc := b) (maxL := nL) (ret := some .long) hy rfl ?_
  intro p e s m args below meth c s₁ B hml hv
  obtain ⟨rfl, hP, hK, hN⟩ := hv
  have hts := atoms_spec (ws := .code y b nL (some .long) :: KW) B.pre
  have hl := lv_entry av (n := nL) hn
  rw [lg_entry_eq]
  exact body p e s m below meth c ⟨B.exec, B.bytes, hml, findClass_of_methodNamed B.named, fun w h => hts w (List.mem_cons_of_mem _ h), B.returns, B.notSynchronized, hK, hN⟩ hP va_S.rf _ hl
theorem jm_u_of {res : RS} (hy : plainName y.cls = true) (hn : (lg_sl av).length ≤ nL)
    (body : ∀ (p : Program) (e : Env) (s : State) (m : MethodId) (below : List Frame) (meth : Method) (c : Code), jx KW NW D cl tys b none nL y.cls p s m av.toArray meth c → va_P D cl (w σ) s.heap → va_S A s.heap s.heap [] → ∀ ls : Array Slot, lv_has ls nL (lv_args 0 av) →
      W p l e rm s m av.toArray below meth c s.heap [] 0 0 (MQ below (va_Qv (fun u => u = res) (fun u t => va_P D cl (w u) t.heap) A) av.toArray s 0 0 A) (F0 m 0 ls [])) : jm_u l KW NW D cl tys A w y b nL rm av σ res := by
  refine Met.ofW (cc := b) (maxL := nL) (ret := none) hy rfl ?_
  intro p e s m args below meth c s₁ B hml hv
  obtain ⟨rfl, hP, hK, hN⟩ := hv
  have hts := atoms_spec (ws := .code y b nL none :: KW) B.pre
  have hl := lv_entry av (n := nL) hn
  rw [lg_entry_eq]
  exact body p e s m below meth c ⟨B.exec, B.bytes, hml, findClass_of_methodNamed B.named, fun w h => hts w (List.mem_cons_of_mem _ h), B.returns, B.notSynchronized, hK, hN⟩ hP va_S.rf _ hl
end JM
theorem kn_v_e {α β : Type} {a : α} {F : α → Option β} {r : β} (h : kn_v a F = some r) : ∃ v, a = v ∧ F v = some r := ⟨a, rfl, h⟩
def kn_fix {α : Type} (z : α) (F : α → α) : Nat → α
  | 0 => z
  | n + 1 => F (kn_fix z F n)
theorem kn_fix_ind {α : Type} {G : α → Prop} {z : α} {F : α → α} (h0 : G z) (hs : ∀ k, G k → G (F k)) : ∀ n, G (kn_fix z F n)
  | 0 => h0
  | n + 1 => hs _ (kn_fix_ind h0 hs n)
/-- how often a loop goes round at the most (no loop of these two programs goes round more than 200 times) -/
def FU : Nat := 300
section JR
variable {p : Program} {l : Launch} {e : Env} {R : Room} {s : State} {m : MethodId} {args : Array Value} {below : List Frame} {meth : Method} {c : Code} {H : Heap} {locs : List Loc} {cells slots : Nat} {Q : State → Prop}
variable {cc : ByteArray} {pc : Nat} {ls : Array Slot} {rest : List Value} {β : Type} {r : β} {X Y : Option β}

theorem jn_i {x : Int32} {F : Int32 → Option β} (hf : kn_v x F = some r) (kk : ∀ v : Int32, F v = some r → W p l e R s m args below meth c H locs cells slots Q (F0 m pc ls (.int v :: rest))) : W p l e R s m args below meth c H locs cells slots Q (F0 m pc ls (.int x :: rest)) := kk x hf
theorem jn_l {x : Int64} {F : Int64 → Option β} (hf : kn_v x F = some r) (kk : ∀ v : Int64, F v = some r → W p l e R s m args below meth c H locs cells slots Q (F0 m pc ls (.long v :: rest))) : W p l e R s m args below meth c H locs cells slots Q (F0 m pc ls (.long x :: rest)) := kk x hf
theorem jb_eq (hx : p.tables.exec = Jvm.exec) (hb : c.code = cc) {x : Int32} {off : Int} {tgt : Nat} (hf : (if x = 0 then X else Y) = some r) (hdg : decode cc pc = .ok (.ifCond .eq off, 3)) (ht : (pc : Int) + off = (tgt : Int)) (kt : X = some r → W p l e R s m args below meth c H locs cells slots Q (F0 m tgt ls rest)) (kf : Y = some r → W p l e R s m args below meth c H locs cells slots Q (F0 m (pc + 3) ls rest)) : W p l e R s m args below meth c H locs cells slots Q (F0 m pc ls (.int x :: rest)) := lv_if_eq hx hb hdg ht (fun h => kt (kn_t hf h)) (fun h => kf (kn_f hf h))
theorem jb_ne (hx : p.tables.exec = Jvm.exec) (hb : c.code = cc) {x : Int32} {off : Int} {tgt : Nat} (hf : (if x = 0 then X else Y) = some r) (hdg : decode cc pc = .ok (.ifCond .ne off, 3)) (ht : (pc : Int) + off = (tgt : Int)) (kt : Y = some r → W p l e R s m args below meth c H locs cells slots Q (F0 m tgt ls rest)) (kf : X = some r → W p l e R s m args below meth c H locs cells slots Q (F0 m (pc + 3) ls rest)) : W p l e R s m args below meth c H locs cells slots Q (F0 m pc ls (.int x :: rest)) := lv_if_ne hx hb hdg ht (fun h => kt (kn_f hf h)) (fun h => kf (kn_t hf h))
theorem jb_lt (hx : p.tables.exec = Jvm.exec) (hb : c.code = cc) {x : Int32} {off : Int} {tgt : Nat} (hf : (if x < 0 then X else Y) = some r) (hdg : decode cc pc = .ok (.ifCond .lt off, 3)) (ht : (pc : Int) + off = (tgt : Int)) (kt : X = some r → W p l e R s m args below meth c H locs cells slots Q (F0 m tgt ls rest)) (kf : Y = some r → W p l e R s m args below meth c H locs cells slots Q (F0 m (pc + 3) ls rest)) : W p l e R s m args below meth c H locs cells slots Q (F0 m pc ls (.int x :: rest)) := lv_if_lt hx hb hdg ht (fun h => kt (kn_t hf h)) (fun h => kf (kn_f hf h))
theorem jb_ge (hx : p.tables.exec = Jvm.exec) (hb : c.code = cc) {x : Int32} {off : Int} {tgt : Nat} (hf : (if 0 ≤ x then X else Y) = some r) (hdg : decode cc pc = .ok (.ifCond .ge off, 3)) (ht : (pc : Int) + off = (tgt : Int)) (kt : X = some r → W p l e R s m args below meth c H locs cells slots Q (F0 m tgt ls rest)) (kf : Y = some r → W p l e R s m args below meth c H locs cells slots Q (F0 m (pc + 3) ls rest)) : W p l e R s m args below meth c H locs cells slots Q (F0 m pc ls (.int x :: rest)) := lv_if_ge hx hb hdg ht (fun h => kt (kn_t hf h)) (fun h => kf (kn_f hf h))
theorem jb_gt (hx : p.tables.exec = Jvm.exec) (hb : c.code = cc) {x : Int32} {off : Int} {tgt : Nat} (hf : (if 0 < x then X else Y) = some r) (hdg : decode cc pc = .ok (.ifCond .gt off, 3)) (ht : (pc : Int) + off = (tgt : Int)) (kt : X = some r → W p l e R s m args below meth c H locs cells slots Q (F0 m tgt ls rest)) (kf : Y = some r → W p l e R s m args below meth c H locs cells slots Q (F0 m (pc + 3) ls rest)) : W p l e R s m args below meth c H locs cells slots Q (F0 m pc ls (.int x :: rest)) := lv_if_gt hx hb hdg ht (fun h => kt (kn_t hf h)) (fun h => kf (kn_f hf h))
theorem jb_le (hx : p.tables.exec = Jvm.exec) (hb : c.code = cc) {x : Int32} {off : Int} {tgt : Nat} (hf : (if x ≤ 0 then X else Y) = some r) (hdg : decode cc pc = .ok (.ifCond .le off, 3)) (ht : (pc : Int) + off = (tgt : Int)) (kt : X = some r → W p l e R s m args below meth c H locs cells slots Q (F0 m tgt ls rest)) (kf : Y = some r → W p l e R s m args below meth c H locs cells slots Q (F0 m (pc + 3) ls rest)) : W p l e R s m args below meth c H locs cells slots Q (F0 m pc ls (.int x :: rest)) := lv_if_le hx hb hdg ht (fun h => kt (kn_t hf h)) (fun h => kf (kn_f hf h))
theorem jc_eq (hx : p.tables.exec = Jvm.exec) (hb : c.code = cc) {x y : Int32} {off : Int} {tgt : Nat} (hf : (if x = y then X else Y) = some r) (hdg : decode cc pc = .ok (.if_icmp .eq off, 3)) (ht : (pc : Int) + off = (tgt : Int)) (kt : X = some r → W p l e R s m args below meth c H locs cells slots Q (F0 m tgt ls rest)) (kf : Y = some r → W p l e R s m args below meth c H locs cells slots Q (F0 m (pc + 3) ls rest)) : W p l e R s m args below meth c H locs cells slots Q (F0 m pc ls (.int y :: .int x :: rest)) := lv_icmp_eq hx hb hdg ht (fun h => kt (kn_t hf h)) (fun h => kf (kn_f hf h))
theorem jc_ne (hx : p.tables.exec = Jvm.exec) (hb : c.code = cc) {x y : Int32} {off : Int} {tgt : Nat} (hf : (if x = y then X else Y) = some r) (hdg : decode cc pc = .ok (.if_icmp .ne off, 3)) (ht : (pc : Int) + off = (tgt : Int)) (kt : Y = some r → W p l e R s m args below meth c H locs cells slots Q (F0 m tgt ls rest)) (kf : X = some r → W p l e R s m args below meth c H locs cells slots Q (F0 m (pc + 3) ls rest)) : W p l e R s m args below meth c H locs cells slots Q (F0 m pc ls (.int y :: .int x :: rest)) := lv_icmp_ne hx hb hdg ht (fun h => kt (kn_f hf h)) (fun h => kf (kn_t hf h))
theorem jc_lt (hx : p.tables.exec = Jvm.exec) (hb : c.code = cc) {x y : Int32} {off : Int} {tgt : Nat} (hf : (if x < y then X else Y) = some r) (hdg : decode cc pc = .ok (.if_icmp .lt off, 3)) (ht : (pc : Int) + off = (tgt : Int)) (kt : X = some r → W p l e R s m args below meth c H locs cells slots Q (F0 m tgt ls rest)) (kf : Y = some r → W p l e R s m args below meth c H locs cells slots Q (F0 m (pc + 3) ls rest)) : W p l e R s m args below meth c H locs cells slots Q (F0 m pc ls (.int y :: .int x :: rest)) := lv_icmp_lt hx hb hdg ht (fun h => kt (kn_t hf h)) (fun h => kf (kn_f hf h))
theorem jc_ge (hx : p.tables.exec = Jvm.exec) (hb : c.code = cc) {x y : Int32} {off : Int} {tgt : Nat} (hf : (if y ≤ x then X else Y) = some r) (hdg : decode cc pc = .ok (.if_icmp .ge off, 3)) (ht : (pc : Int) + off = (tgt : Int)) (kt : X = some r → W p l e R s m args below meth c H locs cells slots Q (F0 m tgt ls rest)) (kf : Y = some r → W p l e R s m args below meth c H locs cells slots Q (F0 m (pc + 3) ls rest)) : W p l e R s m args below meth c H locs cells slots Q (F0 m pc ls (.int y :: .int x :: rest)) := lv_icmp_ge hx hb hdg ht (fun h => kt (kn_t hf h)) (fun h => kf (kn_f hf h))
theorem jc_gt (hx : p.tables.exec = Jvm.exec) (hb : c.code = cc) {x y : Int32} {off : Int} {tgt : Nat} (hf : (if y < x then X else Y) = some r) (hdg : decode cc pc = .ok (.if_icmp .gt off, 3)) (ht : (pc : Int) + off = (tgt : Int)) (kt : X = some r → W p l e R s m args below meth c H locs cells slots Q (F0 m tgt ls rest)) (kf : Y = some r → W p l e R s m args below meth c H locs cells slots Q (F0 m (pc + 3) ls rest)) : W p l e R s m args below meth c H locs cells slots Q (F0 m pc ls (.int y :: .int x :: rest)) := lv_icmp_gt hx hb hdg ht (fun h => kt (kn_t hf h)) (fun h => kf (kn_f hf h))
theorem jc_le (hx : p.tables.exec = Jvm.exec) (hb : c.code = cc) {x y : Int32} {off : Int} {tgt : Nat} (hf : (if x ≤ y then X else Y) = some r) (hdg : decode cc pc = .ok (.if_icmp .le off, 3)) (ht : (pc : Int) + off = (tgt : Int)) (kt : X = some r → W p l e R s m args below meth c H locs cells slots Q (F0 m tgt ls rest)) (kf : Y = some r → W p l e R s m args below meth c H locs cells slots Q (F0 m (pc + 3) ls rest)) : W p l e R s m args below meth c H locs cells slots Q (F0 m pc ls (.int y :: .int x :: rest)) := lv_icmp_le hx hb hdg ht (fun h => kt (kn_t hf h)) (fun h => kf (kn_f hf h))
theorem jl_eq (hx : p.tables.exec = Jvm.exec) (hb : c.code = cc) {x y : Int64} {off : Int} {tgt : Nat} (hf : (if x = y then X else Y) = some r) (hd0 : decode cc pc = .ok (.lcmp, 1)) (hdg : decode cc (pc + 1) = .ok (.ifCond .eq off, 3)) (ht : ((pc + 1 : Nat) : Int) + off = (tgt : Int)) (kt : X = some r → W p l e R s m args below meth c H locs cells slots Q (F0 m tgt ls rest)) (kf : Y = some r → W p l e R s m args below meth c H locs cells slots Q (F0 m (pc + 1 + 3) ls rest)) : W p l e R s m args below meth c H locs cells slots Q (F0 m pc ls (.long y :: .long x :: rest)) := W.lcmp hx hb hd0 (lv_if_eq hx hb hdg ht (fun h => kt (kn_t hf ((lg_cmp_eq x y).mp h))) (fun h => kf (kn_f hf (fun q => h ((lg_cmp_eq x y).mpr q)))))
theorem jl_ne (hx : p.tables.exec = Jvm.exec) (hb : c.code = cc) {x y : Int64} {off : Int} {tgt : Nat} (hf : (if x = y then X else Y) = some r) (hd0 : decode cc pc = .ok (.lcmp, 1)) (hdg : decode cc (pc + 1) = .ok (.ifCond .ne off, 3)) (ht : ((pc + 1 : Nat) : Int) + off = (tgt : Int)) (kt : Y = some r → W p l e R s m args below meth c H locs cells slots Q (F0 m tgt ls rest)) (kf : X = some r → W p l e R s m args below meth c H locs cells slots Q (F0 m (pc + 1 + 3) ls rest)) : W p l e R s m args below meth c H locs cells slots Q (F0 m pc ls (.long y :: .long x :: rest)) := W.lcmp hx hb hd0 (lv_if_ne hx hb hdg ht (fun h => kt (kn_f hf (fun q => h ((lg_cmp_eq x y).mpr q)))) (fun h => kf (kn_t hf ((lg_cmp_eq x y).mp h))))
theorem jl_lt (hx : p.tables.exec = Jvm.exec) (hb : c.code = cc) {x y : Int64} {off : Int} {tgt : Nat} (hf : (if x < y then X else Y) = some r) (hd0 : decode cc pc = .ok (.lcmp, 1)) (hdg : decode cc (pc + 1) = .ok (.ifCond .lt off, 3)) (ht : ((pc + 1 : Nat) : Int) + off = (tgt : Int)) (kt : X = some r → W p l e R s m args below meth c H locs cells slots Q (F0 m tgt ls rest)) (kf : Y = some r → W p l e R s m args below meth c H locs cells slots Q (F0 m (pc + 1 + 3) ls rest)) : W p l e R s m args below meth c H locs cells slots Q (F0 m pc ls (.long y :: .long x :: rest)) := W.lcmp hx hb hd0 (lv_if_lt hx hb hdg ht (fun h => kt (kn_t hf ((lg_cmp_lt x y).mp h))) (fun h => kf (kn_f hf (fun q => h ((lg_cmp_lt x y).mpr q)))))
theorem jl_ge (hx : p.tables.exec = Jvm.exec) (hb : c.code = cc) {x y : Int64} {off : Int} {tgt : Nat} (hf : (if y ≤ x then X else Y) = some r) (hd0 : decode cc pc = .ok (.lcmp, 1)) (hdg : decode cc (pc + 1) = .ok (.ifCond .ge off, 3)) (ht : ((pc + 1 : Nat) : Int) + off = (tgt : Int)) (kt : X = some r → W p l e R s m args below meth c H locs cells slots Q (F0 m tgt ls rest)) (kf : Y = some r → W p l e R s m args below meth c H locs cells slots Q (F0 m (pc + 1 + 3) ls rest)) : W p l e R s m args below meth c H locs cells slots Q (F0 m pc ls (.long y :: .long x :: rest)) := W.lcmp hx hb hd0 (lv_if_ge hx hb hdg ht (fun h => kt (kn_t hf ((lg_cmp_ge x y).mp h))) (fun h => kf (kn_f hf (fun q => h ((lg_cmp_ge x y).mpr q)))))
theorem jl_gt (hx : p.tables.exec = Jvm.exec) (hb : c.code = cc) {x y : Int64} {off : Int} {tgt : Nat} (hf : (if y < x then X else Y) = some r) (hd0 : decode cc pc = .ok (.lcmp, 1)) (hdg : decode cc (pc + 1) = .ok (.ifCond .gt off, 3)) (ht : ((pc + 1 : Nat) : Int) + off = (tgt : Int)) (kt : X = some r → W p l e R s m args below meth c H locs cells slots Q (F0 m tgt ls rest)) (kf : Y = some r → W p l e R s m args below meth c H locs cells slots Q (F0 m (pc + 1 + 3) ls rest)) : W p l e R s m args below meth c H locs cells slots Q (F0 m pc ls (.long y :: .long x :: rest)) := W.lcmp hx hb hd0 (lv_if_gt hx hb hdg ht (fun h => kt (kn_t hf ((lg_cmp_gt x y).mp h))) (fun h => kf (kn_f hf (fun q => h ((lg_cmp_gt x y).mpr q)))))
theorem jl_le (hx : p.tables.exec = Jvm.exec) (hb : c.code = cc) {x y : Int64} {off : Int} {tgt : Nat} (hf : (if x ≤ y then X else Y) = some r) (hd0 : decode cc pc = .ok (.lcmp, 1)) (hdg : decode cc (pc + 1) = .ok (.ifCond .le off, 3)) (ht : ((pc + 1 : Nat) : Int) + off = (tgt : Int)) (kt : X = some r → W p l e R s m args below meth c H locs cells slots Q (F0 m tgt ls rest)) (kf : Y = some r → W p l e R s m args below meth c H locs cells slots Q (F0 m (pc + 1 + 3) ls rest)) : W p l e R s m args below meth c H locs cells slots Q (F0 m pc ls (.long y :: .long x :: rest)) := W.lcmp hx hb hd0 (lv_if_le hx hb hdg ht (fun h => kt (kn_t hf ((lg_cmp_le x y).mp h))) (fun h => kf (kn_f hf (fun q => h ((lg_cmp_le x y).mpr q)))))
theorem jd_idiv (hx : p.tables.exec = Jvm.exec) (hb : c.code = cc) {x y : Int32} (hf : kn_nz32 y X = some r) (hdg : decode cc pc = .ok (.idiv, 1)) (kk : X = some r → W p l e R s m args below meth c H locs cells slots Q (F0 m (pc + 1) ls (.int (x / y) :: rest))) : W p l e R s m args below meth c H locs cells slots Q (F0 m pc ls (.int y :: .int x :: rest)) := lv_idiv hx hb hdg (kn_nz32_e hf).1 (kk (kn_nz32_e hf).2)
theorem jd_irem (hx : p.tables.exec = Jvm.exec) (hb : c.code = cc) {x y : Int32} (hf : kn_nz32 y X = some r) (hdg : decode cc pc = .ok (.irem, 1)) (kk : X = some r → W p l e R s m args below meth c H locs cells slots Q (F0 m (pc + 1) ls (.int (x - x / y * y) :: rest))) : W p l e R s m args below meth c H locs cells slots Q (F0 m pc ls (.int y :: .int x :: rest)) := lv_irem hx hb hdg (kn_nz32_e hf).1 (kk (kn_nz32_e hf).2)
theorem jd_ldiv (hx : p.tables.exec = Jvm.exec) (hb : c.code = cc) {x y : Int64} (hf : kn_nz64 y X = some r) (hdg : decode cc pc = .ok (.ldiv, 1)) (kk : X = some r → W p l e R s m args below meth c H locs cells slots Q (F0 m (pc + 1) ls (.long (x / y) :: rest))) : W p l e R s m args below meth c H locs cells slots Q (F0 m pc ls (.long y :: .long x :: rest)) := lv_ldiv hx hb hdg (kn_nz64_e hf).1 (kk (kn_nz64_e hf).2)
theorem jd_lrem (hx : p.tables.exec = Jvm.exec) (hb : c.code = cc) {x y : Int64} (hf : kn_nz64 y X = some r) (hdg : decode cc pc = .ok (.lrem, 1)) (kk : X = some r → W p l e R s m args below meth c H locs cells slots Q (F0 m (pc + 1) ls (.long (x - x / y * y) :: rest))) : W p l e R s m args below meth c H locs cells slots Q (F0 m pc ls (.long y :: .long x :: rest)) := lv_lrem hx hb hdg (kn_nz64_e hf).1 (kk (kn_nz64_e hf).2)
end JR
section JA
variable {p : Program} {l : Launch} {e : Env} {R : Room} {s : State} {m : MethodId} {args : Array Value} {below : List Frame} {meth : Method} {c : Code} {H H0 : Heap} {locs : List Loc} {cells slots : Nat} {Q : State → Prop}
variable {cc : ByteArray} {pc : Nat} {ls : Array Slot} {rest : List Value} {β : Type} {r : β} {D : va_G} {cl : List vw_C} {tys : List (ClassId × FieldType)} {A : Nat → Prop} {w : RS → va_W} {σ σ1 : RS} {a : Nat}

theorem ja_ild (hx : p.tables.exec = Jvm.exec) (hb : c.code = cc) (hK : va_K D cl tys s) (hP : va_P D cl (w σ) H) (q0 t0 : Nat) {cA : ClassId} {n : Nat} {f : Nat → Int32} (ha : (w σ)[q0]? = some (a, .inl (cA, n, .inl f))) (ht : tys[t0]? = some (cA, .int)) {i : Int32} {F : Int32 → Option β} (hf : kn_ld f n i F = some r) (hdg : decode cc pc = .ok (.iaload, 1)) (kk : ∀ v : Int32, F v = some r → W p l e R s m args below meth c H locs cells slots Q (F0 m (pc + 1) ls (.int v :: rest))) : W p l e R s m args below meth c H locs cells slots Q (F0 m pc ls (.int i :: .ref a :: rest)) := va_iald hx hb hK hP q0 t0 ha ht (kn_ld_e hf).1 hdg (kk _ (kn_ld_e hf).2)
theorem ja_zld (hx : p.tables.exec = Jvm.exec) (hb : c.code = cc) (hK : va_K D cl tys s) (hP : va_P D cl (w σ) H) (q0 t0 : Nat) {cA : ClassId} {n : Nat} {f : Nat → Int32} (ha : (w σ)[q0]? = some (a, .inl (cA, n, .inl f))) (ht : tys[t0]? = some (cA, .boolean)) {i : Int32} {F : Int32 → Option β} (hf : kn_ld f n i F = some r) (hdg : decode cc pc = .ok (.baload, 1)) (kk : ∀ v : Int32, F v = some r → W p l e R s m args below meth c H locs cells slots Q (F0 m (pc + 1) ls (.int v :: rest))) : W p l e R s m args below meth c H locs cells slots Q (F0 m pc ls (.int i :: .ref a :: rest)) := va_zald hx hb hK hP q0 t0 ha ht (kn_ld_e hf).1 hdg (kk _ (kn_ld_e hf).2)
theorem ja_lld (hx : p.tables.exec = Jvm.exec) (hb : c.code = cc) (hK : va_K D cl tys s) (hP : va_P D cl (w σ) H) (q0 t0 : Nat) {cA : ClassId} {n : Nat} {f : Nat → Int64} (ha : (w σ)[q0]? = some (a, .inl (cA, n, .inr (.inl f)))) (ht : tys[t0]? = some (cA, .long)) {i : Int32} {F : Int64 → Option β} (hf : kn_ld f n i F = some r) (hdg : decode cc pc = .ok (.laload, 1)) (kk : ∀ v : Int64, F v = some r → W p l e R s m args below meth c H locs cells slots Q (F0 m (pc + 1) ls (.long v :: rest))) : W p l e R s m args below meth c H locs cells slots Q (F0 m pc ls (.int i :: .ref a :: rest)) := va_lald hx hb hK hP q0 t0 ha ht (kn_ld_e hf).1 hdg (kk _ (kn_ld_e hf).2)
theorem ja_ist (hx : p.tables.exec = Jvm.exec) (hb : c.code = cc) (hK : va_K D cl tys s) (hD : va_D A (w σ)) (hP : va_P D cl (w σ) H) (hS : va_S A H0 H locs) (q0 t0 : Nat) {cA : ClassId} {n : Nat} {f : Nat → Int32} (ha : (w σ)[q0]? = some (a, .inl (cA, n, .inl f))) (ht : tys[t0]? = some (cA, .int)) {i : Int32} {x : Int32} (hw : (w σ).set q0 (a, .inl (cA, n, .inl (upd f i.toNatClampNeg x))) = w σ1) {F : RS → Option β} (hf : kn_st σ1 n i F = some r) (hdg : decode cc pc = .ok (.iastore, 1)) (kk : ∀ (σ2 : RS) (H1 : Heap) (locs1 : List Loc), va_P D cl (w σ2) H1 → va_S A H0 H1 locs1 → F σ2 = some r → W p l e R s m args below meth c H1 locs1 cells slots Q (F0 m (pc + 1) ls rest)) : W p l e R s m args below meth c H locs cells slots Q (F0 m pc ls (.int x :: .int i :: .ref a :: rest)) := va_iast hx hb hK hP hD hS q0 t0 ha ht (kn_st_e hf).1 hdg (fun H1 locs1 h1 _ h3 => kk σ1 H1 locs1 (hw ▸ h1) h3 (kn_st_e hf).2)
theorem ja_lst (hx : p.tables.exec = Jvm.exec) (hb : c.code = cc) (hK : va_K D cl tys s) (hD : va_D A (w σ)) (hP : va_P D cl (w σ) H) (hS : va_S A H0 H locs) (q0 t0 : Nat) {cA : ClassId} {n : Nat} {f : Nat → Int64} (ha : (w σ)[q0]? = some (a, .inl (cA, n, .inr (.inl f)))) (ht : tys[t0]? = some (cA, .long)) {i : Int32} {x : Int64} (hw : (w σ).set q0 (a, .inl (cA, n, .inr (.inl (vp_updL f i.toNatClampNeg x)))) = w σ1) {F : RS → Option β} (hf : kn_st σ1 n i F = some r) (hdg : decode cc pc = .ok (.lastore, 1)) (kk : ∀ (σ2 : RS) (H1 : Heap) (locs1 : List Loc), va_P D cl (w σ2) H1 → va_S A H0 H1 locs1 → F σ2 = some r → W p l e R s m args below meth c H1 locs1 cells slots Q (F0 m (pc + 1) ls rest)) : W p l e R s m args below meth c H locs cells slots Q (F0 m pc ls (.long x :: .int i :: .ref a :: rest)) := va_last hx hb hK hP hD hS q0 t0 ha ht (kn_st_e hf).1 hdg (fun H1 locs1 h1 _ h3 => kk σ1 H1 locs1 (hw ▸ h1) h3 (kn_st_e hf).2)
theorem ja_zst (hx : p.tables.exec = Jvm.exec) (hb : c.code = cc) (hK : va_K D cl tys s) (hD : va_D A (w σ)) (hP : va_P D cl (w σ) H) (hS : va_S A H0 H locs) (q0 t0 : Nat) {cA : ClassId} {n : Nat} {f : Nat → Int32} (ha : (w σ)[q0]? = some (a, .inl (cA, n, .inl f))) (ht : tys[t0]? = some (cA, .boolean)) {i : Int32} {x x1 : Int32} (hx1 : vp_nar .boolean x = x1) (hw : (w σ).set q0 (a, .inl (cA, n, .inl (upd f i.toNatClampNeg x1))) = w σ1) {F : RS → Option β} (hf : kn_st σ1 n i F = some r) (hdg : decode cc pc = .ok (.bastore, 1)) (kk : ∀ (σ2 : RS) (H1 : Heap) (locs1 : List Loc), va_P D cl (w σ2) H1 → va_S A H0 H1 locs1 → F σ2 = some r → W p l e R s m args below meth c H1 locs1 cells slots Q (F0 m (pc + 1) ls rest)) : W p l e R s m args below meth c H locs cells slots Q (F0 m pc ls (.int x :: .int i :: .ref a :: rest)) := by
  subst hx1
  exact va_zast hx hb hK hP hD hS q0 t0 ha ht (kn_st_e hf).1 hdg (fun H1 locs1 h1 _ h3 => kk σ1 H1 locs1 (hw ▸ h1) h3 (kn_st_e hf).2)
theorem ja_cpl (hx : p.tables.exec = Jvm.exec) (hb : c.code = cc) (hml : c.maxLocals = ls.size) {own : String} {index : Nat} (hown : s.vm.findClass own = some m.cls) (hlink : (Cond.methodLink own index arraycopyName).before args s = true) (hnat : (Cond.native arraycopyName).before args s = true) (hstat : (Cond.static arraycopyName).before args s = true) (hini : (Cond.initialized "java/lang/System").before args s = true) (hK : va_K D cl tys s) (hD : va_D A (w σ)) (hP : va_P D cl (w σ) H) (hS : va_S A H0 H locs) (q0 q1 t0 : Nat) {a0 : Nat} {c0 : ClassId} {n0 n1 : Nat} {f g : Nat → Int64} (ha0 : (w σ)[q0]? = some (a0, .inl (c0, n0, .inr (.inl f)))) (ha1 : (w σ)[q1]? = some (a, .inl (c0, n1, .inr (.inl g)))) (ht0 : tys[t0]? = some (c0, .long)) {sp dp n : Int32} (hw : (w σ).set q1 (a, .inl (c0, n1, .inr (.inl (va_cpy f g sp.toNatClampNeg dp.toNatClampNeg n.toNatClampNeg)))) = w σ1) {F : RS → Option β} (hf : kn_cp n0 n1 sp dp n σ1 F = some r) (hframes : 1 ≤ R.frames) (hlocals : (rest.map fun v => v.category).sum + (nativeFrameWords "java/lang/System" "arraycopy" 5 + 11) ≤ R.locals) (hdg : decode cc pc = .ok (.invokestatic index, 3)) (kk : ∀ (σ2 : RS) (H1 : Heap) (locs1 : List Loc), va_P D cl (w σ2) H1 → va_S A H0 H1 locs1 → F σ2 = some r → W p l e R s m args below meth c H1 locs1 cells slots Q (F0 m (pc + 3) ls rest)) : W p l e R s m args below meth c H locs cells slots Q (F0 m pc ls (.int n :: .int dp :: .ref a :: .int sp :: .ref a0 :: rest)) := by
  obtain ⟨⟨h1, h2, h3, h4, h5⟩, h6⟩ := kn_cp_e hf
  exact va_copyl hx hb hml hown hlink hnat hstat hini hK hP hD hS q0 q1 t0 t0 ha0 ha1 ht0 ht0 rfl h1 h2 h3 h4 h5 (fun _ _ => rfl) hframes hlocals hdg (fun H1 locs1 g1 _ g3 => kk σ1 H1 locs1 (hw ▸ g1) g3 h6)
theorem ja_cpz (hx : p.tables.exec = Jvm.exec) (hb : c.code = cc) (hml : c.maxLocals = ls.size) {own : String} {index : Nat} (hown : s.vm.findClass own = some m.cls) (hlink : (Cond.methodLink own index arraycopyName).before args s = true) (hnat : (Cond.native arraycopyName).before args s = true) (hstat : (Cond.static arraycopyName).before args s = true) (hini : (Cond.initialized "java/lang/System").before args s = true) (hK : va_K D cl tys s) (hD : va_D A (w σ)) (hP : va_P D cl (w σ) H) (hS : va_S A H0 H locs) (q0 q1 t0 : Nat) {a0 : Nat} {c0 : ClassId} {n0 n1 : Nat} {f g : Nat → Int32} (ha0 : (w σ)[q0]? = some (a0, .inl (c0, n0, .inl f))) (ha1 : (w σ)[q1]? = some (a, .inl (c0, n1, .inl g))) (ht0 : tys[t0]? = some (c0, .boolean)) {sp dp n : Int32} (hw : (w σ).set q1 (a, .inl (c0, n1, .inl (va_cpy f g sp.toNatClampNeg dp.toNatClampNeg n.toNatClampNeg))) = w σ1) {F : RS → Option β} (hf : kn_cz f n0 n1 sp dp n σ1 F = some r) (hframes : 1 ≤ R.frames) (hlocals : (rest.map fun v => v.category).sum + (nativeFrameWords "java/lang/System" "arraycopy" 5 + 11) ≤ R.locals) (hdg : decode cc pc = .ok (.invokestatic index, 3)) (kk : ∀ (σ2 : RS) (H1 : Heap) (locs1 : List Loc), va_P D cl (w σ2) H1 → va_S A H0 H1 locs1 → F σ2 = some r → W p l e R s m args below meth c H1 locs1 cells slots Q (F0 m (pc + 3) ls rest)) : W p l e R s m args below meth c H locs cells slots Q (F0 m pc ls (.int n :: .int dp :: .ref a :: .int sp :: .ref a0 :: rest)) := by
  obtain ⟨h0, ⟨h1, h2, h3, h4, h5⟩, h6⟩ := kn_cz_e hf
  exact va_copyi hx hb hml hown hlink hnat hstat hini hK hP hD hS q0 q1 t0 t0 ha0 ha1 ht0 ht0 rfl h1 h2 h3 h4 h5 h0 hframes hlocals hdg (fun H1 locs1 g1 _ g3 => kk σ1 H1 locs1 (hw ▸ g1) g3 h6)
theorem jr_i (hx : p.tables.exec = Jvm.exec) (hb : c.code = cc) {ty : FieldType} (hr : meth.sig.returnType = some ty) (hlocks : meth.locks = false) {v : Int32} {res : Int32 × RS} (hf : some (v, σ) = some res) (hn : narrow ty (.int v) = .int v) (hP : va_P D cl (w σ) H) (hS : va_S A s.heap H locs) (hdg : decode cc pc = .ok (.ireturn, 1)) : W p l e R s m args below meth c H locs 0 0 (MQ below (va_Qi (fun r u => (r, u) = res) (fun u t => va_P D cl (w u) t.heap) A) args s 0 0 A) (F0 m pc ls [.int v]) := by
  cases hf
  exact W.zret hx hb hr hn (fun t ht _ => ⟨⟨v, σ, rfl, rfl, by subst ht; exact hP⟩, hS.F ht⟩) hS.2.2 hdg hlocks
theorem jr_l (hx : p.tables.exec = Jvm.exec) (hb : c.code = cc) (hr : meth.sig.returnType = some .long) (hlocks : meth.locks = false) {v : Int64} {res : Int64 × RS} (hf : some (v, σ) = some res) (hP : va_P D cl (w σ) H) (hS : va_S A s.heap H locs) (hdg : decode cc pc = .ok (.lreturn, 1)) : W p l e R s m args below meth c H locs 0 0 (MQ below (va_Ql (fun r u => (r, u) = res) (fun u t => va_P D cl (w u) t.heap) A) args s 0 0 A) (F0 m pc ls [.long v]) := by
  cases hf
  exact W.lret hx hb hr (fun t ht _ => ⟨⟨v, σ, rfl, rfl, by subst ht; exact hP⟩, hS.F ht⟩) hS.2.2 hdg hlocks
theorem jr_u (hx : p.tables.exec = Jvm.exec) (hb : c.code = cc) (hr : meth.sig.returnType = none) (hlocks : meth.locks = false) {res : RS} (hf : some σ = some res) (hP : va_P D cl (w σ) H) (hS : va_S A s.heap H locs) (hdg : decode cc pc = .ok (.return_, 1)) : W p l e R s m args below meth c H locs 0 0 (MQ below (va_Qv (fun u => u = res) (fun u t => va_P D cl (w u) t.heap) A) args s 0 0 A) (F0 m pc ls []) := by
  cases hf
  exact W.vret hx hb hr (fun t ht _ => ⟨⟨σ, rfl, rfl, by subst ht; exact hP⟩, hS.F ht⟩) hS.2.2 hdg hlocks
theorem jk_i {st0 : List Value} {a0 : Array Value} {o : Option (Int32 × RS)} {F : Int32 → RS → Option β} (hf : kn_i o F = some r) (hr : ∀ res, o = some res → va_Run p l e R s m args below meth c H locs cells slots 0 0 (F0 m pc ls st0) rest (va_Qi (fun r u => (r, u) = res) (fun u t => va_P D cl (w u) t.heap) A a0) A) (hS : va_S A H0 H locs) (kk : ∀ (v : Int32) (σ2 : RS) (H1 : Heap) (locs1 : List Loc), va_P D cl (w σ2) H1 → va_S A H0 H1 locs1 → F v σ2 = some r → W p l e R s m args below meth c H1 locs1 cells slots Q (F0 m (pc + 3) ls (.int v :: rest))) : W p l e R s m args below meth c H locs cells slots Q (F0 m pc ls st0) := by
  obtain ⟨v, σ2, h1, h2⟩ := kn_i_e hf
  refine va_calli (hr _ h1) hS (fun q _ h => h) (fun q h => h) (fun r' u t H1 locs1 ht _ hw hB _ _ hS1 => ?_)
  cases hw
  exact kk v σ2 H1 locs1 (by rw [← ht]; exact hB) hS1 h2
theorem jk_l {st0 : List Value} {a0 : Array Value} {o : Option (Int64 × RS)} {F : Int64 → RS → Option β} (hf : kn_l o F = some r) (hr : ∀ res, o = some res → va_Run p l e R s m args below meth c H locs cells slots 0 0 (F0 m pc ls st0) rest (va_Ql (fun r u => (r, u) = res) (fun u t => va_P D cl (w u) t.heap) A a0) A) (hS : va_S A H0 H locs) (kk : ∀ (v : Int64) (σ2 : RS) (H1 : Heap) (locs1 : List Loc), va_P D cl (w σ2) H1 → va_S A H0 H1 locs1 → F v σ2 = some r → W p l e R s m args below meth c H1 locs1 cells slots Q (F0 m (pc + 3) ls (.long v :: rest))) : W p l e R s m args below meth c H locs cells slots Q (F0 m pc ls st0) := by
  obtain ⟨v, σ2, h1, h2⟩ := kn_l_e hf
  refine va_calll (hr _ h1) hS (fun q _ h => h) (fun q h => h) (fun r' u t H1 locs1 ht _ hw hB _ _ hS1 => ?_)
  cases hw
  exact kk v σ2 H1 locs1 (by rw [← ht]; exact hB) hS1 h2
theorem jk_u {st0 : List Value} {a0 : Array Value} {o : Option RS} {F : RS → Option β} (hf : kn_u o F = some r) (hr : ∀ res, o = some res → va_Run p l e R s m args below meth c H locs cells slots 0 0 (F0 m pc ls st0) rest (va_Qv (fun u => u = res) (fun u t => va_P D cl (w u) t.heap) A a0) A) (hS : va_S A H0 H locs) (kk : ∀ (σ2 : RS) (H1 : Heap) (locs1 : List Loc), va_P D cl (w σ2) H1 → va_S A H0 H1 locs1 → F σ2 = some r → W p l e R s m args below meth c H1 locs1 cells slots Q (F0 m (pc + 3) ls rest)) : W p l e R s m args below meth c H locs cells slots Q (F0 m pc ls st0) := by
  obtain ⟨σ2, h1, h2⟩ := kn_u_e hf
  refine va_callv (hr _ h1) hS (fun q _ h => h) (fun q h => h) (fun u t H1 locs1 ht _ hw hB _ _ hS1 => ?_)
  cases hw
  exact kk σ2 H1 locs1 (by rw [← ht]; exact hB) hS1 h2
end JA
section JV
variable {p : Program} {l : Launch} {e : Env} {R : Room} {s : State} {m : MethodId} {args : Array Value} {below : List Frame} {meth : Method} {c : Code} {H : Heap} {locs : List Loc}
variable {cc : ByteArray} {pc nL : Nat} {ls : Array Slot} {rest st0 As : List Value} {D : va_G} {cl : List vw_C} {tys : List (ClassId × FieldType)} {A : Nat → Prop} {w : RS → va_W} {σ : RS} {a : Nat} {KW NW : List Cond} {own : String}
theorem jg_in {q : Cond} (hG : ∀ w ∈ KW, goodWord w = true) (hq : q ∈ KW) : GoodIn KW (q :: KW) := by
  intro w hw
  rcases List.mem_cons.mp hw with rfl | h
  · exact ⟨hq, good_of_word (hG _ hq)⟩
  · exact ⟨h, good_of_word (hG _ h)⟩
theorem jw_blind {av : List Value} (hNW : ∀ x ∈ NW, jw_nest x = true) : FrameBlind (va_Pc av (jw_at D cl tys NW w σ)) := fun a U g mk h => ⟨h.1, jw_at_calling hNW g mk a h.2⟩
/-- a call of a method of an object of the world, by a link of the class's own or a public one -/
theorem jv_run (hx : p.tables.exec = Jvm.exec) (hb : c.code = cc) (hml : c.maxLocals = nL) (hown : s.vm.findClass own = some m.cls) (hts : ∀ w ∈ KW, w.before args s = true) (hK : va_K D cl tys s) (hN : ∀ x ∈ NW, va_Nw x s) (hG : ∀ w ∈ KW, goodWord w = true) (hNW : ∀ x ∈ NW, jw_nest x = true) (hls : ls.size = nL)
    {y : MethodName} {b' : ByteArray} {nL' idx n ci q0 : Nat} {ret' : Option FieldType} {rm : Room} {Qc : Array Value → State → Outcome → State → Prop} {vc : vw_C} {fs : List Value}
    (hM : Met l y (.code y b' nL' ret' :: KW) rm (va_Pc (.ref a :: As) (jw_at D cl tys NW w σ)) Qc 0 0 A) (hP : va_P D cl (w σ) H) (hc : cl[ci]? = some vc) (he : (w σ)[q0]? = some (a, .inr (ci, fs))) (hvc : vc.1 = y.cls)
    (hcode : Cond.code y b' nL' ret' ∈ KW) (hlink : Cond.methodLink own idx y ∈ KW) (hinst : Cond.instanceMethod y ∈ KW) (hsel : Cond.selects y.cls y y ∈ KW) (hini : Cond.initialized y.cls ∈ KW) (hrm : rm.cells = 0 ∧ rm.slots = 0)
    (hd : y.cls ≠ "java/lang/invoke/MethodHandle" ∧ y.cls ≠ "java/lang/invoke/VarHandle" ∧ (parseMethodDescriptor y.desc).map (fun d => d.parameters.length) = some n) (hn : As.length = n) (hR : rm.frames + 1 ≤ R.frames ∧ 8 + (nL' + 11) + rm.locals ≤ R.locals)
    (hst : st0 = As.reverse ++ .ref a :: rest) (hW : (rest.map fun v => v.category).sum ≤ 8) (hdg : decode cc pc = .ok (.invokevirtual idx, 3)) :
    va_Run p l e R s m args below meth c H locs 0 0 0 0 (F0 m pc ls st0) rest (Qc (Value.ref a :: As).toArray) A :=
  va_runV (C := y.cls) ⟨hx, hb, hml, hown, hts⟩ hM ⟨callB_of n hts (jg_in hG hcode) rfl hrm.1 hrm.2 (hts _ hini) (hts _ hlink) hd hR, hts _ hinst, hts _ hsel⟩
    ⟨jw_blind hNW, by have h := va_recv hK hP hc he; rw [hvc] at h; exact h, fun U hU hW => ⟨rfl, jw_at_of hNW hP hK hN hU hW⟩⟩ rfl hn hls hst (lv_room hW) hdg ⟨Nat.zero_le _, Nat.zero_le _⟩
/-- the same by a nest mate's link -/
theorem jv_runN (hx : p.tables.exec = Jvm.exec) (hb : c.code = cc) (hml : c.maxLocals = nL) (hown : s.vm.findClass own = some m.cls) (hts : ∀ w ∈ KW, w.before args s = true) (hK : va_K D cl tys s) (hN : ∀ x ∈ NW, va_Nw x s) (hG : ∀ w ∈ KW, goodWord w = true) (hNW : ∀ x ∈ NW, jw_nest x = true) (hls : ls.size = nL)
    {y : MethodName} {b' : ByteArray} {nL' idx n ci q0 : Nat} {ret' : Option FieldType} {rm : Room} {Qc : Array Value → State → Outcome → State → Prop} {vc : vw_C} {fs : List Value} {host : String}
    (hM : Met l y (.code y b' nL' ret' :: KW) rm (va_Pc (.ref a :: As) (jw_at D cl tys NW w σ)) Qc 0 0 A) (hP : va_P D cl (w σ) H) (hc : cl[ci]? = some vc) (he : (w σ)[q0]? = some (a, .inr (ci, fs))) (hvc : vc.1 = y.cls)
    (hcode : Cond.code y b' nL' ret' ∈ KW) (hlink : Cond.methodLinkNest own idx y host ∈ NW) (hinst : Cond.instanceMethod y ∈ KW) (hsel : Cond.selects y.cls y y ∈ KW) (hini : Cond.initialized y.cls ∈ KW) (hrm : rm.cells = 0 ∧ rm.slots = 0)
    (hd : y.cls ≠ "java/lang/invoke/MethodHandle" ∧ y.cls ≠ "java/lang/invoke/VarHandle" ∧ (parseMethodDescriptor y.desc).map (fun d => d.parameters.length) = some n) (hn : As.length = n) (hR : rm.frames + 1 ≤ R.frames ∧ 8 + (nL' + 11) + rm.locals ≤ R.locals)
    (hst : st0 = As.reverse ++ .ref a :: rest) (hW : (rest.map fun v => v.category).sum ≤ 8) (hdg : decode cc pc = .ok (.invokevirtual idx, 3)) :
    va_Run p l e R s m args below meth c H locs 0 0 0 0 (F0 m pc ls st0) rest (Qc (Value.ref a :: As).toArray) A :=
  va_runVN (C := y.cls) ⟨hx, hb, hml, hown, hts⟩ hM ⟨va_cnB n hts (jg_in hG hcode) rfl hrm.1 hrm.2 (hN _ hlink) (hts _ hini) hd hR, hts _ hinst, hts _ hsel⟩
    ⟨jw_blind hNW, by have h := va_recv hK hP hc he; rw [hvc] at h; exact h, fun U hU hW => ⟨rfl, jw_at_of hNW hP hK hN hU hW⟩⟩ rfl hn hls hst (lv_room hW) hdg ⟨Nat.zero_le _, Nat.zero_le _⟩
/-- a static method -/
theorem js_run (hx : p.tables.exec = Jvm.exec) (hb : c.code = cc) (hml : c.maxLocals = nL) (hown : s.vm.findClass own = some m.cls) (hts : ∀ w ∈ KW, w.before args s = true) (hK : va_K D cl tys s) (hN : ∀ x ∈ NW, va_Nw x s) (hG : ∀ w ∈ KW, goodWord w = true) (hNW : ∀ x ∈ NW, jw_nest x = true) (hls : ls.size = nL)
    {y : MethodName} {b' : ByteArray} {nL' idx n : Nat} {ret' : Option FieldType} {rm : Room} {Qc : Array Value → State → Outcome → State → Prop}
    (hM : Met l y (.code y b' nL' ret' :: KW) rm (va_Pc As (jw_at D cl tys NW w σ)) Qc 0 0 A) (hP : va_P D cl (w σ) H)
    (hcode : Cond.code y b' nL' ret' ∈ KW) (hlink : Cond.methodLink own idx y ∈ KW) (hstat : Cond.static y ∈ KW) (hini : Cond.initialized y.cls ∈ KW) (hrm : rm.cells = 0 ∧ rm.slots = 0)
    (hd : y.cls ≠ "java/lang/invoke/MethodHandle" ∧ y.cls ≠ "java/lang/invoke/VarHandle" ∧ (parseMethodDescriptor y.desc).map (fun d => d.parameters.length) = some n) (hn : As.length = n) (hR : rm.frames + 1 ≤ R.frames ∧ 8 + (nL' + 11) + rm.locals ≤ R.locals)
    (hst : st0 = As.reverse ++ rest) (hW : (rest.map fun v => v.category).sum ≤ 8) (hdg : decode cc pc = .ok (.invokestatic idx, 3)) :
    va_Run p l e R s m args below meth c H locs 0 0 0 0 (F0 m pc ls st0) rest (Qc As.toArray) A :=
  va_runS ⟨hx, hb, hml, hown, hts⟩ hM ⟨callB_of n hts (jg_in hG hcode) rfl hrm.1 hrm.2 (hts _ hini) (hts _ hlink) hd hR, hts _ hstat⟩
    ⟨jw_blind hNW, fun U hU hW => ⟨rfl, jw_at_of hNW hP hK hN hU hW⟩⟩ rfl hn hls hst (lv_room hW) hdg ⟨Nat.zero_le _, Nat.zero_le _⟩
theorem js_runN (hx : p.tables.exec = Jvm.exec) (hb : c.code = cc) (hml : c.maxLocals = nL) (hown : s.vm.findClass own = some m.cls) (hts : ∀ w ∈ KW, w.before args s = true) (hK : va_K D cl tys s) (hN : ∀ x ∈ NW, va_Nw x s) (hG : ∀ w ∈ KW, goodWord w = true) (hNW : ∀ x ∈ NW, jw_nest x = true) (hls : ls.size = nL)
    {y : MethodName} {b' : ByteArray} {nL' idx n : Nat} {ret' : Option FieldType} {rm : Room} {Qc : Array Value → State → Outcome → State → Prop} {host : String}
    (hM : Met l y (.code y b' nL' ret' :: KW) rm (va_Pc As (jw_at D cl tys NW w σ)) Qc 0 0 A) (hP : va_P D cl (w σ) H)
    (hcode : Cond.code y b' nL' ret' ∈ KW) (hlink : Cond.methodLinkNest own idx y host ∈ NW) (hstat : Cond.static y ∈ KW) (hini : Cond.initialized y.cls ∈ KW) (hrm : rm.cells = 0 ∧ rm.slots = 0)
    (hd : y.cls ≠ "java/lang/invoke/MethodHandle" ∧ y.cls ≠ "java/lang/invoke/VarHandle" ∧ (parseMethodDescriptor y.desc).map (fun d => d.parameters.length) = some n) (hn : As.length = n) (hR : rm.frames + 1 ≤ R.frames ∧ 8 + (nL' + 11) + rm.locals ≤ R.locals)
    (hst : st0 = As.reverse ++ rest) (hW : (rest.map fun v => v.category).sum ≤ 8) (hdg : decode cc pc = .ok (.invokestatic idx, 3)) :
    va_Run p l e R s m args below meth c H locs 0 0 0 0 (F0 m pc ls st0) rest (Qc As.toArray) A :=
  va_runSN ⟨hx, hb, hml, hown, hts⟩ hM ⟨va_cnB n hts (jg_in hG hcode) rfl hrm.1 hrm.2 (hN _ hlink) (hts _ hini) hd hR, hts _ hstat, trivial⟩
    ⟨jw_blind hNW, fun U hU hW => ⟨rfl, jw_at_of hNW hP hK hN hU hW⟩⟩ rfl hn hls hst (lv_room hW) hdg ⟨Nat.zero_le _, Nat.zero_le _⟩
end JV
/-! the tables' words that a call keeps, and the nest's -/
def KW : List Cond := lw_tbl.filter goodWord
def NW : List Cond := lw_tbl.filter jw_nest
theorem kw_of {i : Nat} {w : Cond} (h : lw_tbl[i]? = some w) (hg : goodWord w = true) : w ∈ KW := List.mem_filter.mpr ⟨List.mem_of_getElem? h, hg⟩
theorem nw_of {i : Nat} {w : Cond} (h : lw_tbl[i]? = some w) (hg : jw_nest w = true) : w ∈ NW := List.mem_filter.mpr ⟨List.mem_of_getElem? h, hg⟩
theorem c_hG : ∀ w ∈ KW, goodWord w = true := fun _ h => (List.mem_filter.mp h).2
theorem c_hNW : ∀ w ∈ NW, jw_nest w = true := fun _ h => (List.mem_filter.mp h).2
theorem r_hG : ∀ w ∈ KW, goodWord w = true := c_hG
theorem r_hNW : ∀ w ∈ NW, jw_nest w = true := c_hNW
theorem kw_all {ws : List Cond} (ps : List Nat) (hp : ws = ps.filterMap (fun i => lw_tbl[i]?)) (h : ws.all goodWord = true) : ∀ w ∈ ws, w ∈ KW := by
  intro w hw
  have h1 := List.all_eq_true.mp h w hw
  rw [hp] at hw
  obtain ⟨i, -, hi⟩ := List.mem_filterMap.mp hw
  exact kw_of hi h1
abbrev jtys (kA : Nat → ClassId) : List (ClassId × FieldType) := [(kA 0, .int), (kA 1, .long), (kA 2, .boolean), (kA 3, .object RX4)]
abbrev jxc (cc : ByteArray) (ret : Option FieldType) (nL : Nat) (own : String) (p : Program) (s : State) (m : MethodId) (args : Array Value) (meth : Method) (c : Code) (dC : Nat → ClassId) (dI : Nat → Nat → Nat) (kA : Nat → ClassId) : Prop := jx KW NW (dC, dI) vwCl (jtys kA) cc ret nL own p s m args meth c
end
section
set_option maxRecDepth 20000 in
theorem kw_0 : Cond.selects RX11 yX11_changed yX11_changed ∈ KW := kw_of (i := 0) (by decide +kernel) rfl
set_option maxRecDepth 20000 in
theorem kw_1 : Cond.selects RX3 yX3_startLine yX3_startLine ∈ KW := kw_of (i := 1) (by decide +kernel) rfl
set_option maxRecDepth 20000 in
theorem kw_2 : Cond.selects RX3 yX3_sendOn yX3_sendOn ∈ KW := kw_of (i := 2) (by decide +kernel) rfl
set_option maxRecDepth 20000 in
theorem kw_3 : Cond.selects RX3 yX3_sendAlong yX3_sendAlong ∈ KW := kw_of (i := 3) (by decide +kernel) rfl
set_option maxRecDepth 20000 in
theorem kw_4 : Cond.selects RX1 yX1_valueOf yX1_valueOf ∈ KW := kw_of (i := 4) (by decide +kernel) rfl
set_option maxRecDepth 20000 in
theorem kw_5 : Cond.selects RX1 yX1_fails yX1_fails ∈ KW := kw_of (i := 5) (by decide +kernel) rfl
set_option maxRecDepth 20000 in
theorem kw_6 : Cond.selects RX1 yX1_plainValue yX1_plainValue ∈ KW := kw_of (i := 6) (by decide +kernel) rfl
set_option maxRecDepth 20000 in
theorem kw_7 : Cond.selects RX1 yX1_stateAt yX1_stateAt ∈ KW := kw_of (i := 7) (by decide +kernel) rfl
set_option maxRecDepth 20000 in
theorem kw_8 : Cond.selects RX1 yX1_joined yX1_joined ∈ KW := kw_of (i := 8) (by decide +kernel) rfl
set_option maxRecDepth 20000 in
theorem kw_9 : Cond.selects RX3 yX3_isDone yX3_isDone ∈ KW := kw_of (i := 9) (by decide +kernel) rfl
set_option maxRecDepth 20000 in
theorem kw_10 : Cond.selects RX3 yX3_takeStates yX3_takeStates ∈ KW := kw_of (i := 10) (by decide +kernel) rfl
set_option maxRecDepth 20000 in
theorem kw_11 : Cond.selects RX7 yX7_isDone yX7_isDone ∈ KW := kw_of (i := 11) (by decide +kernel) rfl
set_option maxRecDepth 20000 in
theorem kw_12 : Cond.selects RX7 yX7_begin yX7_begin ∈ KW := kw_of (i := 12) (by decide +kernel) rfl
set_option maxRecDepth 20000 in
theorem kw_13 : Cond.selects RX7 yX7_sendAll yX7_sendAll ∈ KW := kw_of (i := 13) (by decide +kernel) rfl
set_option maxRecDepth 20000 in
theorem kw_14 : Cond.selects RX7 yX7_sendAlong yX7_sendAlong ∈ KW := kw_of (i := 14) (by decide +kernel) rfl
set_option maxRecDepth 20000 in
theorem kw_15 : Cond.selects RX7 yX7_askNodes yX7_askNodes ∈ KW := kw_of (i := 15) (by decide +kernel) rfl
set_option maxRecDepth 20000 in
theorem kw_16 : Cond.selects RX7 yX7_messagesTo yX7_messagesTo ∈ KW := kw_of (i := 16) (by decide +kernel) rfl
set_option maxRecDepth 20000 in
theorem kw_17 : Cond.selects RX7 yX7_askNode yX7_askNode ∈ KW := kw_of (i := 17) (by decide +kernel) rfl
set_option maxRecDepth 20000 in
theorem kw_18 : Cond.selects RX7 yX7_foldFor yX7_foldFor ∈ KW := kw_of (i := 18) (by decide +kernel) rfl
set_option maxRecDepth 20000 in
theorem kw_19 : Cond.selects RX7 yX7_foldTwo yX7_foldTwo ∈ KW := kw_of (i := 19) (by decide +kernel) rfl
set_option maxRecDepth 20000 in
theorem kw_20 : Cond.selects RX7 yX7_changeNodes yX7_changeNodes ∈ KW := kw_of (i := 20) (by decide +kernel) rfl
set_option maxRecDepth 20000 in
theorem kw_21 : Cond.selects RX7 yX7_sumParts yX7_sumParts ∈ KW := kw_of (i := 21) (by decide +kernel) rfl
set_option maxRecDepth 20000 in
theorem kw_22 : Cond.selects RX7 yX7_tellMessages yX7_tellMessages ∈ KW := kw_of (i := 22) (by decide +kernel) rfl
set_option maxRecDepth 20000 in
theorem kw_23 : Cond.selects RX12 yX12_clearFailed yX12_clearFailed ∈ KW := kw_of (i := 23) (by decide +kernel) rfl
set_option maxRecDepth 20000 in
theorem kw_24 : Cond.selects RX12 yX12_isTerm yX12_isTerm ∈ KW := kw_of (i := 24) (by decide +kernel) rfl
set_option maxRecDepth 20000 in
theorem kw_25 : Cond.selects RX12 yX12_isNode yX12_isNode ∈ KW := kw_of (i := 25) (by decide +kernel) rfl
set_option maxRecDepth 20000 in
theorem kw_26 : Cond.selects RX12 yX12_walk yX12_walk ∈ KW := kw_of (i := 26) (by decide +kernel) rfl
set_option maxRecDepth 20000 in
theorem kw_27 : Cond.selects RX12 yX12_remember yX12_remember ∈ KW := kw_of (i := 27) (by decide +kernel) rfl
set_option maxRecDepth 20000 in
theorem kw_28 : Cond.selects RX12 yX12_isFailed yX12_isFailed ∈ KW := kw_of (i := 28) (by decide +kernel) rfl
set_option maxRecDepth 20000 in
theorem kw_29 : Cond.selects RX12 yX12_sendsOn yX12_sendsOn ∈ KW := kw_of (i := 29) (by decide +kernel) rfl
set_option maxRecDepth 20000 in
theorem kw_30 : Cond.selects RX12 yX12_askArc yX12_askArc ∈ KW := kw_of (i := 30) (by decide +kernel) rfl
set_option maxRecDepth 20000 in
theorem kw_31 : Cond.selects RX12 yX12_does yX12_does ∈ KW := kw_of (i := 31) (by decide +kernel) rfl
set_option maxRecDepth 20000 in
theorem kw_32 : Cond.selects RX12 yX12_asked yX12_asked ∈ KW := kw_of (i := 32) (by decide +kernel) rfl
set_option maxRecDepth 20000 in
theorem kw_33 : Cond.selects RX12 yX12_push yX12_push ∈ KW := kw_of (i := 33) (by decide +kernel) rfl
set_option maxRecDepth 20000 in
theorem kw_34 : Cond.selects RX12 yX12_begins yX12_begins ∈ KW := kw_of (i := 34) (by decide +kernel) rfl
set_option maxRecDepth 20000 in
theorem kw_35 : Cond.selects RX12 yX12_arcsFrom yX12_arcsFrom ∈ KW := kw_of (i := 35) (by decide +kernel) rfl
set_option maxRecDepth 20000 in
theorem kw_36 : Cond.selects RX12 yX12_goesOn yX12_goesOn ∈ KW := kw_of (i := 36) (by decide +kernel) rfl
set_option maxRecDepth 20000 in
theorem kw_37 : Cond.selects RX12 yX12_joined yX12_joined ∈ KW := kw_of (i := 37) (by decide +kernel) rfl
set_option maxRecDepth 20000 in
theorem kw_38 : Cond.selects RX12 yX12_note yX12_note ∈ KW := kw_of (i := 38) (by decide +kernel) rfl
set_option maxRecDepth 20000 in
theorem kw_39 : Cond.selects RX12 yX12_takes yX12_takes ∈ KW := kw_of (i := 39) (by decide +kernel) rfl
set_option maxRecDepth 20000 in
theorem kw_40 : Cond.selects RX12 yX12_keep yX12_keep ∈ KW := kw_of (i := 40) (by decide +kernel) rfl
set_option maxRecDepth 20000 in
theorem kw_41 : Cond.selects RX12 yX12_isAnyAwake yX12_isAnyAwake ∈ KW := kw_of (i := 41) (by decide +kernel) rfl
set_option maxRecDepth 20000 in
theorem kw_42 : Cond.selects RX12 yX12_round yX12_round ∈ KW := kw_of (i := 42) (by decide +kernel) rfl
set_option maxRecDepth 20000 in
theorem kw_43 : Cond.selects RX12 yX12_sendAll yX12_sendAll ∈ KW := kw_of (i := 43) (by decide +kernel) rfl
set_option maxRecDepth 20000 in
theorem kw_44 : Cond.selects RX12 yX12_sendAlong yX12_sendAlong ∈ KW := kw_of (i := 44) (by decide +kernel) rfl
set_option maxRecDepth 20000 in
theorem kw_45 : Cond.selects RX12 yX12_isReached yX12_isReached ∈ KW := kw_of (i := 45) (by decide +kernel) rfl
set_option maxRecDepth 20000 in
theorem kw_46 : Cond.selects RX12 yX12_renew yX12_renew ∈ KW := kw_of (i := 46) (by decide +kernel) rfl
set_option maxRecDepth 20000 in
theorem kw_47 : Cond.selects RX12 yX12_foldFor yX12_foldFor ∈ KW := kw_of (i := 47) (by decide +kernel) rfl
set_option maxRecDepth 20000 in
theorem kw_48 : Cond.selects RX12 yX12_isOver yX12_isOver ∈ KW := kw_of (i := 48) (by decide +kernel) rfl
set_option maxRecDepth 20000 in
theorem kw_49 : Cond.selects RX12 yX12_asBefore yX12_asBefore ∈ KW := kw_of (i := 49) (by decide +kernel) rfl
set_option maxRecDepth 20000 in
theorem kw_50 : Cond.selects RX12 yX12_isArc yX12_isArc ∈ KW := kw_of (i := 50) (by decide +kernel) rfl
set_option maxRecDepth 20000 in
theorem kw_52 : Cond.initialized RX11 ∈ KW := kw_of (i := 52) (by decide +kernel) rfl
set_option maxRecDepth 20000 in
theorem kw_53 : Cond.initialized RX8 ∈ KW := kw_of (i := 53) (by decide +kernel) rfl
set_option maxRecDepth 20000 in
theorem kw_54 : Cond.initialized RX10 ∈ KW := kw_of (i := 54) (by decide +kernel) rfl
set_option maxRecDepth 20000 in
theorem kw_56 : Cond.initialized RX2 ∈ KW := kw_of (i := 56) (by decide +kernel) rfl
set_option maxRecDepth 20000 in
theorem kw_57 : Cond.initialized RX5 ∈ KW := kw_of (i := 57) (by decide +kernel) rfl
set_option maxRecDepth 20000 in
theorem kw_58 : Cond.initialized RX4 ∈ KW := kw_of (i := 58) (by decide +kernel) rfl
set_option maxRecDepth 20000 in
theorem kw_59 : Cond.initialized RX9 ∈ KW := kw_of (i := 59) (by decide +kernel) rfl
set_option maxRecDepth 20000 in
theorem kw_60 : Cond.initialized RX1 ∈ KW := kw_of (i := 60) (by decide +kernel) rfl
set_option maxRecDepth 20000 in
theorem kw_61 : Cond.initialized RX0 ∈ KW := kw_of (i := 61) (by decide +kernel) rfl
set_option maxRecDepth 20000 in
theorem kw_62 : Cond.initialized RX7 ∈ KW := kw_of (i := 62) (by decide +kernel) rfl
set_option maxRecDepth 20000 in
theorem kw_63 : Cond.initialized RX3 ∈ KW := kw_of (i := 63) (by decide +kernel) rfl
set_option maxRecDepth 20000 in
theorem kw_64 : Cond.initialized RX12 ∈ KW := kw_of (i := 64) (by decide +kernel) rfl
set_option maxRecDepth 20000 in
theorem kw_65 : Cond.initialized "java/lang/System" ∈ KW := kw_of (i := 65) (by decide +kernel) rfl
set_option maxRecDepth 20000 in
theorem kw_66 : Cond.initialized "java/lang/Math" ∈ KW := kw_of (i := 66) (by decide +kernel) rfl
set_option maxRecDepth 20000 in
theorem kw_81 : Cond.fieldLink RX8 9 "WalkedRounds$Terms" "kinds" "[I" ∈ KW := kw_of (i := 81) (by decide +kernel) rfl
set_option maxRecDepth 20000 in
theorem kw_82 : Cond.fieldLink RX1 44 "WalkedRounds$Terms" "kinds" "[I" ∈ KW := kw_of (i := 82) (by decide +kernel) rfl
set_option maxRecDepth 20000 in
theorem kw_83 : Cond.fieldLink RX8 15 "WalkedRounds$Terms" "partA" "[I" ∈ KW := kw_of (i := 83) (by decide +kernel) rfl
set_option maxRecDepth 20000 in
theorem kw_84 : Cond.fieldLink RX1 54 "WalkedRounds$Terms" "partA" "[I" ∈ KW := kw_of (i := 84) (by decide +kernel) rfl
set_option maxRecDepth 20000 in
theorem kw_85 : Cond.fieldLink RX8 18 "WalkedRounds$Terms" "partB" "[I" ∈ KW := kw_of (i := 85) (by decide +kernel) rfl
set_option maxRecDepth 20000 in
theorem kw_86 : Cond.fieldLink RX1 65 "WalkedRounds$Terms" "partB" "[I" ∈ KW := kw_of (i := 86) (by decide +kernel) rfl
set_option maxRecDepth 20000 in
theorem kw_87 : Cond.fieldLink RX8 21 "WalkedRounds$Terms" "partC" "[I" ∈ KW := kw_of (i := 87) (by decide +kernel) rfl
set_option maxRecDepth 20000 in
theorem kw_88 : Cond.fieldLink RX1 68 "WalkedRounds$Terms" "partC" "[I" ∈ KW := kw_of (i := 88) (by decide +kernel) rfl
set_option maxRecDepth 20000 in
theorem kw_89 : Cond.fieldLink RX8 24 "WalkedRounds$Terms" "numbers" "[J" ∈ KW := kw_of (i := 89) (by decide +kernel) rfl
set_option maxRecDepth 20000 in
theorem kw_90 : Cond.fieldLink RX1 81 "WalkedRounds$Terms" "numbers" "[J" ∈ KW := kw_of (i := 90) (by decide +kernel) rfl
set_option maxRecDepth 20000 in
theorem kw_91 : Cond.fieldLink RX8 28 "WalkedRounds$Terms" "size" "I" ∈ KW := kw_of (i := 91) (by decide +kernel) rfl
set_option maxRecDepth 20000 in
theorem kw_92 : Cond.fieldLink RX11 175 "WalkedRounds$Terms" "size" "I" ∈ KW := kw_of (i := 92) (by decide +kernel) rfl
set_option maxRecDepth 20000 in
theorem kw_115 : Cond.fieldLink RX4 19 "WalkedRounds$Web" "states" "[J" ∈ KW := kw_of (i := 115) (by decide +kernel) rfl
set_option maxRecDepth 20000 in
theorem kw_116 : Cond.fieldLink RX11 109 "WalkedRounds$Web" "states" "[J" ∈ KW := kw_of (i := 116) (by decide +kernel) rfl
set_option maxRecDepth 20000 in
theorem kw_117 : Cond.fieldLink RX1 75 "WalkedRounds$Web" "states" "[J" ∈ KW := kw_of (i := 117) (by decide +kernel) rfl
set_option maxRecDepth 20000 in
theorem kw_118 : Cond.fieldLink RX3 132 "WalkedRounds$Web" "states" "[J" ∈ KW := kw_of (i := 118) (by decide +kernel) rfl
set_option maxRecDepth 20000 in
theorem kw_119 : Cond.fieldLink RX7 156 "WalkedRounds$Web" "states" "[J" ∈ KW := kw_of (i := 119) (by decide +kernel) rfl
set_option maxRecDepth 20000 in
theorem kw_120 : Cond.fieldLink RX10 15 "WalkedRounds$Web" "awake" "[Z" ∈ KW := kw_of (i := 120) (by decide +kernel) rfl
set_option maxRecDepth 20000 in
theorem kw_121 : Cond.fieldLink RX4 28 "WalkedRounds$Web" "awake" "[Z" ∈ KW := kw_of (i := 121) (by decide +kernel) rfl
set_option maxRecDepth 20000 in
theorem kw_122 : Cond.fieldLink RX3 101 "WalkedRounds$Web" "awake" "[Z" ∈ KW := kw_of (i := 122) (by decide +kernel) rfl
set_option maxRecDepth 20000 in
theorem kw_123 : Cond.fieldLink RX7 129 "WalkedRounds$Web" "awake" "[Z" ∈ KW := kw_of (i := 123) (by decide +kernel) rfl
set_option maxRecDepth 20000 in
theorem kw_124 : Cond.fieldLink RX11 113 "WalkedRounds$Web" "awake" "[Z" ∈ KW := kw_of (i := 124) (by decide +kernel) rfl
set_option maxRecDepth 20000 in
theorem kw_125 : Cond.fieldLink RX10 19 "WalkedRounds$Web" "degrees" "[I" ∈ KW := kw_of (i := 125) (by decide +kernel) rfl
set_option maxRecDepth 20000 in
theorem kw_126 : Cond.fieldLink RX1 90 "WalkedRounds$Web" "degrees" "[I" ∈ KW := kw_of (i := 126) (by decide +kernel) rfl
set_option maxRecDepth 20000 in
theorem kw_127 : Cond.fieldLink RX10 23 "WalkedRounds$Web" "from" "[I" ∈ KW := kw_of (i := 127) (by decide +kernel) rfl
set_option maxRecDepth 20000 in
theorem kw_128 : Cond.fieldLink RX3 111 "WalkedRounds$Web" "from" "[I" ∈ KW := kw_of (i := 128) (by decide +kernel) rfl
set_option maxRecDepth 20000 in
theorem kw_129 : Cond.fieldLink RX7 120 "WalkedRounds$Web" "from" "[I" ∈ KW := kw_of (i := 129) (by decide +kernel) rfl
set_option maxRecDepth 20000 in
theorem kw_130 : Cond.fieldLink RX10 26 "WalkedRounds$Web" "to" "[I" ∈ KW := kw_of (i := 130) (by decide +kernel) rfl
set_option maxRecDepth 20000 in
theorem kw_131 : Cond.fieldLink RX7 117 "WalkedRounds$Web" "to" "[I" ∈ KW := kw_of (i := 131) (by decide +kernel) rfl
set_option maxRecDepth 20000 in
theorem kw_132 : Cond.fieldLink RX3 129 "WalkedRounds$Web" "to" "[I" ∈ KW := kw_of (i := 132) (by decide +kernel) rfl
set_option maxRecDepth 20000 in
theorem kw_133 : Cond.fieldLink RX10 29 "WalkedRounds$Web" "weights" "[J" ∈ KW := kw_of (i := 133) (by decide +kernel) rfl
set_option maxRecDepth 20000 in
theorem kw_134 : Cond.fieldLink RX1 84 "WalkedRounds$Web" "weights" "[J" ∈ KW := kw_of (i := 134) (by decide +kernel) rfl
set_option maxRecDepth 20000 in
theorem kw_135 : Cond.fieldLink RX10 32 "WalkedRounds$Web" "nodes" "I" ∈ KW := kw_of (i := 135) (by decide +kernel) rfl
set_option maxRecDepth 20000 in
theorem kw_136 : Cond.fieldLink RX3 96 "WalkedRounds$Web" "nodes" "I" ∈ KW := kw_of (i := 136) (by decide +kernel) rfl
set_option maxRecDepth 20000 in
theorem kw_137 : Cond.fieldLink RX7 123 "WalkedRounds$Web" "nodes" "I" ∈ KW := kw_of (i := 137) (by decide +kernel) rfl
set_option maxRecDepth 20000 in
theorem kw_138 : Cond.fieldLink RX11 178 "WalkedRounds$Web" "nodes" "I" ∈ KW := kw_of (i := 138) (by decide +kernel) rfl
set_option maxRecDepth 20000 in
theorem kw_139 : Cond.fieldLink RX10 36 "WalkedRounds$Web" "arcs" "I" ∈ KW := kw_of (i := 139) (by decide +kernel) rfl
set_option maxRecDepth 20000 in
theorem kw_140 : Cond.fieldLink RX3 109 "WalkedRounds$Web" "arcs" "I" ∈ KW := kw_of (i := 140) (by decide +kernel) rfl
set_option maxRecDepth 20000 in
theorem kw_141 : Cond.fieldLink RX7 126 "WalkedRounds$Web" "arcs" "I" ∈ KW := kw_of (i := 141) (by decide +kernel) rfl
set_option maxRecDepth 20000 in
theorem kw_142 : Cond.fieldLink RX11 181 "WalkedRounds$Web" "arcs" "I" ∈ KW := kw_of (i := 142) (by decide +kernel) rfl
set_option maxRecDepth 20000 in
theorem kw_143 : Cond.fieldLink RX4 29 "WalkedRounds$Web" "rounds" "I" ∈ KW := kw_of (i := 143) (by decide +kernel) rfl
set_option maxRecDepth 20000 in
theorem kw_144 : Cond.fieldLink RX0 43 "WalkedRounds$Web" "rounds" "I" ∈ KW := kw_of (i := 144) (by decide +kernel) rfl
set_option maxRecDepth 20000 in
theorem kw_145 : Cond.fieldLink RX7 97 "WalkedRounds$Web" "rounds" "I" ∈ KW := kw_of (i := 145) (by decide +kernel) rfl
set_option maxRecDepth 20000 in
theorem kw_146 : Cond.fieldLink RX3 122 "WalkedRounds$Web" "rounds" "I" ∈ KW := kw_of (i := 146) (by decide +kernel) rfl
set_option maxRecDepth 20000 in
theorem kw_147 : Cond.fieldLink RX1 87 "WalkedRounds$Web" "rounds" "I" ∈ KW := kw_of (i := 147) (by decide +kernel) rfl
set_option maxRecDepth 20000 in
theorem kw_148 : Cond.fieldLink RX11 183 "WalkedRounds$Web" "rounds" "I" ∈ KW := kw_of (i := 148) (by decide +kernel) rfl
set_option maxRecDepth 20000 in
theorem kw_149 : Cond.fieldLink RX4 34 "WalkedRounds$Web" "sum" "J" ∈ KW := kw_of (i := 149) (by decide +kernel) rfl
set_option maxRecDepth 20000 in
theorem kw_150 : Cond.fieldLink RX1 93 "WalkedRounds$Web" "sum" "J" ∈ KW := kw_of (i := 150) (by decide +kernel) rfl
set_option maxRecDepth 20000 in
theorem kw_151 : Cond.fieldLink RX7 191 "WalkedRounds$Web" "sum" "J" ∈ KW := kw_of (i := 151) (by decide +kernel) rfl
set_option maxRecDepth 20000 in
theorem kw_152 : Cond.fieldLink RX11 164 "WalkedRounds$Web" "sum" "J" ∈ KW := kw_of (i := 152) (by decide +kernel) rfl
set_option maxRecDepth 20000 in
theorem kw_182 : Cond.fieldLink RX0 27 "WalkedRounds$Program" "acts" "[I" ∈ KW := kw_of (i := 182) (by decide +kernel) rfl
set_option maxRecDepth 20000 in
theorem kw_183 : Cond.fieldLink RX11 120 "WalkedRounds$Program" "acts" "[I" ∈ KW := kw_of (i := 183) (by decide +kernel) rfl
set_option maxRecDepth 20000 in
theorem kw_184 : Cond.fieldLink RX11 124 "WalkedRounds$Program" "foldSort" "I" ∈ KW := kw_of (i := 184) (by decide +kernel) rfl
set_option maxRecDepth 20000 in
theorem kw_185 : Cond.fieldLink RX7 167 "WalkedRounds$Program" "foldSort" "I" ∈ KW := kw_of (i := 185) (by decide +kernel) rfl
set_option maxRecDepth 20000 in
theorem kw_197 : Cond.fieldLink RX2 9 "WalkedRounds$Failure" "sort" "I" ∈ KW := kw_of (i := 197) (by decide +kernel) rfl
set_option maxRecDepth 20000 in
theorem kw_198 : Cond.fieldLink RX2 15 "WalkedRounds$Failure" "act" "I" ∈ KW := kw_of (i := 198) (by decide +kernel) rfl
set_option maxRecDepth 20000 in
theorem kw_199 : Cond.fieldLink RX2 18 "WalkedRounds$Failure" "node" "I" ∈ KW := kw_of (i := 199) (by decide +kernel) rfl
set_option maxRecDepth 20000 in
theorem kw_200 : Cond.fieldLink RX2 21 "WalkedRounds$Failure" "arc" "I" ∈ KW := kw_of (i := 200) (by decide +kernel) rfl
set_option maxRecDepth 20000 in
theorem kw_201 : Cond.fieldLink RX2 24 "WalkedRounds$Failure" "round" "I" ∈ KW := kw_of (i := 201) (by decide +kernel) rfl
set_option maxRecDepth 20000 in
theorem kw_226 : Cond.fieldLink RX4 9 "WalkedRounds$Memory" "states" "[J" ∈ KW := kw_of (i := 226) (by decide +kernel) rfl
set_option maxRecDepth 20000 in
theorem kw_227 : Cond.fieldLink RX4 15 "WalkedRounds$Memory" "awake" "[Z" ∈ KW := kw_of (i := 227) (by decide +kernel) rfl
set_option maxRecDepth 20000 in
theorem kw_228 : Cond.fieldLink RX4 33 "WalkedRounds$Memory" "rounds" "I" ∈ KW := kw_of (i := 228) (by decide +kernel) rfl
set_option maxRecDepth 20000 in
theorem kw_229 : Cond.fieldLink RX4 38 "WalkedRounds$Memory" "sum" "J" ∈ KW := kw_of (i := 229) (by decide +kernel) rfl
set_option maxRecDepth 20000 in
theorem kw_239 : Cond.fieldLink RX5 13 "WalkedRounds$Past" "ring" "[LWalkedRounds$Memory;" ∈ KW := kw_of (i := 239) (by decide +kernel) rfl
set_option maxRecDepth 20000 in
theorem kw_240 : Cond.fieldLink RX5 18 "WalkedRounds$Past" "next" "I" ∈ KW := kw_of (i := 240) (by decide +kernel) rfl
set_option maxRecDepth 20000 in
theorem kw_241 : Cond.fieldLink RX5 29 "WalkedRounds$Past" "kept" "I" ∈ KW := kw_of (i := 241) (by decide +kernel) rfl
set_option maxRecDepth 20000 in
theorem kw_242 : Cond.fieldLink RX11 193 "WalkedRounds$Past" "kept" "I" ∈ KW := kw_of (i := 242) (by decide +kernel) rfl
set_option maxRecDepth 20000 in
theorem kw_256 : Cond.fieldLink RX9 9 "WalkedRounds$Told" "arcs" "[I" ∈ KW := kw_of (i := 256) (by decide +kernel) rfl
set_option maxRecDepth 20000 in
theorem kw_257 : Cond.fieldLink RX11 169 "WalkedRounds$Told" "arcs" "[I" ∈ KW := kw_of (i := 257) (by decide +kernel) rfl
set_option maxRecDepth 20000 in
theorem kw_258 : Cond.fieldLink RX9 15 "WalkedRounds$Told" "values" "[J" ∈ KW := kw_of (i := 258) (by decide +kernel) rfl
set_option maxRecDepth 20000 in
theorem kw_259 : Cond.fieldLink RX11 172 "WalkedRounds$Told" "values" "[J" ∈ KW := kw_of (i := 259) (by decide +kernel) rfl
set_option maxRecDepth 20000 in
theorem kw_260 : Cond.fieldLink RX9 19 "WalkedRounds$Told" "size" "I" ∈ KW := kw_of (i := 260) (by decide +kernel) rfl
set_option maxRecDepth 20000 in
theorem kw_261 : Cond.fieldLink RX11 192 "WalkedRounds$Told" "size" "I" ∈ KW := kw_of (i := 261) (by decide +kernel) rfl
set_option maxRecDepth 20000 in
theorem kw_275 : Cond.fieldLink RX1 9 "WalkedRounds$Asker" "terms" "LWalkedRounds$Terms;" ∈ KW := kw_of (i := 275) (by decide +kernel) rfl
set_option maxRecDepth 20000 in
theorem kw_276 : Cond.fieldLink RX1 15 "WalkedRounds$Asker" "web" "LWalkedRounds$Web;" ∈ KW := kw_of (i := 276) (by decide +kernel) rfl
set_option maxRecDepth 20000 in
theorem kw_277 : Cond.fieldLink RX1 34 "WalkedRounds$Asker" "foldedMessages" "I" ∈ KW := kw_of (i := 277) (by decide +kernel) rfl
set_option maxRecDepth 20000 in
theorem kw_278 : Cond.fieldLink RX1 19 "WalkedRounds$Asker" "steps" "I" ∈ KW := kw_of (i := 278) (by decide +kernel) rfl
set_option maxRecDepth 20000 in
theorem kw_279 : Cond.fieldLink RX1 30 "WalkedRounds$Asker" "foldedValue" "J" ∈ KW := kw_of (i := 279) (by decide +kernel) rfl
set_option maxRecDepth 20000 in
theorem kw_280 : Cond.fieldLink RX1 23 "WalkedRounds$Asker" "fault" "I" ∈ KW := kw_of (i := 280) (by decide +kernel) rfl
set_option maxRecDepth 20000 in
theorem kw_281 : Cond.fieldLink RX0 39 "WalkedRounds$Asker" "fault" "I" ∈ KW := kw_of (i := 281) (by decide +kernel) rfl
set_option maxRecDepth 20000 in
theorem kw_282 : Cond.fieldLink RX11 159 "WalkedRounds$Asker" "fault" "I" ∈ KW := kw_of (i := 282) (by decide +kernel) rfl
set_option maxRecDepth 20000 in
theorem kw_283 : Cond.fieldLink RX1 41 "WalkedRounds$Asker" "allSteps" "I" ∈ KW := kw_of (i := 283) (by decide +kernel) rfl
set_option maxRecDepth 20000 in
theorem kw_284 : Cond.fieldLink RX11 189 "WalkedRounds$Asker" "allSteps" "I" ∈ KW := kw_of (i := 284) (by decide +kernel) rfl
set_option maxRecDepth 20000 in
theorem kw_306 : Cond.fieldLink RX0 9 "WalkedRounds$Actor" "web" "LWalkedRounds$Web;" ∈ KW := kw_of (i := 306) (by decide +kernel) rfl
set_option maxRecDepth 20000 in
theorem kw_309 : Cond.fieldLink RX0 15 "WalkedRounds$Actor" "program" "LWalkedRounds$Program;" ∈ KW := kw_of (i := 309) (by decide +kernel) rfl
set_option maxRecDepth 20000 in
theorem kw_310 : Cond.fieldLink RX7 163 "WalkedRounds$Actor" "program" "LWalkedRounds$Program;" ∈ KW := kw_of (i := 310) (by decide +kernel) rfl
set_option maxRecDepth 20000 in
theorem kw_311 : Cond.fieldLink RX0 19 "WalkedRounds$Actor" "asker" "LWalkedRounds$Asker;" ∈ KW := kw_of (i := 311) (by decide +kernel) rfl
set_option maxRecDepth 20000 in
theorem kw_312 : Cond.fieldLink RX3 55 "WalkedRounds$Actor" "asker" "LWalkedRounds$Asker;" ∈ KW := kw_of (i := 312) (by decide +kernel) rfl
set_option maxRecDepth 20000 in
theorem kw_313 : Cond.fieldLink RX7 107 "WalkedRounds$Actor" "asker" "LWalkedRounds$Asker;" ∈ KW := kw_of (i := 313) (by decide +kernel) rfl
set_option maxRecDepth 20000 in
theorem kw_314 : Cond.fieldLink RX0 23 "WalkedRounds$Actor" "failure" "LWalkedRounds$Failure;" ∈ KW := kw_of (i := 314) (by decide +kernel) rfl
set_option maxRecDepth 20000 in
theorem kw_332 : Cond.fieldLink RX7 38 "WalkedRounds$RoundWalk" "web" "LWalkedRounds$Web;" ∈ KW := kw_of (i := 332) (by decide +kernel) rfl
set_option maxRecDepth 20000 in
theorem kw_333 : Cond.fieldLink RX7 39 "WalkedRounds$RoundWalk" "actor" "LWalkedRounds$Actor;" ∈ KW := kw_of (i := 333) (by decide +kernel) rfl
set_option maxRecDepth 20000 in
theorem kw_334 : Cond.fieldLink RX7 47 "WalkedRounds$RoundWalk" "failure" "LWalkedRounds$Failure;" ∈ KW := kw_of (i := 334) (by decide +kernel) rfl
set_option maxRecDepth 20000 in
theorem kw_335 : Cond.fieldLink RX7 48 "WalkedRounds$RoundWalk" "past" "LWalkedRounds$Past;" ∈ KW := kw_of (i := 335) (by decide +kernel) rfl
set_option maxRecDepth 20000 in
theorem kw_336 : Cond.fieldLink RX7 52 "WalkedRounds$RoundWalk" "told" "LWalkedRounds$Told;" ∈ KW := kw_of (i := 336) (by decide +kernel) rfl
set_option maxRecDepth 20000 in
theorem kw_337 : Cond.fieldLink RX7 9 "WalkedRounds$RoundWalk" "sentArcs" "[I" ∈ KW := kw_of (i := 337) (by decide +kernel) rfl
set_option maxRecDepth 20000 in
theorem kw_338 : Cond.fieldLink RX7 15 "WalkedRounds$RoundWalk" "carries" "[Z" ∈ KW := kw_of (i := 338) (by decide +kernel) rfl
set_option maxRecDepth 20000 in
theorem kw_339 : Cond.fieldLink RX7 19 "WalkedRounds$RoundWalk" "carried" "[J" ∈ KW := kw_of (i := 339) (by decide +kernel) rfl
set_option maxRecDepth 20000 in
theorem kw_340 : Cond.fieldLink RX7 23 "WalkedRounds$RoundWalk" "reached" "[Z" ∈ KW := kw_of (i := 340) (by decide +kernel) rfl
set_option maxRecDepth 20000 in
theorem kw_341 : Cond.fieldLink RX7 26 "WalkedRounds$RoundWalk" "halting" "[Z" ∈ KW := kw_of (i := 341) (by decide +kernel) rfl
set_option maxRecDepth 20000 in
theorem kw_342 : Cond.fieldLink RX7 29 "WalkedRounds$RoundWalk" "newStates" "[J" ∈ KW := kw_of (i := 342) (by decide +kernel) rfl
set_option maxRecDepth 20000 in
theorem kw_343 : Cond.fieldLink RX7 114 "WalkedRounds$RoundWalk" "sent" "I" ∈ KW := kw_of (i := 343) (by decide +kernel) rfl
set_option maxRecDepth 20000 in
theorem kw_375 : Cond.fieldLink RX3 31 "WalkedRounds$LineWalk" "web" "LWalkedRounds$Web;" ∈ KW := kw_of (i := 375) (by decide +kernel) rfl
set_option maxRecDepth 20000 in
theorem kw_376 : Cond.fieldLink RX3 32 "WalkedRounds$LineWalk" "actor" "LWalkedRounds$Actor;" ∈ KW := kw_of (i := 376) (by decide +kernel) rfl
set_option maxRecDepth 20000 in
theorem kw_377 : Cond.fieldLink RX3 40 "WalkedRounds$LineWalk" "failure" "LWalkedRounds$Failure;" ∈ KW := kw_of (i := 377) (by decide +kernel) rfl
set_option maxRecDepth 20000 in
theorem kw_378 : Cond.fieldLink RX3 41 "WalkedRounds$LineWalk" "past" "LWalkedRounds$Past;" ∈ KW := kw_of (i := 378) (by decide +kernel) rfl
set_option maxRecDepth 20000 in
theorem kw_379 : Cond.fieldLink RX3 45 "WalkedRounds$LineWalk" "told" "LWalkedRounds$Told;" ∈ KW := kw_of (i := 379) (by decide +kernel) rfl
set_option maxRecDepth 20000 in
theorem kw_380 : Cond.fieldLink RX3 9 "WalkedRounds$LineWalk" "arcs" "[I" ∈ KW := kw_of (i := 380) (by decide +kernel) rfl
set_option maxRecDepth 20000 in
theorem kw_381 : Cond.fieldLink RX3 15 "WalkedRounds$LineWalk" "values" "[J" ∈ KW := kw_of (i := 381) (by decide +kernel) rfl
set_option maxRecDepth 20000 in
theorem kw_382 : Cond.fieldLink RX3 19 "WalkedRounds$LineWalk" "newStates" "[J" ∈ KW := kw_of (i := 382) (by decide +kernel) rfl
set_option maxRecDepth 20000 in
theorem kw_383 : Cond.fieldLink RX3 22 "WalkedRounds$LineWalk" "oldStates" "[J" ∈ KW := kw_of (i := 383) (by decide +kernel) rfl
set_option maxRecDepth 20000 in
theorem kw_384 : Cond.fieldLink RX3 64 "WalkedRounds$LineWalk" "first" "I" ∈ KW := kw_of (i := 384) (by decide +kernel) rfl
set_option maxRecDepth 20000 in
theorem kw_385 : Cond.fieldLink RX3 68 "WalkedRounds$LineWalk" "size" "I" ∈ KW := kw_of (i := 385) (by decide +kernel) rfl
set_option maxRecDepth 20000 in
theorem kw_409 : Cond.fieldLink RX11 10 "WalkedRounds" "terms" "LWalkedRounds$Terms;" ∈ KW := kw_of (i := 409) (by decide +kernel) rfl
set_option maxRecDepth 20000 in
theorem kw_410 : Cond.fieldLink RX11 19 "WalkedRounds" "web" "LWalkedRounds$Web;" ∈ KW := kw_of (i := 410) (by decide +kernel) rfl
set_option maxRecDepth 20000 in
theorem kw_411 : Cond.fieldLink RX11 26 "WalkedRounds" "program" "LWalkedRounds$Program;" ∈ KW := kw_of (i := 411) (by decide +kernel) rfl
set_option maxRecDepth 20000 in
theorem kw_412 : Cond.fieldLink RX11 33 "WalkedRounds" "failure" "LWalkedRounds$Failure;" ∈ KW := kw_of (i := 412) (by decide +kernel) rfl
set_option maxRecDepth 20000 in
theorem kw_413 : Cond.fieldLink RX11 40 "WalkedRounds" "past" "LWalkedRounds$Past;" ∈ KW := kw_of (i := 413) (by decide +kernel) rfl
set_option maxRecDepth 20000 in
theorem kw_414 : Cond.fieldLink RX11 47 "WalkedRounds" "told" "LWalkedRounds$Told;" ∈ KW := kw_of (i := 414) (by decide +kernel) rfl
set_option maxRecDepth 20000 in
theorem kw_415 : Cond.fieldLink RX11 56 "WalkedRounds" "asker" "LWalkedRounds$Asker;" ∈ KW := kw_of (i := 415) (by decide +kernel) rfl
set_option maxRecDepth 20000 in
theorem kw_417 : Cond.fieldLink RX11 74 "WalkedRounds" "roundWalk" "LWalkedRounds$RoundWalk;" ∈ KW := kw_of (i := 417) (by decide +kernel) rfl
set_option maxRecDepth 20000 in
theorem kw_418 : Cond.fieldLink RX11 81 "WalkedRounds" "lineWalk" "LWalkedRounds$LineWalk;" ∈ KW := kw_of (i := 418) (by decide +kernel) rfl
set_option maxRecDepth 20000 in
theorem kw_419 : Cond.fieldLink RX11 144 "WalkedRounds" "whyAsked" "I" ∈ KW := kw_of (i := 419) (by decide +kernel) rfl
set_option maxRecDepth 20000 in
theorem kw_447 : Cond.methodLink RX11 85 yX8_add ∈ KW := kw_of (i := 447) (by decide +kernel) rfl
set_option maxRecDepth 20000 in
theorem kw_448 : Cond.instanceMethod yX8_add ∈ KW := kw_of (i := 448) (by decide +kernel) rfl
set_option maxRecDepth 20000 in
theorem kw_449 : Cond.selects RX8 yX8_add yX8_add ∈ KW := kw_of (i := 449) (by decide +kernel) rfl
set_option maxRecDepth 20000 in
theorem kw_450 : Cond.code yX8_add cX8_add 8 (some .int) ∈ KW := kw_of (i := 450) rfl rfl
set_option maxRecDepth 20000 in
theorem kw_451 : Cond.methodLink RX8 32 yX8_partsOf ∈ KW := kw_of (i := 451) (by decide +kernel) rfl
set_option maxRecDepth 20000 in
theorem kw_452 : Cond.static yX8_partsOf ∈ KW := kw_of (i := 452) (by decide +kernel) rfl
set_option maxRecDepth 20000 in
theorem kw_453 : Cond.code yX8_partsOf cX8_partsOf 1 (some .int) ∈ KW := kw_of (i := 453) rfl rfl
set_option maxRecDepth 20000 in
theorem kw_454 : Cond.methodLink RX8 36 yX8_has ∈ KW := kw_of (i := 454) (by decide +kernel) rfl
set_option maxRecDepth 20000 in
theorem kw_455 : Cond.instanceMethod yX8_has ∈ KW := kw_of (i := 455) (by decide +kernel) rfl
set_option maxRecDepth 20000 in
theorem kw_456 : Cond.selects RX8 yX8_has yX8_has ∈ KW := kw_of (i := 456) (by decide +kernel) rfl
set_option maxRecDepth 20000 in
theorem kw_457 : Cond.code yX8_has cX8_has 2 (some .boolean) ∈ KW := kw_of (i := 457) rfl rfl
set_option maxRecDepth 20000 in
theorem nw_458 : Cond.methodLinkNest RX8 40 yX11_isState "WalkedRounds" ∈ NW := nw_of (i := 458) (by decide +kernel) rfl
set_option maxRecDepth 20000 in
theorem kw_459 : Cond.static yX11_isState ∈ KW := kw_of (i := 459) (by decide +kernel) rfl
set_option maxRecDepth 20000 in
theorem kw_460 : Cond.code yX11_isState cX11_isState 2 (some .boolean) ∈ KW := kw_of (i := 460) rfl rfl
set_option maxRecDepth 20000 in
theorem kw_461 : Cond.constantLong RX11 196 3 ∈ KW := kw_of (i := 461) (by decide +kernel) rfl
set_option maxRecDepth 20000 in
theorem kw_466 : Cond.methodLink RX11 89 yX10_addNode ∈ KW := kw_of (i := 466) (by decide +kernel) rfl
set_option maxRecDepth 20000 in
theorem kw_467 : Cond.instanceMethod yX10_addNode ∈ KW := kw_of (i := 467) (by decide +kernel) rfl
set_option maxRecDepth 20000 in
theorem kw_468 : Cond.selects RX10 yX10_addNode yX10_addNode ∈ KW := kw_of (i := 468) (by decide +kernel) rfl
set_option maxRecDepth 20000 in
theorem kw_469 : Cond.code yX10_addNode cX10_addNode 1 (some .int) ∈ KW := kw_of (i := 469) rfl rfl
set_option maxRecDepth 20000 in
theorem kw_470 : Cond.methodLink RX11 93 yX11_changed ∈ KW := kw_of (i := 470) (by decide +kernel) rfl
set_option maxRecDepth 20000 in
theorem kw_472 : Cond.instanceMethod yX11_changed ∈ KW := kw_of (i := 472) (by decide +kernel) rfl
set_option maxRecDepth 20000 in
theorem kw_473 : Cond.code yX11_changed cX11_changed 2 (some .int) ∈ KW := kw_of (i := 473) rfl rfl
set_option maxRecDepth 20000 in
theorem kw_474 : Cond.methodLink RX11 198 yX5_forget ∈ KW := kw_of (i := 474) (by decide +kernel) rfl
set_option maxRecDepth 20000 in
theorem kw_475 : Cond.instanceMethod yX5_forget ∈ KW := kw_of (i := 475) (by decide +kernel) rfl
set_option maxRecDepth 20000 in
theorem kw_476 : Cond.selects RX5 yX5_forget yX5_forget ∈ KW := kw_of (i := 476) (by decide +kernel) rfl
set_option maxRecDepth 20000 in
theorem kw_477 : Cond.code yX5_forget cX5_forget 1 none ∈ KW := kw_of (i := 477) rfl rfl
set_option maxRecDepth 20000 in
theorem kw_482 : Cond.methodLink RX11 97 yX10_addArc ∈ KW := kw_of (i := 482) (by decide +kernel) rfl
set_option maxRecDepth 20000 in
theorem kw_483 : Cond.instanceMethod yX10_addArc ∈ KW := kw_of (i := 483) (by decide +kernel) rfl
set_option maxRecDepth 20000 in
theorem kw_484 : Cond.selects RX10 yX10_addArc yX10_addArc ∈ KW := kw_of (i := 484) (by decide +kernel) rfl
set_option maxRecDepth 20000 in
theorem kw_485 : Cond.code yX10_addArc cX10_addArc 5 (some .int) ∈ KW := kw_of (i := 485) rfl rfl
set_option maxRecDepth 20000 in
theorem kw_486 : Cond.methodLink RX10 39 yX10_hasNode ∈ KW := kw_of (i := 486) (by decide +kernel) rfl
set_option maxRecDepth 20000 in
theorem kw_487 : Cond.instanceMethod yX10_hasNode ∈ KW := kw_of (i := 487) (by decide +kernel) rfl
set_option maxRecDepth 20000 in
theorem kw_488 : Cond.selects RX10 yX10_hasNode yX10_hasNode ∈ KW := kw_of (i := 488) (by decide +kernel) rfl
set_option maxRecDepth 20000 in
theorem kw_489 : Cond.code yX10_hasNode cX10_hasNode 2 (some .boolean) ∈ KW := kw_of (i := 489) rfl rfl
set_option maxRecDepth 20000 in
theorem kw_494 : Cond.methodLink RX11 101 yX10_hasNode ∈ KW := kw_of (i := 494) (by decide +kernel) rfl
set_option maxRecDepth 20000 in
theorem kw_495 : Cond.methodLink RX11 105 yX11_isState ∈ KW := kw_of (i := 495) (by decide +kernel) rfl
set_option maxRecDepth 20000 in
theorem kw_504 : Cond.methodLink RX11 117 yX8_has ∈ KW := kw_of (i := 504) (by decide +kernel) rfl
set_option maxRecDepth 20000 in
theorem kw_513 : Cond.methodLink RX11 128 yX2_clear ∈ KW := kw_of (i := 513) (by decide +kernel) rfl
set_option maxRecDepth 20000 in
theorem kw_514 : Cond.instanceMethod yX2_clear ∈ KW := kw_of (i := 514) (by decide +kernel) rfl
set_option maxRecDepth 20000 in
theorem kw_515 : Cond.selects RX2 yX2_clear yX2_clear ∈ KW := kw_of (i := 515) (by decide +kernel) rfl
set_option maxRecDepth 20000 in
theorem kw_516 : Cond.code yX2_clear cX2_clear 1 none ∈ KW := kw_of (i := 516) rfl rfl
set_option maxRecDepth 20000 in
theorem kw_517 : Cond.methodLink RX11 131 yX3_walk ∈ KW := kw_of (i := 517) (by decide +kernel) rfl
set_option maxRecDepth 20000 in
theorem kw_518 : Cond.instanceMethod yX3_walk ∈ KW := kw_of (i := 518) (by decide +kernel) rfl
set_option maxRecDepth 20000 in
theorem kw_519 : Cond.selects RX3 yX3_walk yX3_walk ∈ KW := kw_of (i := 519) (by decide +kernel) rfl
set_option maxRecDepth 20000 in
theorem kw_520 : Cond.code yX3_walk cX3_walk 6 (some .int) ∈ KW := kw_of (i := 520) rfl rfl
set_option maxRecDepth 20000 in
theorem kw_521 : Cond.methodLink RX3 49 yX5_mark ∈ KW := kw_of (i := 521) (by decide +kernel) rfl
set_option maxRecDepth 20000 in
theorem kw_522 : Cond.instanceMethod yX5_mark ∈ KW := kw_of (i := 522) (by decide +kernel) rfl
set_option maxRecDepth 20000 in
theorem kw_523 : Cond.selects RX5 yX5_mark yX5_mark ∈ KW := kw_of (i := 523) (by decide +kernel) rfl
set_option maxRecDepth 20000 in
theorem kw_524 : Cond.code yX5_mark cX5_mark 2 none ∈ KW := kw_of (i := 524) rfl rfl
set_option maxRecDepth 20000 in
theorem kw_525 : Cond.methodLink RX5 22 yX4_take ∈ KW := kw_of (i := 525) (by decide +kernel) rfl
set_option maxRecDepth 20000 in
theorem kw_526 : Cond.instanceMethod yX4_take ∈ KW := kw_of (i := 526) (by decide +kernel) rfl
set_option maxRecDepth 20000 in
theorem kw_527 : Cond.selects RX4 yX4_take yX4_take ∈ KW := kw_of (i := 527) (by decide +kernel) rfl
set_option maxRecDepth 20000 in
theorem kw_528 : Cond.code yX4_take cX4_take 2 none ∈ KW := kw_of (i := 528) rfl rfl
set_option maxRecDepth 20000 in
theorem kw_529 : Cond.methodLink RX4 22 arraycopyName ∈ KW := kw_of (i := 529) (by decide +kernel) rfl
set_option maxRecDepth 20000 in
theorem kw_530 : Cond.static arraycopyName ∈ KW := kw_of (i := 530) (by decide +kernel) rfl
set_option maxRecDepth 20000 in
theorem kw_531 : Cond.native arraycopyName ∈ KW := kw_of (i := 531) (by decide +kernel) rfl
set_option maxRecDepth 20000 in
theorem kw_532 : Cond.methodLink RX3 59 yX1_begin ∈ KW := kw_of (i := 532) (by decide +kernel) rfl
set_option maxRecDepth 20000 in
theorem kw_533 : Cond.instanceMethod yX1_begin ∈ KW := kw_of (i := 533) (by decide +kernel) rfl
set_option maxRecDepth 20000 in
theorem kw_534 : Cond.selects RX1 yX1_begin yX1_begin ∈ KW := kw_of (i := 534) (by decide +kernel) rfl
set_option maxRecDepth 20000 in
theorem kw_535 : Cond.code yX1_begin cX1_begin 1 none ∈ KW := kw_of (i := 535) rfl rfl
set_option maxRecDepth 20000 in
theorem kw_536 : Cond.methodLink RX1 26 yX1_setFolded ∈ KW := kw_of (i := 536) (by decide +kernel) rfl
set_option maxRecDepth 20000 in
theorem kw_537 : Cond.instanceMethod yX1_setFolded ∈ KW := kw_of (i := 537) (by decide +kernel) rfl
set_option maxRecDepth 20000 in
theorem kw_538 : Cond.selects RX1 yX1_setFolded yX1_setFolded ∈ KW := kw_of (i := 538) (by decide +kernel) rfl
set_option maxRecDepth 20000 in
theorem kw_539 : Cond.code yX1_setFolded cX1_setFolded 4 none ∈ KW := kw_of (i := 539) rfl rfl
set_option maxRecDepth 20000 in
theorem kw_540 : Cond.methodLink RX3 71 yX3_startLine ∈ KW := kw_of (i := 540) (by decide +kernel) rfl
set_option maxRecDepth 20000 in
theorem kw_542 : Cond.instanceMethod yX3_startLine ∈ KW := kw_of (i := 542) (by decide +kernel) rfl
set_option maxRecDepth 20000 in
theorem kw_543 : Cond.code yX3_startLine cX3_startLine 2 none ∈ KW := kw_of (i := 543) rfl rfl
set_option maxRecDepth 20000 in
theorem kw_544 : Cond.methodLink RX3 105 yX3_sendOn ∈ KW := kw_of (i := 544) (by decide +kernel) rfl
set_option maxRecDepth 20000 in
theorem kw_546 : Cond.instanceMethod yX3_sendOn ∈ KW := kw_of (i := 546) (by decide +kernel) rfl
set_option maxRecDepth 20000 in
theorem kw_547 : Cond.code yX3_sendOn cX3_sendOn 3 none ∈ KW := kw_of (i := 547) rfl rfl
set_option maxRecDepth 20000 in
theorem kw_548 : Cond.methodLink RX3 114 yX3_sendAlong ∈ KW := kw_of (i := 548) (by decide +kernel) rfl
set_option maxRecDepth 20000 in
theorem kw_550 : Cond.instanceMethod yX3_sendAlong ∈ KW := kw_of (i := 550) (by decide +kernel) rfl
set_option maxRecDepth 20000 in
theorem kw_551 : Cond.code yX3_sendAlong cX3_sendAlong 6 none ∈ KW := kw_of (i := 551) rfl rfl
set_option maxRecDepth 20000 in
theorem kw_552 : Cond.methodLink RX3 118 yX0_comesTo ∈ KW := kw_of (i := 552) (by decide +kernel) rfl
set_option maxRecDepth 20000 in
theorem kw_553 : Cond.instanceMethod yX0_comesTo ∈ KW := kw_of (i := 553) (by decide +kernel) rfl
set_option maxRecDepth 20000 in
theorem kw_554 : Cond.selects RX0 yX0_comesTo yX0_comesTo ∈ KW := kw_of (i := 554) (by decide +kernel) rfl
set_option maxRecDepth 20000 in
theorem kw_555 : Cond.code yX0_comesTo cX0_comesTo 9 (some .long) ∈ KW := kw_of (i := 555) rfl rfl
set_option maxRecDepth 20000 in
theorem nw_556 : Cond.methodLinkNest RX0 33 yX1_valueOf "WalkedRounds" ∈ NW := nw_of (i := 556) (by decide +kernel) rfl
set_option maxRecDepth 20000 in
theorem kw_558 : Cond.instanceMethod yX1_valueOf ∈ KW := kw_of (i := 558) (by decide +kernel) rfl
set_option maxRecDepth 20000 in
theorem kw_559 : Cond.code yX1_valueOf cX1_valueOf 10 (some .long) ∈ KW := kw_of (i := 559) rfl rfl
set_option maxRecDepth 20000 in
theorem kw_560 : Cond.methodLink RX1 37 yX1_fails ∈ KW := kw_of (i := 560) (by decide +kernel) rfl
set_option maxRecDepth 20000 in
theorem kw_562 : Cond.instanceMethod yX1_fails ∈ KW := kw_of (i := 562) (by decide +kernel) rfl
set_option maxRecDepth 20000 in
theorem kw_563 : Cond.code yX1_fails cX1_fails 2 (some .long) ∈ KW := kw_of (i := 563) rfl rfl
set_option maxRecDepth 20000 in
theorem kw_564 : Cond.methodLink RX1 50 yX1_plainValue ∈ KW := kw_of (i := 564) (by decide +kernel) rfl
set_option maxRecDepth 20000 in
theorem kw_566 : Cond.instanceMethod yX1_plainValue ∈ KW := kw_of (i := 566) (by decide +kernel) rfl
set_option maxRecDepth 20000 in
theorem kw_567 : Cond.code yX1_plainValue cX1_plainValue 4 (some .long) ∈ KW := kw_of (i := 567) rfl rfl
set_option maxRecDepth 20000 in
theorem kw_568 : Cond.methodLink RX1 57 yX1_valueOf ∈ KW := kw_of (i := 568) (by decide +kernel) rfl
set_option maxRecDepth 20000 in
theorem kw_569 : Cond.methodLink RX1 61 yX1_stateAt ∈ KW := kw_of (i := 569) (by decide +kernel) rfl
set_option maxRecDepth 20000 in
theorem kw_571 : Cond.instanceMethod yX1_stateAt ∈ KW := kw_of (i := 571) (by decide +kernel) rfl
set_option maxRecDepth 20000 in
theorem kw_572 : Cond.code yX1_stateAt cX1_stateAt 3 (some .long) ∈ KW := kw_of (i := 572) rfl rfl
set_option maxRecDepth 20000 in
theorem kw_573 : Cond.methodLink RX1 71 yX1_joined ∈ KW := kw_of (i := 573) (by decide +kernel) rfl
set_option maxRecDepth 20000 in
theorem kw_575 : Cond.instanceMethod yX1_joined ∈ KW := kw_of (i := 575) (by decide +kernel) rfl
set_option maxRecDepth 20000 in
theorem kw_576 : Cond.code yX1_joined cX1_joined 6 (some .long) ∈ KW := kw_of (i := 576) rfl rfl
set_option maxRecDepth 20000 in
theorem kw_577 : Cond.methodLink RX0 48 yX2_keep ∈ KW := kw_of (i := 577) (by decide +kernel) rfl
set_option maxRecDepth 20000 in
theorem kw_578 : Cond.instanceMethod yX2_keep ∈ KW := kw_of (i := 578) (by decide +kernel) rfl
set_option maxRecDepth 20000 in
theorem kw_579 : Cond.selects RX2 yX2_keep yX2_keep ∈ KW := kw_of (i := 579) (by decide +kernel) rfl
set_option maxRecDepth 20000 in
theorem kw_580 : Cond.code yX2_keep cX2_keep 6 none ∈ KW := kw_of (i := 580) rfl rfl
set_option maxRecDepth 20000 in
theorem kw_581 : Cond.methodLink RX3 74 yX2_is ∈ KW := kw_of (i := 581) (by decide +kernel) rfl
set_option maxRecDepth 20000 in
theorem kw_582 : Cond.instanceMethod yX2_is ∈ KW := kw_of (i := 582) (by decide +kernel) rfl
set_option maxRecDepth 20000 in
theorem kw_583 : Cond.selects RX2 yX2_is yX2_is ∈ KW := kw_of (i := 583) (by decide +kernel) rfl
set_option maxRecDepth 20000 in
theorem kw_584 : Cond.code yX2_is cX2_is 1 (some .boolean) ∈ KW := kw_of (i := 584) rfl rfl
set_option maxRecDepth 20000 in
theorem kw_585 : Cond.methodLink RX3 125 yX2_keep ∈ KW := kw_of (i := 585) (by decide +kernel) rfl
set_option maxRecDepth 20000 in
theorem kw_586 : Cond.methodLink RX3 80 yX3_isDone ∈ KW := kw_of (i := 586) (by decide +kernel) rfl
set_option maxRecDepth 20000 in
theorem kw_588 : Cond.instanceMethod yX3_isDone ∈ KW := kw_of (i := 588) (by decide +kernel) rfl
set_option maxRecDepth 20000 in
theorem kw_589 : Cond.code yX3_isDone cX3_isDone 6 (some .boolean) ∈ KW := kw_of (i := 589) rfl rfl
set_option maxRecDepth 20000 in
theorem kw_590 : Cond.methodLink RX3 135 arraycopyName ∈ KW := kw_of (i := 590) (by decide +kernel) rfl
set_option maxRecDepth 20000 in
theorem kw_591 : Cond.methodLink RX3 141 yX1_setFolded ∈ KW := kw_of (i := 591) (by decide +kernel) rfl
set_option maxRecDepth 20000 in
theorem kw_592 : Cond.methodLink RX3 145 yX3_takeStates ∈ KW := kw_of (i := 592) (by decide +kernel) rfl
set_option maxRecDepth 20000 in
theorem kw_594 : Cond.instanceMethod yX3_takeStates ∈ KW := kw_of (i := 594) (by decide +kernel) rfl
set_option maxRecDepth 20000 in
theorem kw_595 : Cond.code yX3_takeStates cX3_takeStates 3 none ∈ KW := kw_of (i := 595) rfl rfl
set_option maxRecDepth 20000 in
theorem kw_596 : Cond.methodLink RX3 84 yX9_clear ∈ KW := kw_of (i := 596) (by decide +kernel) rfl
set_option maxRecDepth 20000 in
theorem kw_597 : Cond.instanceMethod yX9_clear ∈ KW := kw_of (i := 597) (by decide +kernel) rfl
set_option maxRecDepth 20000 in
theorem kw_598 : Cond.selects RX9 yX9_clear yX9_clear ∈ KW := kw_of (i := 598) (by decide +kernel) rfl
set_option maxRecDepth 20000 in
theorem kw_599 : Cond.code yX9_clear cX9_clear 1 none ∈ KW := kw_of (i := 599) rfl rfl
set_option maxRecDepth 20000 in
theorem kw_600 : Cond.methodLink RX3 89 yX9_add ∈ KW := kw_of (i := 600) (by decide +kernel) rfl
set_option maxRecDepth 20000 in
theorem kw_601 : Cond.instanceMethod yX9_add ∈ KW := kw_of (i := 601) (by decide +kernel) rfl
set_option maxRecDepth 20000 in
theorem kw_602 : Cond.selects RX9 yX9_add yX9_add ∈ KW := kw_of (i := 602) (by decide +kernel) rfl
set_option maxRecDepth 20000 in
theorem kw_603 : Cond.code yX9_add cX9_add 4 none ∈ KW := kw_of (i := 603) rfl rfl
set_option maxRecDepth 20000 in
theorem kw_604 : Cond.methodLink RX3 93 yX5_keepMark ∈ KW := kw_of (i := 604) (by decide +kernel) rfl
set_option maxRecDepth 20000 in
theorem kw_605 : Cond.instanceMethod yX5_keepMark ∈ KW := kw_of (i := 605) (by decide +kernel) rfl
set_option maxRecDepth 20000 in
theorem kw_606 : Cond.selects RX5 yX5_keepMark yX5_keepMark ∈ KW := kw_of (i := 606) (by decide +kernel) rfl
set_option maxRecDepth 20000 in
theorem kw_607 : Cond.code yX5_keepMark cX5_keepMark 1 none ∈ KW := kw_of (i := 607) rfl rfl
set_option maxRecDepth 20000 in
theorem kw_608 : Cond.methodLink RX11 134 yX7_walk ∈ KW := kw_of (i := 608) (by decide +kernel) rfl
set_option maxRecDepth 20000 in
theorem kw_609 : Cond.instanceMethod yX7_walk ∈ KW := kw_of (i := 609) (by decide +kernel) rfl
set_option maxRecDepth 20000 in
theorem kw_610 : Cond.selects RX7 yX7_walk yX7_walk ∈ KW := kw_of (i := 610) (by decide +kernel) rfl
set_option maxRecDepth 20000 in
theorem kw_611 : Cond.code yX7_walk cX7_walk 4 (some .int) ∈ KW := kw_of (i := 611) rfl rfl
set_option maxRecDepth 20000 in
theorem kw_612 : Cond.methodLink RX7 56 yX10_awakeNodes ∈ KW := kw_of (i := 612) (by decide +kernel) rfl
set_option maxRecDepth 20000 in
theorem kw_613 : Cond.instanceMethod yX10_awakeNodes ∈ KW := kw_of (i := 613) (by decide +kernel) rfl
set_option maxRecDepth 20000 in
theorem kw_614 : Cond.selects RX10 yX10_awakeNodes yX10_awakeNodes ∈ KW := kw_of (i := 614) (by decide +kernel) rfl
set_option maxRecDepth 20000 in
theorem kw_615 : Cond.code yX10_awakeNodes cX10_awakeNodes 3 (some .int) ∈ KW := kw_of (i := 615) rfl rfl
set_option maxRecDepth 20000 in
theorem kw_616 : Cond.methodLink RX7 62 yX7_isDone ∈ KW := kw_of (i := 616) (by decide +kernel) rfl
set_option maxRecDepth 20000 in
theorem kw_618 : Cond.instanceMethod yX7_isDone ∈ KW := kw_of (i := 618) (by decide +kernel) rfl
set_option maxRecDepth 20000 in
theorem kw_619 : Cond.code yX7_isDone cX7_isDone 2 (some .boolean) ∈ KW := kw_of (i := 619) rfl rfl
set_option maxRecDepth 20000 in
theorem kw_620 : Cond.methodLink RX7 66 yX5_mark ∈ KW := kw_of (i := 620) (by decide +kernel) rfl
set_option maxRecDepth 20000 in
theorem kw_621 : Cond.methodLink RX7 72 yX7_begin ∈ KW := kw_of (i := 621) (by decide +kernel) rfl
set_option maxRecDepth 20000 in
theorem kw_623 : Cond.instanceMethod yX7_begin ∈ KW := kw_of (i := 623) (by decide +kernel) rfl
set_option maxRecDepth 20000 in
theorem kw_624 : Cond.code yX7_begin cX7_begin 2 none ∈ KW := kw_of (i := 624) rfl rfl
set_option maxRecDepth 20000 in
theorem kw_625 : Cond.methodLink RX7 111 yX1_begin ∈ KW := kw_of (i := 625) (by decide +kernel) rfl
set_option maxRecDepth 20000 in
theorem kw_626 : Cond.methodLink RX7 75 yX7_sendAll ∈ KW := kw_of (i := 626) (by decide +kernel) rfl
set_option maxRecDepth 20000 in
theorem kw_628 : Cond.instanceMethod yX7_sendAll ∈ KW := kw_of (i := 628) (by decide +kernel) rfl
set_option maxRecDepth 20000 in
theorem kw_629 : Cond.code yX7_sendAll cX7_sendAll 5 none ∈ KW := kw_of (i := 629) rfl rfl
set_option maxRecDepth 20000 in
theorem kw_630 : Cond.methodLink RX7 132 yX7_sendAlong ∈ KW := kw_of (i := 630) (by decide +kernel) rfl
set_option maxRecDepth 20000 in
theorem kw_632 : Cond.instanceMethod yX7_sendAlong ∈ KW := kw_of (i := 632) (by decide +kernel) rfl
set_option maxRecDepth 20000 in
theorem kw_633 : Cond.code yX7_sendAlong cX7_sendAlong 3 none ∈ KW := kw_of (i := 633) rfl rfl
set_option maxRecDepth 20000 in
theorem kw_634 : Cond.methodLink RX7 136 yX0_comesTo ∈ KW := kw_of (i := 634) (by decide +kernel) rfl
set_option maxRecDepth 20000 in
theorem kw_635 : Cond.methodLink RX7 79 yX2_is ∈ KW := kw_of (i := 635) (by decide +kernel) rfl
set_option maxRecDepth 20000 in
theorem kw_636 : Cond.methodLink RX7 85 yX7_askNodes ∈ KW := kw_of (i := 636) (by decide +kernel) rfl
set_option maxRecDepth 20000 in
theorem kw_638 : Cond.instanceMethod yX7_askNodes ∈ KW := kw_of (i := 638) (by decide +kernel) rfl
set_option maxRecDepth 20000 in
theorem kw_639 : Cond.code yX7_askNodes cX7_askNodes 3 none ∈ KW := kw_of (i := 639) rfl rfl
set_option maxRecDepth 20000 in
theorem kw_640 : Cond.methodLink RX7 140 yX7_messagesTo ∈ KW := kw_of (i := 640) (by decide +kernel) rfl
set_option maxRecDepth 20000 in
theorem kw_642 : Cond.instanceMethod yX7_messagesTo ∈ KW := kw_of (i := 642) (by decide +kernel) rfl
set_option maxRecDepth 20000 in
theorem kw_643 : Cond.code yX7_messagesTo cX7_messagesTo 4 (some .int) ∈ KW := kw_of (i := 643) rfl rfl
set_option maxRecDepth 20000 in
theorem kw_644 : Cond.methodLink RX7 144 yX7_askNode ∈ KW := kw_of (i := 644) (by decide +kernel) rfl
set_option maxRecDepth 20000 in
theorem kw_646 : Cond.instanceMethod yX7_askNode ∈ KW := kw_of (i := 646) (by decide +kernel) rfl
set_option maxRecDepth 20000 in
theorem kw_647 : Cond.code yX7_askNode cX7_askNode 4 none ∈ KW := kw_of (i := 647) rfl rfl
set_option maxRecDepth 20000 in
theorem kw_648 : Cond.methodLink RX7 148 yX7_foldFor ∈ KW := kw_of (i := 648) (by decide +kernel) rfl
set_option maxRecDepth 20000 in
theorem kw_650 : Cond.instanceMethod yX7_foldFor ∈ KW := kw_of (i := 650) (by decide +kernel) rfl
set_option maxRecDepth 20000 in
theorem kw_651 : Cond.code yX7_foldFor cX7_foldFor 6 (some .long) ∈ KW := kw_of (i := 651) rfl rfl
set_option maxRecDepth 20000 in
theorem kw_652 : Cond.methodLink RX7 159 yX7_foldTwo ∈ KW := kw_of (i := 652) (by decide +kernel) rfl
set_option maxRecDepth 20000 in
theorem kw_654 : Cond.instanceMethod yX7_foldTwo ∈ KW := kw_of (i := 654) (by decide +kernel) rfl
set_option maxRecDepth 20000 in
theorem kw_655 : Cond.code yX7_foldTwo cX7_foldTwo 8 (some .long) ∈ KW := kw_of (i := 655) rfl rfl
set_option maxRecDepth 20000 in
theorem kw_656 : Cond.methodLink RX7 172 Lib.MathLoose.min_long.x ∈ KW := kw_of (i := 656) (by decide +kernel) rfl
set_option maxRecDepth 20000 in
theorem kw_657 : Cond.static Lib.MathLoose.min_long.x ∈ KW := kw_of (i := 657) (by decide +kernel) rfl
set_option maxRecDepth 20000 in
theorem kw_658 : Cond.code Lib.MathLoose.min_long.x Lib.MathLoose.min_long.code 4 (some .long) ∈ KW := kw_of (i := 658) rfl rfl
set_option maxRecDepth 20000 in
theorem kw_659 : Cond.methodLink RX7 178 Lib.MathLoose.max_long.x ∈ KW := kw_of (i := 659) (by decide +kernel) rfl
set_option maxRecDepth 20000 in
theorem kw_660 : Cond.static Lib.MathLoose.max_long.x ∈ KW := kw_of (i := 660) (by decide +kernel) rfl
set_option maxRecDepth 20000 in
theorem kw_661 : Cond.code Lib.MathLoose.max_long.x Lib.MathLoose.max_long.code 4 (some .long) ∈ KW := kw_of (i := 661) rfl rfl
set_option maxRecDepth 20000 in
theorem kw_662 : Cond.methodLink RX7 181 yX2_keep ∈ KW := kw_of (i := 662) (by decide +kernel) rfl
set_option maxRecDepth 20000 in
theorem kw_663 : Cond.methodLink RX7 152 yX1_setFolded ∈ KW := kw_of (i := 663) (by decide +kernel) rfl
set_option maxRecDepth 20000 in
theorem kw_664 : Cond.methodLink RX7 88 yX7_changeNodes ∈ KW := kw_of (i := 664) (by decide +kernel) rfl
set_option maxRecDepth 20000 in
theorem kw_666 : Cond.instanceMethod yX7_changeNodes ∈ KW := kw_of (i := 666) (by decide +kernel) rfl
set_option maxRecDepth 20000 in
theorem kw_667 : Cond.code yX7_changeNodes cX7_changeNodes 2 none ∈ KW := kw_of (i := 667) rfl rfl
set_option maxRecDepth 20000 in
theorem kw_668 : Cond.methodLink RX7 185 arraycopyName ∈ KW := kw_of (i := 668) (by decide +kernel) rfl
set_option maxRecDepth 20000 in
theorem kw_669 : Cond.methodLink RX7 91 yX7_sumParts ∈ KW := kw_of (i := 669) (by decide +kernel) rfl
set_option maxRecDepth 20000 in
theorem kw_671 : Cond.instanceMethod yX7_sumParts ∈ KW := kw_of (i := 671) (by decide +kernel) rfl
set_option maxRecDepth 20000 in
theorem kw_672 : Cond.code yX7_sumParts cX7_sumParts 4 none ∈ KW := kw_of (i := 672) rfl rfl
set_option maxRecDepth 20000 in
theorem kw_673 : Cond.methodLink RX7 94 yX5_backToMark ∈ KW := kw_of (i := 673) (by decide +kernel) rfl
set_option maxRecDepth 20000 in
theorem kw_674 : Cond.instanceMethod yX5_backToMark ∈ KW := kw_of (i := 674) (by decide +kernel) rfl
set_option maxRecDepth 20000 in
theorem kw_675 : Cond.selects RX5 yX5_backToMark yX5_backToMark ∈ KW := kw_of (i := 675) (by decide +kernel) rfl
set_option maxRecDepth 20000 in
theorem kw_676 : Cond.code yX5_backToMark cX5_backToMark 2 none ∈ KW := kw_of (i := 676) rfl rfl
set_option maxRecDepth 20000 in
theorem kw_677 : Cond.methodLink RX5 26 yX4_giveBack ∈ KW := kw_of (i := 677) (by decide +kernel) rfl
set_option maxRecDepth 20000 in
theorem kw_678 : Cond.instanceMethod yX4_giveBack ∈ KW := kw_of (i := 678) (by decide +kernel) rfl
set_option maxRecDepth 20000 in
theorem kw_679 : Cond.selects RX4 yX4_giveBack yX4_giveBack ∈ KW := kw_of (i := 679) (by decide +kernel) rfl
set_option maxRecDepth 20000 in
theorem kw_680 : Cond.code yX4_giveBack cX4_giveBack 2 none ∈ KW := kw_of (i := 680) rfl rfl
set_option maxRecDepth 20000 in
theorem kw_681 : Cond.methodLink RX7 101 yX5_keepMark ∈ KW := kw_of (i := 681) (by decide +kernel) rfl
set_option maxRecDepth 20000 in
theorem kw_682 : Cond.methodLink RX7 104 yX7_tellMessages ∈ KW := kw_of (i := 682) (by decide +kernel) rfl
set_option maxRecDepth 20000 in
theorem kw_684 : Cond.instanceMethod yX7_tellMessages ∈ KW := kw_of (i := 684) (by decide +kernel) rfl
set_option maxRecDepth 20000 in
theorem kw_685 : Cond.code yX7_tellMessages cX7_tellMessages 2 none ∈ KW := kw_of (i := 685) rfl rfl
set_option maxRecDepth 20000 in
theorem kw_686 : Cond.methodLink RX7 195 yX9_clear ∈ KW := kw_of (i := 686) (by decide +kernel) rfl
set_option maxRecDepth 20000 in
theorem kw_687 : Cond.methodLink RX7 200 yX9_add ∈ KW := kw_of (i := 687) (by decide +kernel) rfl
set_option maxRecDepth 20000 in
theorem kw_692 : Cond.methodLink RX11 137 yX5_undoLatest ∈ KW := kw_of (i := 692) (by decide +kernel) rfl
set_option maxRecDepth 20000 in
theorem kw_693 : Cond.instanceMethod yX5_undoLatest ∈ KW := kw_of (i := 693) (by decide +kernel) rfl
set_option maxRecDepth 20000 in
theorem kw_694 : Cond.selects RX5 yX5_undoLatest yX5_undoLatest ∈ KW := kw_of (i := 694) (by decide +kernel) rfl
set_option maxRecDepth 20000 in
theorem kw_695 : Cond.code yX5_undoLatest cX5_undoLatest 2 (some .int) ∈ KW := kw_of (i := 695) rfl rfl
set_option maxRecDepth 20000 in
theorem kw_700 : Cond.methodLink RX11 141 yX2_tell ∈ KW := kw_of (i := 700) (by decide +kernel) rfl
set_option maxRecDepth 20000 in
theorem kw_701 : Cond.instanceMethod yX2_tell ∈ KW := kw_of (i := 701) (by decide +kernel) rfl
set_option maxRecDepth 20000 in
theorem kw_702 : Cond.selects RX2 yX2_tell yX2_tell ∈ KW := kw_of (i := 702) (by decide +kernel) rfl
set_option maxRecDepth 20000 in
theorem kw_703 : Cond.code yX2_tell cX2_tell 2 (some .int) ∈ KW := kw_of (i := 703) rfl rfl
set_option maxRecDepth 20000 in
theorem kw_708 : Cond.constantLong RX11 147 (-101) ∈ KW := kw_of (i := 708) (by decide +kernel) rfl
set_option maxRecDepth 20000 in
theorem kw_709 : Cond.methodLink RX11 149 yX10_hasArc ∈ KW := kw_of (i := 709) (by decide +kernel) rfl
set_option maxRecDepth 20000 in
theorem kw_710 : Cond.instanceMethod yX10_hasArc ∈ KW := kw_of (i := 710) (by decide +kernel) rfl
set_option maxRecDepth 20000 in
theorem kw_711 : Cond.selects RX10 yX10_hasArc yX10_hasArc ∈ KW := kw_of (i := 711) (by decide +kernel) rfl
set_option maxRecDepth 20000 in
theorem kw_712 : Cond.code yX10_hasArc cX10_hasArc 2 (some .boolean) ∈ KW := kw_of (i := 712) rfl rfl
set_option maxRecDepth 20000 in
theorem kw_713 : Cond.methodLink RX11 152 yX1_begin ∈ KW := kw_of (i := 713) (by decide +kernel) rfl
set_option maxRecDepth 20000 in
theorem nw_714 : Cond.methodLinkNest RX11 155 yX1_valueOf "WalkedRounds" ∈ NW := nw_of (i := 714) (by decide +kernel) rfl
set_option maxRecDepth 20000 in
theorem kw_723 : Cond.constantLong RX11 162 (-102) ∈ KW := kw_of (i := 723) (by decide +kernel) rfl
set_option maxRecDepth 20000 in
theorem kw_736 : Cond.methodLink RX11 168 yX9_has ∈ KW := kw_of (i := 736) (by decide +kernel) rfl
set_option maxRecDepth 20000 in
theorem kw_737 : Cond.instanceMethod yX9_has ∈ KW := kw_of (i := 737) (by decide +kernel) rfl
set_option maxRecDepth 20000 in
theorem kw_738 : Cond.selects RX9 yX9_has yX9_has ∈ KW := kw_of (i := 738) (by decide +kernel) rfl
set_option maxRecDepth 20000 in
theorem kw_739 : Cond.code yX9_has cX9_has 2 (some .boolean) ∈ KW := kw_of (i := 739) rfl rfl
set_option maxRecDepth 20000 in
theorem kw_748 : Cond.methodLink RX11 186 yX10_awakeNodes ∈ KW := kw_of (i := 748) (by decide +kernel) rfl
set_option maxRecDepth 20000 in
theorem kw_755 : Cond.methodLink RX12 105 yX12_clearFailed ∈ KW := kw_of (i := 755) (by decide +kernel) rfl
set_option maxRecDepth 20000 in
theorem kw_757 : Cond.instanceMethod yX12_clearFailed ∈ KW := kw_of (i := 757) (by decide +kernel) rfl
set_option maxRecDepth 20000 in
theorem kw_758 : Cond.code yX12_clearFailed cX12_clearFailed 2 none ∈ KW := kw_of (i := 758) rfl rfl
set_option maxRecDepth 20000 in
theorem kw_759 : Cond.fieldLink RX12 108 "WalkedRoundsModel" "terms" "I" ∈ KW := kw_of (i := 759) (by decide +kernel) rfl
set_option maxRecDepth 20000 in
theorem kw_760 : Cond.fieldLink RX12 7 "WalkedRoundsModel" "kinds" "[I" ∈ KW := kw_of (i := 760) (by decide +kernel) rfl
set_option maxRecDepth 20000 in
theorem kw_761 : Cond.fieldLink RX12 13 "WalkedRoundsModel" "partA" "[I" ∈ KW := kw_of (i := 761) (by decide +kernel) rfl
set_option maxRecDepth 20000 in
theorem kw_762 : Cond.fieldLink RX12 16 "WalkedRoundsModel" "partB" "[I" ∈ KW := kw_of (i := 762) (by decide +kernel) rfl
set_option maxRecDepth 20000 in
theorem kw_763 : Cond.fieldLink RX12 19 "WalkedRoundsModel" "partC" "[I" ∈ KW := kw_of (i := 763) (by decide +kernel) rfl
set_option maxRecDepth 20000 in
theorem kw_764 : Cond.fieldLink RX12 22 "WalkedRoundsModel" "numbers" "[J" ∈ KW := kw_of (i := 764) (by decide +kernel) rfl
set_option maxRecDepth 20000 in
theorem kw_765 : Cond.fieldLink RX12 116 "WalkedRoundsModel" "nodes" "I" ∈ KW := kw_of (i := 765) (by decide +kernel) rfl
set_option maxRecDepth 20000 in
theorem kw_766 : Cond.fieldLink RX12 26 "WalkedRoundsModel" "states" "[J" ∈ KW := kw_of (i := 766) (by decide +kernel) rfl
set_option maxRecDepth 20000 in
theorem kw_767 : Cond.fieldLink RX12 29 "WalkedRoundsModel" "awake" "[Z" ∈ KW := kw_of (i := 767) (by decide +kernel) rfl
set_option maxRecDepth 20000 in
theorem kw_768 : Cond.fieldLink RX12 119 "WalkedRoundsModel" "arcs" "I" ∈ KW := kw_of (i := 768) (by decide +kernel) rfl
set_option maxRecDepth 20000 in
theorem kw_769 : Cond.fieldLink RX12 33 "WalkedRoundsModel" "from" "[I" ∈ KW := kw_of (i := 769) (by decide +kernel) rfl
set_option maxRecDepth 20000 in
theorem kw_770 : Cond.fieldLink RX12 36 "WalkedRoundsModel" "to" "[I" ∈ KW := kw_of (i := 770) (by decide +kernel) rfl
set_option maxRecDepth 20000 in
theorem kw_771 : Cond.fieldLink RX12 39 "WalkedRoundsModel" "weights" "[J" ∈ KW := kw_of (i := 771) (by decide +kernel) rfl
set_option maxRecDepth 20000 in
theorem kw_772 : Cond.fieldLink RX12 42 "WalkedRoundsModel" "acts" "[I" ∈ KW := kw_of (i := 772) (by decide +kernel) rfl
set_option maxRecDepth 20000 in
theorem kw_773 : Cond.fieldLink RX12 134 "WalkedRoundsModel" "fold" "I" ∈ KW := kw_of (i := 773) (by decide +kernel) rfl
set_option maxRecDepth 20000 in
theorem kw_774 : Cond.fieldLink RX12 182 "WalkedRoundsModel" "whole" "J" ∈ KW := kw_of (i := 774) (by decide +kernel) rfl
set_option maxRecDepth 20000 in
theorem kw_775 : Cond.fieldLink RX12 175 "WalkedRoundsModel" "rounds" "I" ∈ KW := kw_of (i := 775) (by decide +kernel) rfl
set_option maxRecDepth 20000 in
theorem kw_776 : Cond.fieldLink RX12 162 "WalkedRoundsModel" "steps" "I" ∈ KW := kw_of (i := 776) (by decide +kernel) rfl
set_option maxRecDepth 20000 in
theorem kw_777 : Cond.fieldLink RX12 45 "WalkedRoundsModel" "failed" "[I" ∈ KW := kw_of (i := 777) (by decide +kernel) rfl
set_option maxRecDepth 20000 in
theorem kw_778 : Cond.fieldLink RX12 267 "WalkedRoundsModel" "why" "I" ∈ KW := kw_of (i := 778) (by decide +kernel) rfl
set_option maxRecDepth 20000 in
theorem kw_779 : Cond.fieldLink RX12 128 "WalkedRoundsModel" "kept" "I" ∈ KW := kw_of (i := 779) (by decide +kernel) rfl
set_option maxRecDepth 20000 in
theorem kw_780 : Cond.fieldLink RX12 48 "WalkedRoundsModel" "oldStates" "[J" ∈ KW := kw_of (i := 780) (by decide +kernel) rfl
set_option maxRecDepth 20000 in
theorem kw_781 : Cond.fieldLink RX12 51 "WalkedRoundsModel" "oldAwake" "[Z" ∈ KW := kw_of (i := 781) (by decide +kernel) rfl
set_option maxRecDepth 20000 in
theorem kw_782 : Cond.fieldLink RX12 54 "WalkedRoundsModel" "oldWhole" "[J" ∈ KW := kw_of (i := 782) (by decide +kernel) rfl
set_option maxRecDepth 20000 in
theorem kw_783 : Cond.fieldLink RX12 57 "WalkedRoundsModel" "oldRounds" "[I" ∈ KW := kw_of (i := 783) (by decide +kernel) rfl
set_option maxRecDepth 20000 in
theorem kw_784 : Cond.fieldLink RX12 246 "WalkedRoundsModel" "told" "I" ∈ KW := kw_of (i := 784) (by decide +kernel) rfl
set_option maxRecDepth 20000 in
theorem kw_785 : Cond.fieldLink RX12 60 "WalkedRoundsModel" "toldArcs" "[I" ∈ KW := kw_of (i := 785) (by decide +kernel) rfl
set_option maxRecDepth 20000 in
theorem kw_786 : Cond.fieldLink RX12 63 "WalkedRoundsModel" "toldMessages" "[J" ∈ KW := kw_of (i := 786) (by decide +kernel) rfl
set_option maxRecDepth 20000 in
theorem kw_787 : Cond.fieldLink RX12 137 "WalkedRoundsModel" "top" "I" ∈ KW := kw_of (i := 787) (by decide +kernel) rfl
set_option maxRecDepth 20000 in
theorem kw_788 : Cond.fieldLink RX12 66 "WalkedRoundsModel" "pile" "[I" ∈ KW := kw_of (i := 788) (by decide +kernel) rfl
set_option maxRecDepth 20000 in
theorem kw_789 : Cond.fieldLink RX12 69 "WalkedRoundsModel" "stage" "[I" ∈ KW := kw_of (i := 789) (by decide +kernel) rfl
set_option maxRecDepth 20000 in
theorem kw_790 : Cond.fieldLink RX12 72 "WalkedRoundsModel" "first" "[J" ∈ KW := kw_of (i := 790) (by decide +kernel) rfl
set_option maxRecDepth 20000 in
theorem kw_791 : Cond.fieldLink RX12 165 "WalkedRoundsModel" "came" "J" ∈ KW := kw_of (i := 791) (by decide +kernel) rfl
set_option maxRecDepth 20000 in
theorem kw_792 : Cond.fieldLink RX12 146 "WalkedRoundsModel" "fails" "I" ∈ KW := kw_of (i := 792) (by decide +kernel) rfl
set_option maxRecDepth 20000 in
theorem kw_793 : Cond.fieldLink RX12 159 "WalkedRoundsModel" "spent" "I" ∈ KW := kw_of (i := 793) (by decide +kernel) rfl
set_option maxRecDepth 20000 in
theorem kw_794 : Cond.fieldLink RX12 140 "WalkedRoundsModel" "atNode" "I" ∈ KW := kw_of (i := 794) (by decide +kernel) rfl
set_option maxRecDepth 20000 in
theorem kw_795 : Cond.fieldLink RX12 143 "WalkedRoundsModel" "atArc" "I" ∈ KW := kw_of (i := 795) (by decide +kernel) rfl
set_option maxRecDepth 20000 in
theorem kw_796 : Cond.fieldLink RX12 169 "WalkedRoundsModel" "folded" "J" ∈ KW := kw_of (i := 796) (by decide +kernel) rfl
set_option maxRecDepth 20000 in
theorem kw_797 : Cond.fieldLink RX12 172 "WalkedRoundsModel" "many" "I" ∈ KW := kw_of (i := 797) (by decide +kernel) rfl
set_option maxRecDepth 20000 in
theorem kw_798 : Cond.fieldLink RX12 75 "WalkedRoundsModel" "goes" "[Z" ∈ KW := kw_of (i := 798) (by decide +kernel) rfl
set_option maxRecDepth 20000 in
theorem kw_799 : Cond.fieldLink RX12 78 "WalkedRoundsModel" "messages" "[J" ∈ KW := kw_of (i := 799) (by decide +kernel) rfl
set_option maxRecDepth 20000 in
theorem kw_800 : Cond.fieldLink RX12 214 "WalkedRoundsModel" "sent" "I" ∈ KW := kw_of (i := 800) (by decide +kernel) rfl
set_option maxRecDepth 20000 in
theorem kw_801 : Cond.fieldLink RX12 81 "WalkedRoundsModel" "sentArcs" "[I" ∈ KW := kw_of (i := 801) (by decide +kernel) rfl
set_option maxRecDepth 20000 in
theorem kw_802 : Cond.fieldLink RX12 197 "WalkedRoundsModel" "sends" "Z" ∈ KW := kw_of (i := 802) (by decide +kernel) rfl
set_option maxRecDepth 20000 in
theorem kw_803 : Cond.fieldLink RX12 204 "WalkedRoundsModel" "message" "J" ∈ KW := kw_of (i := 803) (by decide +kernel) rfl
set_option maxRecDepth 20000 in
theorem kw_804 : Cond.fieldLink RX12 84 "WalkedRoundsModel" "newStates" "[J" ∈ KW := kw_of (i := 804) (by decide +kernel) rfl
set_option maxRecDepth 20000 in
theorem kw_805 : Cond.fieldLink RX12 87 "WalkedRoundsModel" "newAwake" "[Z" ∈ KW := kw_of (i := 805) (by decide +kernel) rfl
set_option maxRecDepth 20000 in
theorem kw_806 : Cond.fieldLink RX12 90 "WalkedRoundsModel" "beforeStates" "[J" ∈ KW := kw_of (i := 806) (by decide +kernel) rfl
set_option maxRecDepth 20000 in
theorem kw_807 : Cond.fieldLink RX12 93 "WalkedRoundsModel" "beforeAwake" "[Z" ∈ KW := kw_of (i := 807) (by decide +kernel) rfl
set_option maxRecDepth 20000 in
theorem kw_808 : Cond.fieldLink RX12 249 "WalkedRoundsModel" "waiting" "I" ∈ KW := kw_of (i := 808) (by decide +kernel) rfl
set_option maxRecDepth 20000 in
theorem kw_809 : Cond.fieldLink RX12 96 "WalkedRoundsModel" "lineArcs" "[I" ∈ KW := kw_of (i := 809) (by decide +kernel) rfl
set_option maxRecDepth 20000 in
theorem kw_810 : Cond.fieldLink RX12 99 "WalkedRoundsModel" "line" "[J" ∈ KW := kw_of (i := 810) (by decide +kernel) rfl
set_option maxRecDepth 20000 in
theorem kw_811 : Cond.fieldLink RX12 102 "WalkedRoundsModel" "takenStates" "[J" ∈ KW := kw_of (i := 811) (by decide +kernel) rfl
set_option maxRecDepth 20000 in
theorem kw_923 : Cond.methodLink RX12 112 yX12_in ∈ KW := kw_of (i := 923) (by decide +kernel) rfl
set_option maxRecDepth 20000 in
theorem kw_924 : Cond.static yX12_in ∈ KW := kw_of (i := 924) (by decide +kernel) rfl
set_option maxRecDepth 20000 in
theorem kw_925 : Cond.code yX12_in cX12_in 3 (some .boolean) ∈ KW := kw_of (i := 925) rfl rfl
set_option maxRecDepth 20000 in
theorem kw_926 : Cond.methodLink RX12 122 yX12_isTerm ∈ KW := kw_of (i := 926) (by decide +kernel) rfl
set_option maxRecDepth 20000 in
theorem kw_928 : Cond.instanceMethod yX12_isTerm ∈ KW := kw_of (i := 928) (by decide +kernel) rfl
set_option maxRecDepth 20000 in
theorem kw_929 : Cond.code yX12_isTerm cX12_isTerm 2 (some .boolean) ∈ KW := kw_of (i := 929) rfl rfl
set_option maxRecDepth 20000 in
theorem kw_930 : Cond.constantLong RX12 126 2 ∈ KW := kw_of (i := 930) (by decide +kernel) rfl
set_option maxRecDepth 20000 in
theorem kw_939 : Cond.methodLink RX12 131 yX12_isNode ∈ KW := kw_of (i := 939) (by decide +kernel) rfl
set_option maxRecDepth 20000 in
theorem kw_941 : Cond.instanceMethod yX12_isNode ∈ KW := kw_of (i := 941) (by decide +kernel) rfl
set_option maxRecDepth 20000 in
theorem kw_942 : Cond.code yX12_isNode cX12_isNode 2 (some .boolean) ∈ KW := kw_of (i := 942) rfl rfl
set_option maxRecDepth 20000 in
theorem kw_963 : Cond.methodLink RX12 258 yX12_walk ∈ KW := kw_of (i := 963) (by decide +kernel) rfl
set_option maxRecDepth 20000 in
theorem kw_965 : Cond.instanceMethod yX12_walk ∈ KW := kw_of (i := 965) (by decide +kernel) rfl
set_option maxRecDepth 20000 in
theorem kw_966 : Cond.code yX12_walk cX12_walk 3 (some .int) ∈ KW := kw_of (i := 966) rfl rfl
set_option maxRecDepth 20000 in
theorem kw_967 : Cond.methodLink RX12 227 yX12_remember ∈ KW := kw_of (i := 967) (by decide +kernel) rfl
set_option maxRecDepth 20000 in
theorem kw_969 : Cond.instanceMethod yX12_remember ∈ KW := kw_of (i := 969) (by decide +kernel) rfl
set_option maxRecDepth 20000 in
theorem kw_970 : Cond.code yX12_remember cX12_remember 2 none ∈ KW := kw_of (i := 970) rfl rfl
set_option maxRecDepth 20000 in
theorem kw_971 : Cond.methodLink RX12 210 yX12_isFailed ∈ KW := kw_of (i := 971) (by decide +kernel) rfl
set_option maxRecDepth 20000 in
theorem kw_973 : Cond.instanceMethod yX12_isFailed ∈ KW := kw_of (i := 973) (by decide +kernel) rfl
set_option maxRecDepth 20000 in
theorem kw_974 : Cond.code yX12_isFailed cX12_isFailed 1 (some .boolean) ∈ KW := kw_of (i := 974) rfl rfl
set_option maxRecDepth 20000 in
theorem kw_975 : Cond.methodLink RX12 252 yX12_sendsOn ∈ KW := kw_of (i := 975) (by decide +kernel) rfl
set_option maxRecDepth 20000 in
theorem kw_977 : Cond.instanceMethod yX12_sendsOn ∈ KW := kw_of (i := 977) (by decide +kernel) rfl
set_option maxRecDepth 20000 in
theorem kw_978 : Cond.code yX12_sendsOn cX12_sendsOn 3 none ∈ KW := kw_of (i := 978) rfl rfl
set_option maxRecDepth 20000 in
theorem kw_979 : Cond.methodLink RX12 207 yX12_askArc ∈ KW := kw_of (i := 979) (by decide +kernel) rfl
set_option maxRecDepth 20000 in
theorem kw_981 : Cond.instanceMethod yX12_askArc ∈ KW := kw_of (i := 981) (by decide +kernel) rfl
set_option maxRecDepth 20000 in
theorem kw_982 : Cond.code yX12_askArc cX12_askArc 2 none ∈ KW := kw_of (i := 982) rfl rfl
set_option maxRecDepth 20000 in
theorem kw_983 : Cond.methodLink RX12 201 yX12_does ∈ KW := kw_of (i := 983) (by decide +kernel) rfl
set_option maxRecDepth 20000 in
theorem kw_985 : Cond.instanceMethod yX12_does ∈ KW := kw_of (i := 985) (by decide +kernel) rfl
set_option maxRecDepth 20000 in
theorem kw_986 : Cond.code yX12_does cX12_does 5 (some .boolean) ∈ KW := kw_of (i := 986) rfl rfl
set_option maxRecDepth 20000 in
theorem kw_987 : Cond.methodLink RX12 189 yX12_asked ∈ KW := kw_of (i := 987) (by decide +kernel) rfl
set_option maxRecDepth 20000 in
theorem kw_989 : Cond.instanceMethod yX12_asked ∈ KW := kw_of (i := 989) (by decide +kernel) rfl
set_option maxRecDepth 20000 in
theorem kw_990 : Cond.code yX12_asked cX12_asked 6 (some .int) ∈ KW := kw_of (i := 990) rfl rfl
set_option maxRecDepth 20000 in
theorem kw_991 : Cond.methodLink RX12 149 yX12_push ∈ KW := kw_of (i := 991) (by decide +kernel) rfl
set_option maxRecDepth 20000 in
theorem kw_993 : Cond.instanceMethod yX12_push ∈ KW := kw_of (i := 993) (by decide +kernel) rfl
set_option maxRecDepth 20000 in
theorem kw_994 : Cond.code yX12_push cX12_push 2 none ∈ KW := kw_of (i := 994) rfl rfl
set_option maxRecDepth 20000 in
theorem kw_995 : Cond.methodLink RX12 153 yX12_begins ∈ KW := kw_of (i := 995) (by decide +kernel) rfl
set_option maxRecDepth 20000 in
theorem kw_997 : Cond.instanceMethod yX12_begins ∈ KW := kw_of (i := 997) (by decide +kernel) rfl
set_option maxRecDepth 20000 in
theorem kw_998 : Cond.code yX12_begins cX12_begins 3 (some .boolean) ∈ KW := kw_of (i := 998) rfl rfl
set_option maxRecDepth 20000 in
theorem kw_999 : Cond.methodLink RX12 178 yX12_arcsFrom ∈ KW := kw_of (i := 999) (by decide +kernel) rfl
set_option maxRecDepth 20000 in
theorem kw_1001 : Cond.instanceMethod yX12_arcsFrom ∈ KW := kw_of (i := 1001) (by decide +kernel) rfl
set_option maxRecDepth 20000 in
theorem kw_1002 : Cond.code yX12_arcsFrom cX12_arcsFrom 4 (some .int) ∈ KW := kw_of (i := 1002) rfl rfl
set_option maxRecDepth 20000 in
theorem kw_1003 : Cond.methodLink RX12 156 yX12_goesOn ∈ KW := kw_of (i := 1003) (by decide +kernel) rfl
set_option maxRecDepth 20000 in
theorem kw_1005 : Cond.instanceMethod yX12_goesOn ∈ KW := kw_of (i := 1005) (by decide +kernel) rfl
set_option maxRecDepth 20000 in
theorem kw_1006 : Cond.code yX12_goesOn cX12_goesOn 5 (some .boolean) ∈ KW := kw_of (i := 1006) rfl rfl
set_option maxRecDepth 20000 in
theorem kw_1007 : Cond.methodLink RX12 185 yX12_joined ∈ KW := kw_of (i := 1007) (by decide +kernel) rfl
set_option maxRecDepth 20000 in
theorem kw_1009 : Cond.instanceMethod yX12_joined ∈ KW := kw_of (i := 1009) (by decide +kernel) rfl
set_option maxRecDepth 20000 in
theorem kw_1010 : Cond.code yX12_joined cX12_joined 6 (some .long) ∈ KW := kw_of (i := 1010) rfl rfl
set_option maxRecDepth 20000 in
theorem kw_1011 : Cond.methodLink RX12 193 yX12_note ∈ KW := kw_of (i := 1011) (by decide +kernel) rfl
set_option maxRecDepth 20000 in
theorem kw_1013 : Cond.instanceMethod yX12_note ∈ KW := kw_of (i := 1013) (by decide +kernel) rfl
set_option maxRecDepth 20000 in
theorem kw_1014 : Cond.code yX12_note cX12_note 5 none ∈ KW := kw_of (i := 1014) rfl rfl
set_option maxRecDepth 20000 in
theorem kw_1015 : Cond.methodLink RX12 255 yX12_takes ∈ KW := kw_of (i := 1015) (by decide +kernel) rfl
set_option maxRecDepth 20000 in
theorem kw_1017 : Cond.instanceMethod yX12_takes ∈ KW := kw_of (i := 1017) (by decide +kernel) rfl
set_option maxRecDepth 20000 in
theorem kw_1018 : Cond.code yX12_takes cX12_takes 8 (some .boolean) ∈ KW := kw_of (i := 1018) rfl rfl
set_option maxRecDepth 20000 in
theorem kw_1019 : Cond.methodLink RX12 242 yX12_keep ∈ KW := kw_of (i := 1019) (by decide +kernel) rfl
set_option maxRecDepth 20000 in
theorem kw_1021 : Cond.instanceMethod yX12_keep ∈ KW := kw_of (i := 1021) (by decide +kernel) rfl
set_option maxRecDepth 20000 in
theorem kw_1022 : Cond.code yX12_keep cX12_keep 6 none ∈ KW := kw_of (i := 1022) rfl rfl
set_option maxRecDepth 20000 in
theorem kw_1023 : Cond.methodLink RX12 261 yX12_isAnyAwake ∈ KW := kw_of (i := 1023) (by decide +kernel) rfl
set_option maxRecDepth 20000 in
theorem kw_1025 : Cond.instanceMethod yX12_isAnyAwake ∈ KW := kw_of (i := 1025) (by decide +kernel) rfl
set_option maxRecDepth 20000 in
theorem kw_1026 : Cond.code yX12_isAnyAwake cX12_isAnyAwake 3 (some .boolean) ∈ KW := kw_of (i := 1026) rfl rfl
set_option maxRecDepth 20000 in
theorem kw_1027 : Cond.methodLink RX12 264 yX12_round ∈ KW := kw_of (i := 1027) (by decide +kernel) rfl
set_option maxRecDepth 20000 in
theorem kw_1029 : Cond.instanceMethod yX12_round ∈ KW := kw_of (i := 1029) (by decide +kernel) rfl
set_option maxRecDepth 20000 in
theorem kw_1030 : Cond.code yX12_round cX12_round 5 (some .boolean) ∈ KW := kw_of (i := 1030) rfl rfl
set_option maxRecDepth 20000 in
theorem kw_1031 : Cond.methodLink RX12 230 yX12_sendAll ∈ KW := kw_of (i := 1031) (by decide +kernel) rfl
set_option maxRecDepth 20000 in
theorem kw_1033 : Cond.instanceMethod yX12_sendAll ∈ KW := kw_of (i := 1033) (by decide +kernel) rfl
set_option maxRecDepth 20000 in
theorem kw_1034 : Cond.code yX12_sendAll cX12_sendAll 5 none ∈ KW := kw_of (i := 1034) rfl rfl
set_option maxRecDepth 20000 in
theorem kw_1035 : Cond.methodLink RX12 217 yX12_sendAlong ∈ KW := kw_of (i := 1035) (by decide +kernel) rfl
set_option maxRecDepth 20000 in
theorem kw_1037 : Cond.instanceMethod yX12_sendAlong ∈ KW := kw_of (i := 1037) (by decide +kernel) rfl
set_option maxRecDepth 20000 in
theorem kw_1038 : Cond.code yX12_sendAlong cX12_sendAlong 2 none ∈ KW := kw_of (i := 1038) rfl rfl
set_option maxRecDepth 20000 in
theorem kw_1039 : Cond.methodLink RX12 233 yX12_isReached ∈ KW := kw_of (i := 1039) (by decide +kernel) rfl
set_option maxRecDepth 20000 in
theorem kw_1041 : Cond.instanceMethod yX12_isReached ∈ KW := kw_of (i := 1041) (by decide +kernel) rfl
set_option maxRecDepth 20000 in
theorem kw_1042 : Cond.code yX12_isReached cX12_isReached 4 (some .boolean) ∈ KW := kw_of (i := 1042) rfl rfl
set_option maxRecDepth 20000 in
theorem kw_1043 : Cond.methodLink RX12 236 yX12_renew ∈ KW := kw_of (i := 1043) (by decide +kernel) rfl
set_option maxRecDepth 20000 in
theorem kw_1045 : Cond.instanceMethod yX12_renew ∈ KW := kw_of (i := 1045) (by decide +kernel) rfl
set_option maxRecDepth 20000 in
theorem kw_1046 : Cond.code yX12_renew cX12_renew 3 none ∈ KW := kw_of (i := 1046) rfl rfl
set_option maxRecDepth 20000 in
theorem kw_1047 : Cond.methodLink RX12 224 yX12_foldFor ∈ KW := kw_of (i := 1047) (by decide +kernel) rfl
set_option maxRecDepth 20000 in
theorem kw_1049 : Cond.instanceMethod yX12_foldFor ∈ KW := kw_of (i := 1049) (by decide +kernel) rfl
set_option maxRecDepth 20000 in
theorem kw_1050 : Cond.code yX12_foldFor cX12_foldFor 5 none ∈ KW := kw_of (i := 1050) rfl rfl
set_option maxRecDepth 20000 in
theorem kw_1051 : Cond.methodLink RX12 220 yX12_isOver ∈ KW := kw_of (i := 1051) (by decide +kernel) rfl
set_option maxRecDepth 20000 in
theorem kw_1053 : Cond.instanceMethod yX12_isOver ∈ KW := kw_of (i := 1053) (by decide +kernel) rfl
set_option maxRecDepth 20000 in
theorem kw_1054 : Cond.code yX12_isOver cX12_isOver 7 (some .boolean) ∈ KW := kw_of (i := 1054) rfl rfl
set_option maxRecDepth 20000 in
theorem kw_1055 : Cond.methodLink RX12 239 yX12_asBefore ∈ KW := kw_of (i := 1055) (by decide +kernel) rfl
set_option maxRecDepth 20000 in
theorem kw_1057 : Cond.instanceMethod yX12_asBefore ∈ KW := kw_of (i := 1057) (by decide +kernel) rfl
set_option maxRecDepth 20000 in
theorem kw_1058 : Cond.code yX12_asBefore cX12_asBefore 2 none ∈ KW := kw_of (i := 1058) rfl rfl
set_option maxRecDepth 20000 in
theorem kw_1071 : Cond.methodLink RX12 270 yX12_isArc ∈ KW := kw_of (i := 1071) (by decide +kernel) rfl
set_option maxRecDepth 20000 in
theorem kw_1073 : Cond.instanceMethod yX12_isArc ∈ KW := kw_of (i := 1073) (by decide +kernel) rfl
set_option maxRecDepth 20000 in
theorem kw_1074 : Cond.code yX12_isArc cX12_isArc 2 (some .boolean) ∈ KW := kw_of (i := 1074) rfl rfl
set_option maxRecDepth 20000 in
theorem kw_1075 : Cond.constantLong RX12 273 (-101) ∈ KW := kw_of (i := 1075) (by decide +kernel) rfl
set_option maxRecDepth 20000 in
theorem kw_1084 : Cond.constantLong RX12 275 (-102) ∈ KW := kw_of (i := 1084) (by decide +kernel) rfl
set_option maxRecDepth 20000 in
theorem inK_X0 : ∀ w ∈ u_ws RX0 TX0 4, w ∈ KW := kw_all [317, 319, 321, 323] (by decide +kernel) (by decide +kernel)
set_option maxRecDepth 20000 in
theorem inK_X1 : ∀ w ∈ u_ws RX1 TX1 7, w ∈ KW := kw_all [285, 287, 289, 291, 293, 295, 297] (by decide +kernel) (by decide +kernel)
set_option maxRecDepth 20000 in
theorem inK_X2 : ∀ w ∈ u_ws RX2 TX2 5, w ∈ KW := kw_all [202, 204, 206, 208, 210] (by decide +kernel) (by decide +kernel)
set_option maxRecDepth 20000 in
theorem inK_X3 : ∀ w ∈ u_ws RX3 TX3 11, w ∈ KW := kw_all [386, 388, 390, 392, 394, 396, 398, 400, 402, 404, 406] (by decide +kernel) (by decide +kernel)
set_option maxRecDepth 20000 in
theorem inK_X4 : ∀ w ∈ u_ws RX4 TX4 4, w ∈ KW := kw_all [230, 232, 234, 236] (by decide +kernel) (by decide +kernel)
set_option maxRecDepth 20000 in
theorem inK_X5 : ∀ w ∈ u_ws RX5 TX5 3, w ∈ KW := kw_all [243, 245, 247] (by decide +kernel) (by decide +kernel)
set_option maxRecDepth 20000 in
theorem inK_X6 : ∀ w ∈ u_ws RX6 TX6 2, w ∈ KW := kw_all [186, 188] (by decide +kernel) (by decide +kernel)
set_option maxRecDepth 20000 in
theorem inK_X7 : ∀ w ∈ u_ws RX7 TX7 12, w ∈ KW := kw_all [344, 346, 348, 350, 352, 354, 356, 358, 360, 362, 364, 366] (by decide +kernel) (by decide +kernel)
set_option maxRecDepth 20000 in
theorem inK_X8 : ∀ w ∈ u_ws RX8 TX8 6, w ∈ KW := kw_all [93, 95, 97, 99, 101, 103] (by decide +kernel) (by decide +kernel)
set_option maxRecDepth 20000 in
theorem inK_X9 : ∀ w ∈ u_ws RX9 TX9 3, w ∈ KW := kw_all [262, 264, 266] (by decide +kernel) (by decide +kernel)
set_option maxRecDepth 20000 in
theorem inK_X10 : ∀ w ∈ u_ws RX10 TX10 10, w ∈ KW := kw_all [153, 155, 157, 159, 161, 163, 165, 167, 169, 171] (by decide +kernel) (by decide +kernel)
set_option maxRecDepth 20000 in
theorem inK_X11 : ∀ w ∈ u_ws RX11 TX11 11, w ∈ KW := kw_all [420, 422, 424, 426, 428, 430, 432, 434, 436, 438, 440] (by decide +kernel) (by decide +kernel)
set_option maxRecDepth 20000 in
theorem inK_X12 : ∀ w ∈ u_ws RX12 TX12 53, w ∈ KW := kw_all [812, 814, 816, 818, 820, 822, 824, 826, 828, 830, 832, 834, 836, 838, 840, 842, 844, 846, 848, 850, 852, 854, 856, 858, 860, 862, 864, 866, 868, 870, 872, 874, 876, 878, 880, 882, 884, 886, 888, 890, 892, 894, 896, 898, 900, 902, 904, 906, 908, 910, 912, 914, 916] (by decide +kernel) (by decide +kernel)
end
section
def c_w (kA : Nat → ClassId) (ad : Nat → Nat) (σ : RS) : va_W := [(ad 0, .inr (11, [.ref (ad 1), .ref (ad 7), .ref (ad 14), .ref (ad 16), .ref (ad 17), .ref (ad 19), .ref (ad 22), .ref (ad 23), .ref (ad 24), .ref (ad 31), .int (rg_I σ 0)])),
  (ad 1, .inr (8, [.ref (ad 2), .ref (ad 3), .ref (ad 4), .ref (ad 5), .ref (ad 6), .int (rg_I σ 1)])),
  (ad 2, .inl (kA 0, 40, .inl (rg_A σ 0))),
  (ad 3, .inl (kA 0, 40, .inl (rg_A σ 1))),
  (ad 4, .inl (kA 0, 40, .inl (rg_A σ 2))),
  (ad 5, .inl (kA 0, 40, .inl (rg_A σ 3))),
  (ad 6, .inl (kA 1, 40, .inr (.inl (rg_B σ 0)))),
  (ad 7, .inr (10, [.ref (ad 8), .ref (ad 9), .ref (ad 10), .ref (ad 11), .ref (ad 12), .ref (ad 13), .int (rg_I σ 2), .int (rg_I σ 3), .int (rg_I σ 4), .long (rg_L σ 0)])),
  (ad 8, .inl (kA 1, 36, .inr (.inl (rg_B σ 1)))),
  (ad 9, .inl (kA 2, 12, .inl (rg_A σ 4))),
  (ad 10, .inl (kA 0, 12, .inl (rg_A σ 5))),
  (ad 11, .inl (kA 0, 40, .inl (rg_A σ 6))),
  (ad 12, .inl (kA 0, 40, .inl (rg_A σ 7))),
  (ad 13, .inl (kA 1, 40, .inr (.inl (rg_B σ 2)))),
  (ad 14, .inr (6, [.ref (ad 15), .int (rg_I σ 5)])),
  (ad 15, .inl (kA 0, 7, .inl (rg_A σ 8))),
  (ad 16, .inr (2, [.int (rg_I σ 6), .int (rg_I σ 7), .int (rg_I σ 8), .int (rg_I σ 9), .int (rg_I σ 10)])),
  (ad 17, .inr (5, [.ref (ad 18), .int (rg_I σ 11), .int (rg_I σ 12)])),
  (ad 18, .inl (kA 3, 7, .inr (.inr (.inr (.inr (fun j => some (ad (36 + 3 * j)))))))),
  (ad 19, .inr (9, [.ref (ad 20), .ref (ad 21), .int (rg_I σ 13)])),
  (ad 20, .inl (kA 0, 200, .inl (rg_A σ 9))),
  (ad 21, .inl (kA 1, 200, .inr (.inl (rg_B σ 3)))),
  (ad 22, .inr (1, [.ref (ad 1), .ref (ad 7), .int (rg_I σ 14), .int (rg_I σ 15), .long (rg_L σ 1), .int (rg_I σ 16), .int (rg_I σ 17)])),
  (ad 23, .inr (0, [.ref (ad 7), .ref (ad 14), .ref (ad 22), .ref (ad 16)])),
  (ad 24, .inr (7, [.ref (ad 7), .ref (ad 23), .ref (ad 16), .ref (ad 17), .ref (ad 19), .ref (ad 25), .ref (ad 26), .ref (ad 27), .ref (ad 28), .ref (ad 29), .ref (ad 30), .int (rg_I σ 18)])),
  (ad 25, .inl (kA 0, 40, .inl (rg_A σ 10))),
  (ad 26, .inl (kA 2, 40, .inl (rg_A σ 11))),
  (ad 27, .inl (kA 1, 40, .inr (.inl (rg_B σ 4)))),
  (ad 28, .inl (kA 2, 12, .inl (rg_A σ 12))),
  (ad 29, .inl (kA 2, 12, .inl (rg_A σ 13))),
  (ad 30, .inl (kA 1, 36, .inr (.inl (rg_B σ 5)))),
  (ad 31, .inr (3, [.ref (ad 7), .ref (ad 23), .ref (ad 16), .ref (ad 17), .ref (ad 19), .ref (ad 32), .ref (ad 33), .ref (ad 34), .ref (ad 35), .int (rg_I σ 19), .int (rg_I σ 20)])),
  (ad 32, .inl (kA 0, 60, .inl (rg_A σ 14))),
  (ad 33, .inl (kA 1, 60, .inr (.inl (rg_B σ 6)))),
  (ad 34, .inl (kA 1, 3, .inr (.inl (rg_B σ 7)))),
  (ad 35, .inl (kA 1, 3, .inr (.inl (rg_B σ 8)))),
  (ad 36, .inr (4, [.ref (ad 37), .ref (ad 38), .int (rg_I σ 21), .long (rg_L σ 2)])),
  (ad 37, .inl (kA 1, 36, .inr (.inl (rg_B σ 9)))),
  (ad 38, .inl (kA 2, 12, .inl (rg_A σ 15))),
  (ad 39, .inr (4, [.ref (ad 40), .ref (ad 41), .int (rg_I σ 22), .long (rg_L σ 3)])),
  (ad 40, .inl (kA 1, 36, .inr (.inl (rg_B σ 10)))),
  (ad 41, .inl (kA 2, 12, .inl (rg_A σ 16))),
  (ad 42, .inr (4, [.ref (ad 43), .ref (ad 44), .int (rg_I σ 23), .long (rg_L σ 4)])),
  (ad 43, .inl (kA 1, 36, .inr (.inl (rg_B σ 11)))),
  (ad 44, .inl (kA 2, 12, .inl (rg_A σ 17))),
  (ad 45, .inr (4, [.ref (ad 46), .ref (ad 47), .int (rg_I σ 24), .long (rg_L σ 5)])),
  (ad 46, .inl (kA 1, 36, .inr (.inl (rg_B σ 12)))),
  (ad 47, .inl (kA 2, 12, .inl (rg_A σ 18))),
  (ad 48, .inr (4, [.ref (ad 49), .ref (ad 50), .int (rg_I σ 25), .long (rg_L σ 6)])),
  (ad 49, .inl (kA 1, 36, .inr (.inl (rg_B σ 13)))),
  (ad 50, .inl (kA 2, 12, .inl (rg_A σ 19))),
  (ad 51, .inr (4, [.ref (ad 52), .ref (ad 53), .int (rg_I σ 26), .long (rg_L σ 7)])),
  (ad 52, .inl (kA 1, 36, .inr (.inl (rg_B σ 14)))),
  (ad 53, .inl (kA 2, 12, .inl (rg_A σ 20))),
  (ad 54, .inr (4, [.ref (ad 55), .ref (ad 56), .int (rg_I σ 27), .long (rg_L σ 8)])),
  (ad 55, .inl (kA 1, 36, .inr (.inl (rg_B σ 15)))),
  (ad 56, .inl (kA 2, 12, .inl (rg_A σ 21)))]
theorem c_D {kA : Nat → ClassId} {ad : Nat → Nat} (hap : jw_ap 57 ad) (σ : RS) : va_D (jw_A 57 ad) (c_w kA ad σ) := jw_D hap rfl
abbrev c_Qi (below : List Frame) (dC : Nat → ClassId) (dI : Nat → Nat → Nat) (kA : Nat → ClassId) (ad : Nat → Nat) (args : Array Value) (s : State) (res : Int32 × RS) : State → Prop := MQ below (va_Qi (fun r u => (r, u) = res) (fun u t => va_P (dC, dI) vwCl (c_w kA ad u) t.heap) (jw_A 57 ad)) args s 0 0 (jw_A 57 ad)
abbrev c_Ql (below : List Frame) (dC : Nat → ClassId) (dI : Nat → Nat → Nat) (kA : Nat → ClassId) (ad : Nat → Nat) (args : Array Value) (s : State) (res : Int64 × RS) : State → Prop := MQ below (va_Ql (fun r u => (r, u) = res) (fun u t => va_P (dC, dI) vwCl (c_w kA ad u) t.heap) (jw_A 57 ad)) args s 0 0 (jw_A 57 ad)
abbrev c_Qu (below : List Frame) (dC : Nat → ClassId) (dI : Nat → Nat → Nat) (kA : Nat → ClassId) (ad : Nat → Nat) (args : Array Value) (s : State) (res : RS) : State → Prop := MQ below (va_Qv (fun u => u = res) (fun u t => va_P (dC, dI) vwCl (c_w kA ad u) t.heap) (jw_A 57 ad)) args s 0 0 (jw_A 57 ad)
theorem c_lmem {kA : Nat → ClassId} {ad : Nat → Nat} {σ : RS} : ∀ {j : Nat}, j < 7 → (c_w kA ad σ)[36 + 3 * j]? = some (ad (36 + 3 * j), .inr (4, [.ref (ad (36 + 3 * j + 1)), .ref (ad (36 + 3 * j + 2)), .int (rg_I σ (21 + j)), .long (rg_L σ (2 + j))]))
  | 0, _ => rfl
  | 1, _ => rfl
  | 2, _ => rfl
  | 3, _ => rfl
  | 4, _ => rfl
  | 5, _ => rfl
  | 6, _ => rfl
  | j + 7, h => absurd h (by omega)
theorem c_lm1 {kA : Nat → ClassId} {ad : Nat → Nat} {σ : RS} : ∀ {j : Nat}, j < 7 → (c_w kA ad σ)[36 + 3 * j + 1]? = some (ad (36 + 3 * j + 1), .inl (kA 1, 36, .inr (.inl (rg_B σ (9 + j)))))
  | 0, _ => rfl
  | 1, _ => rfl
  | 2, _ => rfl
  | 3, _ => rfl
  | 4, _ => rfl
  | 5, _ => rfl
  | 6, _ => rfl
  | j + 7, h => absurd h (by omega)
theorem c_lm2 {kA : Nat → ClassId} {ad : Nat → Nat} {σ : RS} : ∀ {j : Nat}, j < 7 → (c_w kA ad σ)[36 + 3 * j + 2]? = some (ad (36 + 3 * j + 2), .inl (kA 2, 12, .inl (rg_A σ (15 + j))))
  | 0, _ => rfl
  | 1, _ => rfl
  | 2, _ => rfl
  | 3, _ => rfl
  | 4, _ => rfl
  | 5, _ => rfl
  | 6, _ => rfl
  | j + 7, h => absurd h (by omega)
theorem c_sm1 {kA : Nat → ClassId} {ad : Nat → Nat} {σ : RS} {f : Nat → Int64} : ∀ {j : Nat}, j < 7 → (c_w kA ad σ).set (36 + 3 * j + 1) (ad (36 + 3 * j + 1), .inl (kA 1, 36, .inr (.inl f))) = c_w kA ad (rs_B σ (9 + j) f)
  | 0, _ => rfl
  | 1, _ => rfl
  | 2, _ => rfl
  | 3, _ => rfl
  | 4, _ => rfl
  | 5, _ => rfl
  | 6, _ => rfl
  | j + 7, h => absurd h (by omega)
theorem c_sm2 {kA : Nat → ClassId} {ad : Nat → Nat} {σ : RS} {f : Nat → Int32} : ∀ {j : Nat}, j < 7 → (c_w kA ad σ).set (36 + 3 * j + 2) (ad (36 + 3 * j + 2), .inl (kA 2, 12, .inl f)) = c_w kA ad (rs_A σ (15 + j) f)
  | 0, _ => rfl
  | 1, _ => rfl
  | 2, _ => rfl
  | 3, _ => rfl
  | 4, _ => rfl
  | 5, _ => rfl
  | 6, _ => rfl
  | j + 7, h => absurd h (by omega)
theorem c_smI {kA : Nat → ClassId} {ad : Nat → Nat} {σ : RS} {v : Int32} : ∀ {j : Nat}, j < 7 → (c_w kA ad σ).set (36 + 3 * j) (ad (36 + 3 * j), .inr (4, [.ref (ad (36 + 3 * j + 1)), .ref (ad (36 + 3 * j + 2)), .int v, .long (rg_L σ (2 + j))])) = c_w kA ad (rs_I σ (21 + j) v)
  | 0, _ => rfl
  | 1, _ => rfl
  | 2, _ => rfl
  | 3, _ => rfl
  | 4, _ => rfl
  | 5, _ => rfl
  | 6, _ => rfl
  | j + 7, h => absurd h (by omega)
theorem c_smL {kA : Nat → ClassId} {ad : Nat → Nat} {σ : RS} {v : Int64} : ∀ {j : Nat}, j < 7 → (c_w kA ad σ).set (36 + 3 * j) (ad (36 + 3 * j), .inr (4, [.ref (ad (36 + 3 * j + 1)), .ref (ad (36 + 3 * j + 2)), .int (rg_I σ (21 + j)), .long v])) = c_w kA ad (rs_L σ (2 + j) v)
  | 0, _ => rfl
  | 1, _ => rfl
  | 2, _ => rfl
  | 3, _ => rfl
  | 4, _ => rfl
  | 5, _ => rfl
  | 6, _ => rfl
  | j + 7, h => absurd h (by omega)
theorem c_sA0 {kA : Nat → ClassId} {ad : Nat → Nat} {σ : RS} {f : Nat → Int32} : (c_w kA ad σ).set 2 (ad 2, .inl (kA 0, 40, .inl f)) = c_w kA ad (rs_A σ 0 f) := rfl
theorem c_sA1 {kA : Nat → ClassId} {ad : Nat → Nat} {σ : RS} {f : Nat → Int32} : (c_w kA ad σ).set 3 (ad 3, .inl (kA 0, 40, .inl f)) = c_w kA ad (rs_A σ 1 f) := rfl
theorem c_sA2 {kA : Nat → ClassId} {ad : Nat → Nat} {σ : RS} {f : Nat → Int32} : (c_w kA ad σ).set 4 (ad 4, .inl (kA 0, 40, .inl f)) = c_w kA ad (rs_A σ 2 f) := rfl
theorem c_sA3 {kA : Nat → ClassId} {ad : Nat → Nat} {σ : RS} {f : Nat → Int32} : (c_w kA ad σ).set 5 (ad 5, .inl (kA 0, 40, .inl f)) = c_w kA ad (rs_A σ 3 f) := rfl
theorem c_sB0 {kA : Nat → ClassId} {ad : Nat → Nat} {σ : RS} {f : Nat → Int64} : (c_w kA ad σ).set 6 (ad 6, .inl (kA 1, 40, .inr (.inl f))) = c_w kA ad (rs_B σ 0 f) := rfl
theorem c_sB1 {kA : Nat → ClassId} {ad : Nat → Nat} {σ : RS} {f : Nat → Int64} : (c_w kA ad σ).set 8 (ad 8, .inl (kA 1, 36, .inr (.inl f))) = c_w kA ad (rs_B σ 1 f) := rfl
theorem c_sA4 {kA : Nat → ClassId} {ad : Nat → Nat} {σ : RS} {f : Nat → Int32} : (c_w kA ad σ).set 9 (ad 9, .inl (kA 2, 12, .inl f)) = c_w kA ad (rs_A σ 4 f) := rfl
theorem c_sA5 {kA : Nat → ClassId} {ad : Nat → Nat} {σ : RS} {f : Nat → Int32} : (c_w kA ad σ).set 10 (ad 10, .inl (kA 0, 12, .inl f)) = c_w kA ad (rs_A σ 5 f) := rfl
theorem c_sA6 {kA : Nat → ClassId} {ad : Nat → Nat} {σ : RS} {f : Nat → Int32} : (c_w kA ad σ).set 11 (ad 11, .inl (kA 0, 40, .inl f)) = c_w kA ad (rs_A σ 6 f) := rfl
theorem c_sA7 {kA : Nat → ClassId} {ad : Nat → Nat} {σ : RS} {f : Nat → Int32} : (c_w kA ad σ).set 12 (ad 12, .inl (kA 0, 40, .inl f)) = c_w kA ad (rs_A σ 7 f) := rfl
theorem c_sB2 {kA : Nat → ClassId} {ad : Nat → Nat} {σ : RS} {f : Nat → Int64} : (c_w kA ad σ).set 13 (ad 13, .inl (kA 1, 40, .inr (.inl f))) = c_w kA ad (rs_B σ 2 f) := rfl
theorem c_sA8 {kA : Nat → ClassId} {ad : Nat → Nat} {σ : RS} {f : Nat → Int32} : (c_w kA ad σ).set 15 (ad 15, .inl (kA 0, 7, .inl f)) = c_w kA ad (rs_A σ 8 f) := rfl
theorem c_sA9 {kA : Nat → ClassId} {ad : Nat → Nat} {σ : RS} {f : Nat → Int32} : (c_w kA ad σ).set 20 (ad 20, .inl (kA 0, 200, .inl f)) = c_w kA ad (rs_A σ 9 f) := rfl
theorem c_sB3 {kA : Nat → ClassId} {ad : Nat → Nat} {σ : RS} {f : Nat → Int64} : (c_w kA ad σ).set 21 (ad 21, .inl (kA 1, 200, .inr (.inl f))) = c_w kA ad (rs_B σ 3 f) := rfl
theorem c_sA10 {kA : Nat → ClassId} {ad : Nat → Nat} {σ : RS} {f : Nat → Int32} : (c_w kA ad σ).set 25 (ad 25, .inl (kA 0, 40, .inl f)) = c_w kA ad (rs_A σ 10 f) := rfl
theorem c_sA11 {kA : Nat → ClassId} {ad : Nat → Nat} {σ : RS} {f : Nat → Int32} : (c_w kA ad σ).set 26 (ad 26, .inl (kA 2, 40, .inl f)) = c_w kA ad (rs_A σ 11 f) := rfl
theorem c_sB4 {kA : Nat → ClassId} {ad : Nat → Nat} {σ : RS} {f : Nat → Int64} : (c_w kA ad σ).set 27 (ad 27, .inl (kA 1, 40, .inr (.inl f))) = c_w kA ad (rs_B σ 4 f) := rfl
theorem c_sA12 {kA : Nat → ClassId} {ad : Nat → Nat} {σ : RS} {f : Nat → Int32} : (c_w kA ad σ).set 28 (ad 28, .inl (kA 2, 12, .inl f)) = c_w kA ad (rs_A σ 12 f) := rfl
theorem c_sA13 {kA : Nat → ClassId} {ad : Nat → Nat} {σ : RS} {f : Nat → Int32} : (c_w kA ad σ).set 29 (ad 29, .inl (kA 2, 12, .inl f)) = c_w kA ad (rs_A σ 13 f) := rfl
theorem c_sB5 {kA : Nat → ClassId} {ad : Nat → Nat} {σ : RS} {f : Nat → Int64} : (c_w kA ad σ).set 30 (ad 30, .inl (kA 1, 36, .inr (.inl f))) = c_w kA ad (rs_B σ 5 f) := rfl
theorem c_sA14 {kA : Nat → ClassId} {ad : Nat → Nat} {σ : RS} {f : Nat → Int32} : (c_w kA ad σ).set 32 (ad 32, .inl (kA 0, 60, .inl f)) = c_w kA ad (rs_A σ 14 f) := rfl
theorem c_sB6 {kA : Nat → ClassId} {ad : Nat → Nat} {σ : RS} {f : Nat → Int64} : (c_w kA ad σ).set 33 (ad 33, .inl (kA 1, 60, .inr (.inl f))) = c_w kA ad (rs_B σ 6 f) := rfl
theorem c_sB7 {kA : Nat → ClassId} {ad : Nat → Nat} {σ : RS} {f : Nat → Int64} : (c_w kA ad σ).set 34 (ad 34, .inl (kA 1, 3, .inr (.inl f))) = c_w kA ad (rs_B σ 7 f) := rfl
theorem c_sB8 {kA : Nat → ClassId} {ad : Nat → Nat} {σ : RS} {f : Nat → Int64} : (c_w kA ad σ).set 35 (ad 35, .inl (kA 1, 3, .inr (.inl f))) = c_w kA ad (rs_B σ 8 f) := rfl
section LYc
variable {p : Program} {l : Launch} {e : Env} {R : Room} {s : State} {m : MethodId} {args : Array Value} {below : List Frame} {meth : Method} {c : Code} {H H0 : Heap} {locs : List Loc} {cells slots : Nat} {Q : State → Prop}
variable {cc : ByteArray} {pc : Nat} {ls : Array Slot} {rest : List Value} {β : Type} {r : β} {dC : Nat → ClassId} {dI : Nat → Nat → Nat} {kA : Nat → ClassId} {ad : Nat → Nat} {σ : RS} {own : String} {idx : Nat}

theorem c_rld (hx : p.tables.exec = Jvm.exec) (hb : c.code = cc) (hK : va_K (dC, dI) vwCl (jtys kA) s) (hP : va_P (dC, dI) vwCl (c_w kA ad σ) H) {i : Int32} {F : Nat → Option β} (hf : kn_ld (fun j => j) 7 i F = some r) (hdg : decode cc pc = .ok (.aaload, 1)) (kk : ∀ j : Nat, j < 7 → F j = some r → W p l e R s m args below meth c H locs cells slots Q (F0 m (pc + 1) ls (.ref (ad (36 + 3 * j)) :: rest))) : W p l e R s m args below meth c H locs cells slots Q (F0 m pc ls (.int i :: .ref (ad 18) :: rest)) := va_aldq hx hb hK hP 18 3 rfl rfl (kn_ld_e hf).1 hdg (kk i.toNatClampNeg (Nat.not_le.mp fun q => (kn_ld_e hf).1 (Or.inr q)) (kn_ld_e hf).2)
theorem c_gX11_terms (hx : p.tables.exec = Jvm.exec) (hb : c.code = cc) (hts : ∀ w ∈ KW, w.before args s = true) (hown : s.vm.findClass own = some m.cls) (hK : va_K (dC, dI) vwCl (jtys kA) s) (hP : va_P (dC, dI) vwCl (c_w kA ad σ) H) (hlink : (Cond.fieldLink own idx "WalkedRounds" "terms" "LWalkedRounds$Terms;").before args s = true) (hdg : decode cc pc = .ok (.getfield idx, 3)) (kk : W p l e R s m args below meth c H locs cells slots Q (F0 m (pc + 3) ls (.ref (ad 1) :: rest))) : W p l e R s m args below meth c H locs cells slots Q (F0 m pc ls (.ref (ad 0) :: rest)) := va_get (D := (dC, dI)) (ci := 11) (C := RX11) (T := TX11) (N := 11) hx hb hts inK_X11 hown hK hP 0 rfl rfl 0 (by decide) hlink (fun _ h => h) rfl hdg kk
theorem c_gX11_web (hx : p.tables.exec = Jvm.exec) (hb : c.code = cc) (hts : ∀ w ∈ KW, w.before args s = true) (hown : s.vm.findClass own = some m.cls) (hK : va_K (dC, dI) vwCl (jtys kA) s) (hP : va_P (dC, dI) vwCl (c_w kA ad σ) H) (hlink : (Cond.fieldLink own idx "WalkedRounds" "web" "LWalkedRounds$Web;").before args s = true) (hdg : decode cc pc = .ok (.getfield idx, 3)) (kk : W p l e R s m args below meth c H locs cells slots Q (F0 m (pc + 3) ls (.ref (ad 7) :: rest))) : W p l e R s m args below meth c H locs cells slots Q (F0 m pc ls (.ref (ad 0) :: rest)) := va_get (D := (dC, dI)) (ci := 11) (C := RX11) (T := TX11) (N := 11) hx hb hts inK_X11 hown hK hP 0 rfl rfl 1 (by decide) hlink (fun _ h => h) rfl hdg kk
theorem c_gX11_program (hx : p.tables.exec = Jvm.exec) (hb : c.code = cc) (hts : ∀ w ∈ KW, w.before args s = true) (hown : s.vm.findClass own = some m.cls) (hK : va_K (dC, dI) vwCl (jtys kA) s) (hP : va_P (dC, dI) vwCl (c_w kA ad σ) H) (hlink : (Cond.fieldLink own idx "WalkedRounds" "program" "LWalkedRounds$Program;").before args s = true) (hdg : decode cc pc = .ok (.getfield idx, 3)) (kk : W p l e R s m args below meth c H locs cells slots Q (F0 m (pc + 3) ls (.ref (ad 14) :: rest))) : W p l e R s m args below meth c H locs cells slots Q (F0 m pc ls (.ref (ad 0) :: rest)) := va_get (D := (dC, dI)) (ci := 11) (C := RX11) (T := TX11) (N := 11) hx hb hts inK_X11 hown hK hP 0 rfl rfl 2 (by decide) hlink (fun _ h => h) rfl hdg kk
theorem c_gX11_failure (hx : p.tables.exec = Jvm.exec) (hb : c.code = cc) (hts : ∀ w ∈ KW, w.before args s = true) (hown : s.vm.findClass own = some m.cls) (hK : va_K (dC, dI) vwCl (jtys kA) s) (hP : va_P (dC, dI) vwCl (c_w kA ad σ) H) (hlink : (Cond.fieldLink own idx "WalkedRounds" "failure" "LWalkedRounds$Failure;").before args s = true) (hdg : decode cc pc = .ok (.getfield idx, 3)) (kk : W p l e R s m args below meth c H locs cells slots Q (F0 m (pc + 3) ls (.ref (ad 16) :: rest))) : W p l e R s m args below meth c H locs cells slots Q (F0 m pc ls (.ref (ad 0) :: rest)) := va_get (D := (dC, dI)) (ci := 11) (C := RX11) (T := TX11) (N := 11) hx hb hts inK_X11 hown hK hP 0 rfl rfl 3 (by decide) hlink (fun _ h => h) rfl hdg kk
theorem c_gX11_past (hx : p.tables.exec = Jvm.exec) (hb : c.code = cc) (hts : ∀ w ∈ KW, w.before args s = true) (hown : s.vm.findClass own = some m.cls) (hK : va_K (dC, dI) vwCl (jtys kA) s) (hP : va_P (dC, dI) vwCl (c_w kA ad σ) H) (hlink : (Cond.fieldLink own idx "WalkedRounds" "past" "LWalkedRounds$Past;").before args s = true) (hdg : decode cc pc = .ok (.getfield idx, 3)) (kk : W p l e R s m args below meth c H locs cells slots Q (F0 m (pc + 3) ls (.ref (ad 17) :: rest))) : W p l e R s m args below meth c H locs cells slots Q (F0 m pc ls (.ref (ad 0) :: rest)) := va_get (D := (dC, dI)) (ci := 11) (C := RX11) (T := TX11) (N := 11) hx hb hts inK_X11 hown hK hP 0 rfl rfl 4 (by decide) hlink (fun _ h => h) rfl hdg kk
theorem c_gX11_told (hx : p.tables.exec = Jvm.exec) (hb : c.code = cc) (hts : ∀ w ∈ KW, w.before args s = true) (hown : s.vm.findClass own = some m.cls) (hK : va_K (dC, dI) vwCl (jtys kA) s) (hP : va_P (dC, dI) vwCl (c_w kA ad σ) H) (hlink : (Cond.fieldLink own idx "WalkedRounds" "told" "LWalkedRounds$Told;").before args s = true) (hdg : decode cc pc = .ok (.getfield idx, 3)) (kk : W p l e R s m args below meth c H locs cells slots Q (F0 m (pc + 3) ls (.ref (ad 19) :: rest))) : W p l e R s m args below meth c H locs cells slots Q (F0 m pc ls (.ref (ad 0) :: rest)) := va_get (D := (dC, dI)) (ci := 11) (C := RX11) (T := TX11) (N := 11) hx hb hts inK_X11 hown hK hP 0 rfl rfl 5 (by decide) hlink (fun _ h => h) rfl hdg kk
theorem c_gX11_asker (hx : p.tables.exec = Jvm.exec) (hb : c.code = cc) (hts : ∀ w ∈ KW, w.before args s = true) (hown : s.vm.findClass own = some m.cls) (hK : va_K (dC, dI) vwCl (jtys kA) s) (hP : va_P (dC, dI) vwCl (c_w kA ad σ) H) (hlink : (Cond.fieldLink own idx "WalkedRounds" "asker" "LWalkedRounds$Asker;").before args s = true) (hdg : decode cc pc = .ok (.getfield idx, 3)) (kk : W p l e R s m args below meth c H locs cells slots Q (F0 m (pc + 3) ls (.ref (ad 22) :: rest))) : W p l e R s m args below meth c H locs cells slots Q (F0 m pc ls (.ref (ad 0) :: rest)) := va_get (D := (dC, dI)) (ci := 11) (C := RX11) (T := TX11) (N := 11) hx hb hts inK_X11 hown hK hP 0 rfl rfl 6 (by decide) hlink (fun _ h => h) rfl hdg kk
theorem c_gX11_actor (hx : p.tables.exec = Jvm.exec) (hb : c.code = cc) (hts : ∀ w ∈ KW, w.before args s = true) (hown : s.vm.findClass own = some m.cls) (hK : va_K (dC, dI) vwCl (jtys kA) s) (hP : va_P (dC, dI) vwCl (c_w kA ad σ) H) (hlink : (Cond.fieldLink own idx "WalkedRounds" "actor" "LWalkedRounds$Actor;").before args s = true) (hdg : decode cc pc = .ok (.getfield idx, 3)) (kk : W p l e R s m args below meth c H locs cells slots Q (F0 m (pc + 3) ls (.ref (ad 23) :: rest))) : W p l e R s m args below meth c H locs cells slots Q (F0 m pc ls (.ref (ad 0) :: rest)) := va_get (D := (dC, dI)) (ci := 11) (C := RX11) (T := TX11) (N := 11) hx hb hts inK_X11 hown hK hP 0 rfl rfl 7 (by decide) hlink (fun _ h => h) rfl hdg kk
theorem c_gX11_roundWalk (hx : p.tables.exec = Jvm.exec) (hb : c.code = cc) (hts : ∀ w ∈ KW, w.before args s = true) (hown : s.vm.findClass own = some m.cls) (hK : va_K (dC, dI) vwCl (jtys kA) s) (hP : va_P (dC, dI) vwCl (c_w kA ad σ) H) (hlink : (Cond.fieldLink own idx "WalkedRounds" "roundWalk" "LWalkedRounds$RoundWalk;").before args s = true) (hdg : decode cc pc = .ok (.getfield idx, 3)) (kk : W p l e R s m args below meth c H locs cells slots Q (F0 m (pc + 3) ls (.ref (ad 24) :: rest))) : W p l e R s m args below meth c H locs cells slots Q (F0 m pc ls (.ref (ad 0) :: rest)) := va_get (D := (dC, dI)) (ci := 11) (C := RX11) (T := TX11) (N := 11) hx hb hts inK_X11 hown hK hP 0 rfl rfl 8 (by decide) hlink (fun _ h => h) rfl hdg kk
theorem c_gX11_lineWalk (hx : p.tables.exec = Jvm.exec) (hb : c.code = cc) (hts : ∀ w ∈ KW, w.before args s = true) (hown : s.vm.findClass own = some m.cls) (hK : va_K (dC, dI) vwCl (jtys kA) s) (hP : va_P (dC, dI) vwCl (c_w kA ad σ) H) (hlink : (Cond.fieldLink own idx "WalkedRounds" "lineWalk" "LWalkedRounds$LineWalk;").before args s = true) (hdg : decode cc pc = .ok (.getfield idx, 3)) (kk : W p l e R s m args below meth c H locs cells slots Q (F0 m (pc + 3) ls (.ref (ad 31) :: rest))) : W p l e R s m args below meth c H locs cells slots Q (F0 m pc ls (.ref (ad 0) :: rest)) := va_get (D := (dC, dI)) (ci := 11) (C := RX11) (T := TX11) (N := 11) hx hb hts inK_X11 hown hK hP 0 rfl rfl 9 (by decide) hlink (fun _ h => h) rfl hdg kk
theorem c_gX11_whyAsked (hx : p.tables.exec = Jvm.exec) (hb : c.code = cc) (hts : ∀ w ∈ KW, w.before args s = true) (hown : s.vm.findClass own = some m.cls) (hK : va_K (dC, dI) vwCl (jtys kA) s) (hP : va_P (dC, dI) vwCl (c_w kA ad σ) H) (hlink : (Cond.fieldLink own idx "WalkedRounds" "whyAsked" "I").before args s = true) (hdg : decode cc pc = .ok (.getfield idx, 3)) (kk : W p l e R s m args below meth c H locs cells slots Q (F0 m (pc + 3) ls (.int (rg_I σ 0) :: rest))) : W p l e R s m args below meth c H locs cells slots Q (F0 m pc ls (.ref (ad 0) :: rest)) := va_get (D := (dC, dI)) (ci := 11) (C := RX11) (T := TX11) (N := 11) hx hb hts inK_X11 hown hK hP 0 rfl rfl 10 (by decide) hlink (fun _ h => h) rfl hdg kk
theorem c_pX11_whyAsked (hx : p.tables.exec = Jvm.exec) (hb : c.code = cc) (hts : ∀ w ∈ KW, w.before args s = true) (hown : s.vm.findClass own = some m.cls) (hK : va_K (dC, dI) vwCl (jtys kA) s) (hap : jw_ap 57 ad) (hP : va_P (dC, dI) vwCl (c_w kA ad σ) H) (hS : va_S (jw_A 57 ad) H0 H locs) {v : Int32} {F : RS → Option β} (hf : kn_v (rs_I σ 0 v) F = some r) (hlink : (Cond.fieldLink own idx "WalkedRounds" "whyAsked" "I").before args s = true) (hdg : decode cc pc = .ok (.putfield idx, 3)) (kk : ∀ (σ2 : RS) (H1 : Heap) (locs1 : List Loc), va_P (dC, dI) vwCl (c_w kA ad σ2) H1 → va_S (jw_A 57 ad) H0 H1 locs1 → F σ2 = some r → W p l e R s m args below meth c H1 locs1 cells slots Q (F0 m (pc + 3) ls rest)) : W p l e R s m args below meth c H locs cells slots Q (F0 m pc ls (.int v :: .ref (ad 0) :: rest)) := va_put (D := (dC, dI)) (ci := 11) (v := .int v) (ty := .int) (C := RX11) (T := TX11) (N := 11) hx hb hts inK_X11 tyX11 tyX11_ok nmX11 hown hK hP (c_D hap σ) hS 0 rfl rfl 10 (by decide) hlink (fun _ h => h) rfl (by decide +kernel) rfl rfl (Nat.le_of_ble_eq_true rfl) hdg (fun H1 locs1 h1 _ h3 => kk (rs_I σ 0 v) H1 locs1 h1 h3 hf)
theorem c_gX8_kinds (hx : p.tables.exec = Jvm.exec) (hb : c.code = cc) (hts : ∀ w ∈ KW, w.before args s = true) (hown : s.vm.findClass own = some m.cls) (hK : va_K (dC, dI) vwCl (jtys kA) s) (hP : va_P (dC, dI) vwCl (c_w kA ad σ) H) (hlink : (Cond.fieldLink own idx "WalkedRounds$Terms" "kinds" "[I").before args s = true) (hdg : decode cc pc = .ok (.getfield idx, 3)) (kk : W p l e R s m args below meth c H locs cells slots Q (F0 m (pc + 3) ls (.ref (ad 2) :: rest))) : W p l e R s m args below meth c H locs cells slots Q (F0 m pc ls (.ref (ad 1) :: rest)) := va_get (D := (dC, dI)) (ci := 8) (C := RX8) (T := TX8) (N := 6) hx hb hts inK_X8 hown hK hP 1 rfl rfl 0 (by decide) hlink (fun _ h => h) rfl hdg kk
theorem c_gX8_partA (hx : p.tables.exec = Jvm.exec) (hb : c.code = cc) (hts : ∀ w ∈ KW, w.before args s = true) (hown : s.vm.findClass own = some m.cls) (hK : va_K (dC, dI) vwCl (jtys kA) s) (hP : va_P (dC, dI) vwCl (c_w kA ad σ) H) (hlink : (Cond.fieldLink own idx "WalkedRounds$Terms" "partA" "[I").before args s = true) (hdg : decode cc pc = .ok (.getfield idx, 3)) (kk : W p l e R s m args below meth c H locs cells slots Q (F0 m (pc + 3) ls (.ref (ad 3) :: rest))) : W p l e R s m args below meth c H locs cells slots Q (F0 m pc ls (.ref (ad 1) :: rest)) := va_get (D := (dC, dI)) (ci := 8) (C := RX8) (T := TX8) (N := 6) hx hb hts inK_X8 hown hK hP 1 rfl rfl 1 (by decide) hlink (fun _ h => h) rfl hdg kk
theorem c_gX8_partB (hx : p.tables.exec = Jvm.exec) (hb : c.code = cc) (hts : ∀ w ∈ KW, w.before args s = true) (hown : s.vm.findClass own = some m.cls) (hK : va_K (dC, dI) vwCl (jtys kA) s) (hP : va_P (dC, dI) vwCl (c_w kA ad σ) H) (hlink : (Cond.fieldLink own idx "WalkedRounds$Terms" "partB" "[I").before args s = true) (hdg : decode cc pc = .ok (.getfield idx, 3)) (kk : W p l e R s m args below meth c H locs cells slots Q (F0 m (pc + 3) ls (.ref (ad 4) :: rest))) : W p l e R s m args below meth c H locs cells slots Q (F0 m pc ls (.ref (ad 1) :: rest)) := va_get (D := (dC, dI)) (ci := 8) (C := RX8) (T := TX8) (N := 6) hx hb hts inK_X8 hown hK hP 1 rfl rfl 2 (by decide) hlink (fun _ h => h) rfl hdg kk
theorem c_gX8_partC (hx : p.tables.exec = Jvm.exec) (hb : c.code = cc) (hts : ∀ w ∈ KW, w.before args s = true) (hown : s.vm.findClass own = some m.cls) (hK : va_K (dC, dI) vwCl (jtys kA) s) (hP : va_P (dC, dI) vwCl (c_w kA ad σ) H) (hlink : (Cond.fieldLink own idx "WalkedRounds$Terms" "partC" "[I").before args s = true) (hdg : decode cc pc = .ok (.getfield idx, 3)) (kk : W p l e R s m args below meth c H locs cells slots Q (F0 m (pc + 3) ls (.ref (ad 5) :: rest))) : W p l e R s m args below meth c H locs cells slots Q (F0 m pc ls (.ref (ad 1) :: rest)) := va_get (D := (dC, dI)) (ci := 8) (C := RX8) (T := TX8) (N := 6) hx hb hts inK_X8 hown hK hP 1 rfl rfl 3 (by decide) hlink (fun _ h => h) rfl hdg kk
theorem c_gX8_numbers (hx : p.tables.exec = Jvm.exec) (hb : c.code = cc) (hts : ∀ w ∈ KW, w.before args s = true) (hown : s.vm.findClass own = some m.cls) (hK : va_K (dC, dI) vwCl (jtys kA) s) (hP : va_P (dC, dI) vwCl (c_w kA ad σ) H) (hlink : (Cond.fieldLink own idx "WalkedRounds$Terms" "numbers" "[J").before args s = true) (hdg : decode cc pc = .ok (.getfield idx, 3)) (kk : W p l e R s m args below meth c H locs cells slots Q (F0 m (pc + 3) ls (.ref (ad 6) :: rest))) : W p l e R s m args below meth c H locs cells slots Q (F0 m pc ls (.ref (ad 1) :: rest)) := va_get (D := (dC, dI)) (ci := 8) (C := RX8) (T := TX8) (N := 6) hx hb hts inK_X8 hown hK hP 1 rfl rfl 4 (by decide) hlink (fun _ h => h) rfl hdg kk
theorem c_gX8_size (hx : p.tables.exec = Jvm.exec) (hb : c.code = cc) (hts : ∀ w ∈ KW, w.before args s = true) (hown : s.vm.findClass own = some m.cls) (hK : va_K (dC, dI) vwCl (jtys kA) s) (hP : va_P (dC, dI) vwCl (c_w kA ad σ) H) (hlink : (Cond.fieldLink own idx "WalkedRounds$Terms" "size" "I").before args s = true) (hdg : decode cc pc = .ok (.getfield idx, 3)) (kk : W p l e R s m args below meth c H locs cells slots Q (F0 m (pc + 3) ls (.int (rg_I σ 1) :: rest))) : W p l e R s m args below meth c H locs cells slots Q (F0 m pc ls (.ref (ad 1) :: rest)) := va_get (D := (dC, dI)) (ci := 8) (C := RX8) (T := TX8) (N := 6) hx hb hts inK_X8 hown hK hP 1 rfl rfl 5 (by decide) hlink (fun _ h => h) rfl hdg kk
theorem c_pX8_size (hx : p.tables.exec = Jvm.exec) (hb : c.code = cc) (hts : ∀ w ∈ KW, w.before args s = true) (hown : s.vm.findClass own = some m.cls) (hK : va_K (dC, dI) vwCl (jtys kA) s) (hap : jw_ap 57 ad) (hP : va_P (dC, dI) vwCl (c_w kA ad σ) H) (hS : va_S (jw_A 57 ad) H0 H locs) {v : Int32} {F : RS → Option β} (hf : kn_v (rs_I σ 1 v) F = some r) (hlink : (Cond.fieldLink own idx "WalkedRounds$Terms" "size" "I").before args s = true) (hdg : decode cc pc = .ok (.putfield idx, 3)) (kk : ∀ (σ2 : RS) (H1 : Heap) (locs1 : List Loc), va_P (dC, dI) vwCl (c_w kA ad σ2) H1 → va_S (jw_A 57 ad) H0 H1 locs1 → F σ2 = some r → W p l e R s m args below meth c H1 locs1 cells slots Q (F0 m (pc + 3) ls rest)) : W p l e R s m args below meth c H locs cells slots Q (F0 m pc ls (.int v :: .ref (ad 1) :: rest)) := va_put (D := (dC, dI)) (ci := 8) (v := .int v) (ty := .int) (C := RX8) (T := TX8) (N := 6) hx hb hts inK_X8 tyX8 tyX8_ok nmX8 hown hK hP (c_D hap σ) hS 1 rfl rfl 5 (by decide) hlink (fun _ h => h) rfl (by decide +kernel) rfl rfl (Nat.le_of_ble_eq_true rfl) hdg (fun H1 locs1 h1 _ h3 => kk (rs_I σ 1 v) H1 locs1 h1 h3 hf)
theorem c_gX10_states (hx : p.tables.exec = Jvm.exec) (hb : c.code = cc) (hts : ∀ w ∈ KW, w.before args s = true) (hown : s.vm.findClass own = some m.cls) (hK : va_K (dC, dI) vwCl (jtys kA) s) (hP : va_P (dC, dI) vwCl (c_w kA ad σ) H) (hlink : (Cond.fieldLink own idx "WalkedRounds$Web" "states" "[J").before args s = true) (hdg : decode cc pc = .ok (.getfield idx, 3)) (kk : W p l e R s m args below meth c H locs cells slots Q (F0 m (pc + 3) ls (.ref (ad 8) :: rest))) : W p l e R s m args below meth c H locs cells slots Q (F0 m pc ls (.ref (ad 7) :: rest)) := va_get (D := (dC, dI)) (ci := 10) (C := RX10) (T := TX10) (N := 10) hx hb hts inK_X10 hown hK hP 7 rfl rfl 0 (by decide) hlink (fun _ h => h) rfl hdg kk
theorem c_gX10_awake (hx : p.tables.exec = Jvm.exec) (hb : c.code = cc) (hts : ∀ w ∈ KW, w.before args s = true) (hown : s.vm.findClass own = some m.cls) (hK : va_K (dC, dI) vwCl (jtys kA) s) (hP : va_P (dC, dI) vwCl (c_w kA ad σ) H) (hlink : (Cond.fieldLink own idx "WalkedRounds$Web" "awake" "[Z").before args s = true) (hdg : decode cc pc = .ok (.getfield idx, 3)) (kk : W p l e R s m args below meth c H locs cells slots Q (F0 m (pc + 3) ls (.ref (ad 9) :: rest))) : W p l e R s m args below meth c H locs cells slots Q (F0 m pc ls (.ref (ad 7) :: rest)) := va_get (D := (dC, dI)) (ci := 10) (C := RX10) (T := TX10) (N := 10) hx hb hts inK_X10 hown hK hP 7 rfl rfl 1 (by decide) hlink (fun _ h => h) rfl hdg kk
theorem c_gX10_degrees (hx : p.tables.exec = Jvm.exec) (hb : c.code = cc) (hts : ∀ w ∈ KW, w.before args s = true) (hown : s.vm.findClass own = some m.cls) (hK : va_K (dC, dI) vwCl (jtys kA) s) (hP : va_P (dC, dI) vwCl (c_w kA ad σ) H) (hlink : (Cond.fieldLink own idx "WalkedRounds$Web" "degrees" "[I").before args s = true) (hdg : decode cc pc = .ok (.getfield idx, 3)) (kk : W p l e R s m args below meth c H locs cells slots Q (F0 m (pc + 3) ls (.ref (ad 10) :: rest))) : W p l e R s m args below meth c H locs cells slots Q (F0 m pc ls (.ref (ad 7) :: rest)) := va_get (D := (dC, dI)) (ci := 10) (C := RX10) (T := TX10) (N := 10) hx hb hts inK_X10 hown hK hP 7 rfl rfl 2 (by decide) hlink (fun _ h => h) rfl hdg kk
theorem c_gX10_from (hx : p.tables.exec = Jvm.exec) (hb : c.code = cc) (hts : ∀ w ∈ KW, w.before args s = true) (hown : s.vm.findClass own = some m.cls) (hK : va_K (dC, dI) vwCl (jtys kA) s) (hP : va_P (dC, dI) vwCl (c_w kA ad σ) H) (hlink : (Cond.fieldLink own idx "WalkedRounds$Web" "from" "[I").before args s = true) (hdg : decode cc pc = .ok (.getfield idx, 3)) (kk : W p l e R s m args below meth c H locs cells slots Q (F0 m (pc + 3) ls (.ref (ad 11) :: rest))) : W p l e R s m args below meth c H locs cells slots Q (F0 m pc ls (.ref (ad 7) :: rest)) := va_get (D := (dC, dI)) (ci := 10) (C := RX10) (T := TX10) (N := 10) hx hb hts inK_X10 hown hK hP 7 rfl rfl 3 (by decide) hlink (fun _ h => h) rfl hdg kk
theorem c_gX10_to (hx : p.tables.exec = Jvm.exec) (hb : c.code = cc) (hts : ∀ w ∈ KW, w.before args s = true) (hown : s.vm.findClass own = some m.cls) (hK : va_K (dC, dI) vwCl (jtys kA) s) (hP : va_P (dC, dI) vwCl (c_w kA ad σ) H) (hlink : (Cond.fieldLink own idx "WalkedRounds$Web" "to" "[I").before args s = true) (hdg : decode cc pc = .ok (.getfield idx, 3)) (kk : W p l e R s m args below meth c H locs cells slots Q (F0 m (pc + 3) ls (.ref (ad 12) :: rest))) : W p l e R s m args below meth c H locs cells slots Q (F0 m pc ls (.ref (ad 7) :: rest)) := va_get (D := (dC, dI)) (ci := 10) (C := RX10) (T := TX10) (N := 10) hx hb hts inK_X10 hown hK hP 7 rfl rfl 4 (by decide) hlink (fun _ h => h) rfl hdg kk
theorem c_gX10_weights (hx : p.tables.exec = Jvm.exec) (hb : c.code = cc) (hts : ∀ w ∈ KW, w.before args s = true) (hown : s.vm.findClass own = some m.cls) (hK : va_K (dC, dI) vwCl (jtys kA) s) (hP : va_P (dC, dI) vwCl (c_w kA ad σ) H) (hlink : (Cond.fieldLink own idx "WalkedRounds$Web" "weights" "[J").before args s = true) (hdg : decode cc pc = .ok (.getfield idx, 3)) (kk : W p l e R s m args below meth c H locs cells slots Q (F0 m (pc + 3) ls (.ref (ad 13) :: rest))) : W p l e R s m args below meth c H locs cells slots Q (F0 m pc ls (.ref (ad 7) :: rest)) := va_get (D := (dC, dI)) (ci := 10) (C := RX10) (T := TX10) (N := 10) hx hb hts inK_X10 hown hK hP 7 rfl rfl 5 (by decide) hlink (fun _ h => h) rfl hdg kk
theorem c_gX10_nodes (hx : p.tables.exec = Jvm.exec) (hb : c.code = cc) (hts : ∀ w ∈ KW, w.before args s = true) (hown : s.vm.findClass own = some m.cls) (hK : va_K (dC, dI) vwCl (jtys kA) s) (hP : va_P (dC, dI) vwCl (c_w kA ad σ) H) (hlink : (Cond.fieldLink own idx "WalkedRounds$Web" "nodes" "I").before args s = true) (hdg : decode cc pc = .ok (.getfield idx, 3)) (kk : W p l e R s m args below meth c H locs cells slots Q (F0 m (pc + 3) ls (.int (rg_I σ 2) :: rest))) : W p l e R s m args below meth c H locs cells slots Q (F0 m pc ls (.ref (ad 7) :: rest)) := va_get (D := (dC, dI)) (ci := 10) (C := RX10) (T := TX10) (N := 10) hx hb hts inK_X10 hown hK hP 7 rfl rfl 6 (by decide) hlink (fun _ h => h) rfl hdg kk
theorem c_pX10_nodes (hx : p.tables.exec = Jvm.exec) (hb : c.code = cc) (hts : ∀ w ∈ KW, w.before args s = true) (hown : s.vm.findClass own = some m.cls) (hK : va_K (dC, dI) vwCl (jtys kA) s) (hap : jw_ap 57 ad) (hP : va_P (dC, dI) vwCl (c_w kA ad σ) H) (hS : va_S (jw_A 57 ad) H0 H locs) {v : Int32} {F : RS → Option β} (hf : kn_v (rs_I σ 2 v) F = some r) (hlink : (Cond.fieldLink own idx "WalkedRounds$Web" "nodes" "I").before args s = true) (hdg : decode cc pc = .ok (.putfield idx, 3)) (kk : ∀ (σ2 : RS) (H1 : Heap) (locs1 : List Loc), va_P (dC, dI) vwCl (c_w kA ad σ2) H1 → va_S (jw_A 57 ad) H0 H1 locs1 → F σ2 = some r → W p l e R s m args below meth c H1 locs1 cells slots Q (F0 m (pc + 3) ls rest)) : W p l e R s m args below meth c H locs cells slots Q (F0 m pc ls (.int v :: .ref (ad 7) :: rest)) := va_put (D := (dC, dI)) (ci := 10) (v := .int v) (ty := .int) (C := RX10) (T := TX10) (N := 10) hx hb hts inK_X10 tyX10 tyX10_ok nmX10 hown hK hP (c_D hap σ) hS 7 rfl rfl 6 (by decide) hlink (fun _ h => h) rfl (by decide +kernel) rfl rfl (Nat.le_of_ble_eq_true rfl) hdg (fun H1 locs1 h1 _ h3 => kk (rs_I σ 2 v) H1 locs1 h1 h3 hf)
theorem c_gX10_arcs (hx : p.tables.exec = Jvm.exec) (hb : c.code = cc) (hts : ∀ w ∈ KW, w.before args s = true) (hown : s.vm.findClass own = some m.cls) (hK : va_K (dC, dI) vwCl (jtys kA) s) (hP : va_P (dC, dI) vwCl (c_w kA ad σ) H) (hlink : (Cond.fieldLink own idx "WalkedRounds$Web" "arcs" "I").before args s = true) (hdg : decode cc pc = .ok (.getfield idx, 3)) (kk : W p l e R s m args below meth c H locs cells slots Q (F0 m (pc + 3) ls (.int (rg_I σ 3) :: rest))) : W p l e R s m args below meth c H locs cells slots Q (F0 m pc ls (.ref (ad 7) :: rest)) := va_get (D := (dC, dI)) (ci := 10) (C := RX10) (T := TX10) (N := 10) hx hb hts inK_X10 hown hK hP 7 rfl rfl 7 (by decide) hlink (fun _ h => h) rfl hdg kk
theorem c_pX10_arcs (hx : p.tables.exec = Jvm.exec) (hb : c.code = cc) (hts : ∀ w ∈ KW, w.before args s = true) (hown : s.vm.findClass own = some m.cls) (hK : va_K (dC, dI) vwCl (jtys kA) s) (hap : jw_ap 57 ad) (hP : va_P (dC, dI) vwCl (c_w kA ad σ) H) (hS : va_S (jw_A 57 ad) H0 H locs) {v : Int32} {F : RS → Option β} (hf : kn_v (rs_I σ 3 v) F = some r) (hlink : (Cond.fieldLink own idx "WalkedRounds$Web" "arcs" "I").before args s = true) (hdg : decode cc pc = .ok (.putfield idx, 3)) (kk : ∀ (σ2 : RS) (H1 : Heap) (locs1 : List Loc), va_P (dC, dI) vwCl (c_w kA ad σ2) H1 → va_S (jw_A 57 ad) H0 H1 locs1 → F σ2 = some r → W p l e R s m args below meth c H1 locs1 cells slots Q (F0 m (pc + 3) ls rest)) : W p l e R s m args below meth c H locs cells slots Q (F0 m pc ls (.int v :: .ref (ad 7) :: rest)) := va_put (D := (dC, dI)) (ci := 10) (v := .int v) (ty := .int) (C := RX10) (T := TX10) (N := 10) hx hb hts inK_X10 tyX10 tyX10_ok nmX10 hown hK hP (c_D hap σ) hS 7 rfl rfl 7 (by decide) hlink (fun _ h => h) rfl (by decide +kernel) rfl rfl (Nat.le_of_ble_eq_true rfl) hdg (fun H1 locs1 h1 _ h3 => kk (rs_I σ 3 v) H1 locs1 h1 h3 hf)
theorem c_gX10_rounds (hx : p.tables.exec = Jvm.exec) (hb : c.code = cc) (hts : ∀ w ∈ KW, w.before args s = true) (hown : s.vm.findClass own = some m.cls) (hK : va_K (dC, dI) vwCl (jtys kA) s) (hP : va_P (dC, dI) vwCl (c_w kA ad σ) H) (hlink : (Cond.fieldLink own idx "WalkedRounds$Web" "rounds" "I").before args s = true) (hdg : decode cc pc = .ok (.getfield idx, 3)) (kk : W p l e R s m args below meth c H locs cells slots Q (F0 m (pc + 3) ls (.int (rg_I σ 4) :: rest))) : W p l e R s m args below meth c H locs cells slots Q (F0 m pc ls (.ref (ad 7) :: rest)) := va_get (D := (dC, dI)) (ci := 10) (C := RX10) (T := TX10) (N := 10) hx hb hts inK_X10 hown hK hP 7 rfl rfl 8 (by decide) hlink (fun _ h => h) rfl hdg kk
theorem c_pX10_rounds (hx : p.tables.exec = Jvm.exec) (hb : c.code = cc) (hts : ∀ w ∈ KW, w.before args s = true) (hown : s.vm.findClass own = some m.cls) (hK : va_K (dC, dI) vwCl (jtys kA) s) (hap : jw_ap 57 ad) (hP : va_P (dC, dI) vwCl (c_w kA ad σ) H) (hS : va_S (jw_A 57 ad) H0 H locs) {v : Int32} {F : RS → Option β} (hf : kn_v (rs_I σ 4 v) F = some r) (hlink : (Cond.fieldLink own idx "WalkedRounds$Web" "rounds" "I").before args s = true) (hdg : decode cc pc = .ok (.putfield idx, 3)) (kk : ∀ (σ2 : RS) (H1 : Heap) (locs1 : List Loc), va_P (dC, dI) vwCl (c_w kA ad σ2) H1 → va_S (jw_A 57 ad) H0 H1 locs1 → F σ2 = some r → W p l e R s m args below meth c H1 locs1 cells slots Q (F0 m (pc + 3) ls rest)) : W p l e R s m args below meth c H locs cells slots Q (F0 m pc ls (.int v :: .ref (ad 7) :: rest)) := va_put (D := (dC, dI)) (ci := 10) (v := .int v) (ty := .int) (C := RX10) (T := TX10) (N := 10) hx hb hts inK_X10 tyX10 tyX10_ok nmX10 hown hK hP (c_D hap σ) hS 7 rfl rfl 8 (by decide) hlink (fun _ h => h) rfl (by decide +kernel) rfl rfl (Nat.le_of_ble_eq_true rfl) hdg (fun H1 locs1 h1 _ h3 => kk (rs_I σ 4 v) H1 locs1 h1 h3 hf)
theorem c_gX10_sum (hx : p.tables.exec = Jvm.exec) (hb : c.code = cc) (hts : ∀ w ∈ KW, w.before args s = true) (hown : s.vm.findClass own = some m.cls) (hK : va_K (dC, dI) vwCl (jtys kA) s) (hP : va_P (dC, dI) vwCl (c_w kA ad σ) H) (hlink : (Cond.fieldLink own idx "WalkedRounds$Web" "sum" "J").before args s = true) (hdg : decode cc pc = .ok (.getfield idx, 3)) (kk : W p l e R s m args below meth c H locs cells slots Q (F0 m (pc + 3) ls (.long (rg_L σ 0) :: rest))) : W p l e R s m args below meth c H locs cells slots Q (F0 m pc ls (.ref (ad 7) :: rest)) := va_get (D := (dC, dI)) (ci := 10) (C := RX10) (T := TX10) (N := 10) hx hb hts inK_X10 hown hK hP 7 rfl rfl 9 (by decide) hlink (fun _ h => h) rfl hdg kk
theorem c_pX10_sum (hx : p.tables.exec = Jvm.exec) (hb : c.code = cc) (hts : ∀ w ∈ KW, w.before args s = true) (hown : s.vm.findClass own = some m.cls) (hK : va_K (dC, dI) vwCl (jtys kA) s) (hap : jw_ap 57 ad) (hP : va_P (dC, dI) vwCl (c_w kA ad σ) H) (hS : va_S (jw_A 57 ad) H0 H locs) {v : Int64} {F : RS → Option β} (hf : kn_v (rs_L σ 0 v) F = some r) (hlink : (Cond.fieldLink own idx "WalkedRounds$Web" "sum" "J").before args s = true) (hdg : decode cc pc = .ok (.putfield idx, 3)) (kk : ∀ (σ2 : RS) (H1 : Heap) (locs1 : List Loc), va_P (dC, dI) vwCl (c_w kA ad σ2) H1 → va_S (jw_A 57 ad) H0 H1 locs1 → F σ2 = some r → W p l e R s m args below meth c H1 locs1 cells slots Q (F0 m (pc + 3) ls rest)) : W p l e R s m args below meth c H locs cells slots Q (F0 m pc ls (.long v :: .ref (ad 7) :: rest)) := va_put (D := (dC, dI)) (ci := 10) (v := .long v) (ty := .long) (C := RX10) (T := TX10) (N := 10) hx hb hts inK_X10 tyX10 tyX10_ok nmX10 hown hK hP (c_D hap σ) hS 7 rfl rfl 9 (by decide) hlink (fun _ h => h) rfl (by decide +kernel) rfl rfl (Nat.le_of_ble_eq_true rfl) hdg (fun H1 locs1 h1 _ h3 => kk (rs_L σ 0 v) H1 locs1 h1 h3 hf)
theorem c_gX6_acts (hx : p.tables.exec = Jvm.exec) (hb : c.code = cc) (hts : ∀ w ∈ KW, w.before args s = true) (hown : s.vm.findClass own = some m.cls) (hK : va_K (dC, dI) vwCl (jtys kA) s) (hP : va_P (dC, dI) vwCl (c_w kA ad σ) H) (hlink : (Cond.fieldLink own idx "WalkedRounds$Program" "acts" "[I").before args s = true) (hdg : decode cc pc = .ok (.getfield idx, 3)) (kk : W p l e R s m args below meth c H locs cells slots Q (F0 m (pc + 3) ls (.ref (ad 15) :: rest))) : W p l e R s m args below meth c H locs cells slots Q (F0 m pc ls (.ref (ad 14) :: rest)) := va_get (D := (dC, dI)) (ci := 6) (C := RX6) (T := TX6) (N := 2) hx hb hts inK_X6 hown hK hP 14 rfl rfl 0 (by decide) hlink (fun _ h => h) rfl hdg kk
theorem c_gX6_foldSort (hx : p.tables.exec = Jvm.exec) (hb : c.code = cc) (hts : ∀ w ∈ KW, w.before args s = true) (hown : s.vm.findClass own = some m.cls) (hK : va_K (dC, dI) vwCl (jtys kA) s) (hP : va_P (dC, dI) vwCl (c_w kA ad σ) H) (hlink : (Cond.fieldLink own idx "WalkedRounds$Program" "foldSort" "I").before args s = true) (hdg : decode cc pc = .ok (.getfield idx, 3)) (kk : W p l e R s m args below meth c H locs cells slots Q (F0 m (pc + 3) ls (.int (rg_I σ 5) :: rest))) : W p l e R s m args below meth c H locs cells slots Q (F0 m pc ls (.ref (ad 14) :: rest)) := va_get (D := (dC, dI)) (ci := 6) (C := RX6) (T := TX6) (N := 2) hx hb hts inK_X6 hown hK hP 14 rfl rfl 1 (by decide) hlink (fun _ h => h) rfl hdg kk
theorem c_pX6_foldSort (hx : p.tables.exec = Jvm.exec) (hb : c.code = cc) (hts : ∀ w ∈ KW, w.before args s = true) (hown : s.vm.findClass own = some m.cls) (hK : va_K (dC, dI) vwCl (jtys kA) s) (hap : jw_ap 57 ad) (hP : va_P (dC, dI) vwCl (c_w kA ad σ) H) (hS : va_S (jw_A 57 ad) H0 H locs) {v : Int32} {F : RS → Option β} (hf : kn_v (rs_I σ 5 v) F = some r) (hlink : (Cond.fieldLink own idx "WalkedRounds$Program" "foldSort" "I").before args s = true) (hdg : decode cc pc = .ok (.putfield idx, 3)) (kk : ∀ (σ2 : RS) (H1 : Heap) (locs1 : List Loc), va_P (dC, dI) vwCl (c_w kA ad σ2) H1 → va_S (jw_A 57 ad) H0 H1 locs1 → F σ2 = some r → W p l e R s m args below meth c H1 locs1 cells slots Q (F0 m (pc + 3) ls rest)) : W p l e R s m args below meth c H locs cells slots Q (F0 m pc ls (.int v :: .ref (ad 14) :: rest)) := va_put (D := (dC, dI)) (ci := 6) (v := .int v) (ty := .int) (C := RX6) (T := TX6) (N := 2) hx hb hts inK_X6 tyX6 tyX6_ok nmX6 hown hK hP (c_D hap σ) hS 14 rfl rfl 1 (by decide) hlink (fun _ h => h) rfl (by decide +kernel) rfl rfl (Nat.le_of_ble_eq_true rfl) hdg (fun H1 locs1 h1 _ h3 => kk (rs_I σ 5 v) H1 locs1 h1 h3 hf)
theorem c_gX2_sort (hx : p.tables.exec = Jvm.exec) (hb : c.code = cc) (hts : ∀ w ∈ KW, w.before args s = true) (hown : s.vm.findClass own = some m.cls) (hK : va_K (dC, dI) vwCl (jtys kA) s) (hP : va_P (dC, dI) vwCl (c_w kA ad σ) H) (hlink : (Cond.fieldLink own idx "WalkedRounds$Failure" "sort" "I").before args s = true) (hdg : decode cc pc = .ok (.getfield idx, 3)) (kk : W p l e R s m args below meth c H locs cells slots Q (F0 m (pc + 3) ls (.int (rg_I σ 6) :: rest))) : W p l e R s m args below meth c H locs cells slots Q (F0 m pc ls (.ref (ad 16) :: rest)) := va_get (D := (dC, dI)) (ci := 2) (C := RX2) (T := TX2) (N := 5) hx hb hts inK_X2 hown hK hP 16 rfl rfl 0 (by decide) hlink (fun _ h => h) rfl hdg kk
theorem c_pX2_sort (hx : p.tables.exec = Jvm.exec) (hb : c.code = cc) (hts : ∀ w ∈ KW, w.before args s = true) (hown : s.vm.findClass own = some m.cls) (hK : va_K (dC, dI) vwCl (jtys kA) s) (hap : jw_ap 57 ad) (hP : va_P (dC, dI) vwCl (c_w kA ad σ) H) (hS : va_S (jw_A 57 ad) H0 H locs) {v : Int32} {F : RS → Option β} (hf : kn_v (rs_I σ 6 v) F = some r) (hlink : (Cond.fieldLink own idx "WalkedRounds$Failure" "sort" "I").before args s = true) (hdg : decode cc pc = .ok (.putfield idx, 3)) (kk : ∀ (σ2 : RS) (H1 : Heap) (locs1 : List Loc), va_P (dC, dI) vwCl (c_w kA ad σ2) H1 → va_S (jw_A 57 ad) H0 H1 locs1 → F σ2 = some r → W p l e R s m args below meth c H1 locs1 cells slots Q (F0 m (pc + 3) ls rest)) : W p l e R s m args below meth c H locs cells slots Q (F0 m pc ls (.int v :: .ref (ad 16) :: rest)) := va_put (D := (dC, dI)) (ci := 2) (v := .int v) (ty := .int) (C := RX2) (T := TX2) (N := 5) hx hb hts inK_X2 tyX2 tyX2_ok nmX2 hown hK hP (c_D hap σ) hS 16 rfl rfl 0 (by decide) hlink (fun _ h => h) rfl (by decide +kernel) rfl rfl (Nat.le_of_ble_eq_true rfl) hdg (fun H1 locs1 h1 _ h3 => kk (rs_I σ 6 v) H1 locs1 h1 h3 hf)
theorem c_gX2_act (hx : p.tables.exec = Jvm.exec) (hb : c.code = cc) (hts : ∀ w ∈ KW, w.before args s = true) (hown : s.vm.findClass own = some m.cls) (hK : va_K (dC, dI) vwCl (jtys kA) s) (hP : va_P (dC, dI) vwCl (c_w kA ad σ) H) (hlink : (Cond.fieldLink own idx "WalkedRounds$Failure" "act" "I").before args s = true) (hdg : decode cc pc = .ok (.getfield idx, 3)) (kk : W p l e R s m args below meth c H locs cells slots Q (F0 m (pc + 3) ls (.int (rg_I σ 7) :: rest))) : W p l e R s m args below meth c H locs cells slots Q (F0 m pc ls (.ref (ad 16) :: rest)) := va_get (D := (dC, dI)) (ci := 2) (C := RX2) (T := TX2) (N := 5) hx hb hts inK_X2 hown hK hP 16 rfl rfl 1 (by decide) hlink (fun _ h => h) rfl hdg kk
theorem c_pX2_act (hx : p.tables.exec = Jvm.exec) (hb : c.code = cc) (hts : ∀ w ∈ KW, w.before args s = true) (hown : s.vm.findClass own = some m.cls) (hK : va_K (dC, dI) vwCl (jtys kA) s) (hap : jw_ap 57 ad) (hP : va_P (dC, dI) vwCl (c_w kA ad σ) H) (hS : va_S (jw_A 57 ad) H0 H locs) {v : Int32} {F : RS → Option β} (hf : kn_v (rs_I σ 7 v) F = some r) (hlink : (Cond.fieldLink own idx "WalkedRounds$Failure" "act" "I").before args s = true) (hdg : decode cc pc = .ok (.putfield idx, 3)) (kk : ∀ (σ2 : RS) (H1 : Heap) (locs1 : List Loc), va_P (dC, dI) vwCl (c_w kA ad σ2) H1 → va_S (jw_A 57 ad) H0 H1 locs1 → F σ2 = some r → W p l e R s m args below meth c H1 locs1 cells slots Q (F0 m (pc + 3) ls rest)) : W p l e R s m args below meth c H locs cells slots Q (F0 m pc ls (.int v :: .ref (ad 16) :: rest)) := va_put (D := (dC, dI)) (ci := 2) (v := .int v) (ty := .int) (C := RX2) (T := TX2) (N := 5) hx hb hts inK_X2 tyX2 tyX2_ok nmX2 hown hK hP (c_D hap σ) hS 16 rfl rfl 1 (by decide) hlink (fun _ h => h) rfl (by decide +kernel) rfl rfl (Nat.le_of_ble_eq_true rfl) hdg (fun H1 locs1 h1 _ h3 => kk (rs_I σ 7 v) H1 locs1 h1 h3 hf)
theorem c_gX2_node (hx : p.tables.exec = Jvm.exec) (hb : c.code = cc) (hts : ∀ w ∈ KW, w.before args s = true) (hown : s.vm.findClass own = some m.cls) (hK : va_K (dC, dI) vwCl (jtys kA) s) (hP : va_P (dC, dI) vwCl (c_w kA ad σ) H) (hlink : (Cond.fieldLink own idx "WalkedRounds$Failure" "node" "I").before args s = true) (hdg : decode cc pc = .ok (.getfield idx, 3)) (kk : W p l e R s m args below meth c H locs cells slots Q (F0 m (pc + 3) ls (.int (rg_I σ 8) :: rest))) : W p l e R s m args below meth c H locs cells slots Q (F0 m pc ls (.ref (ad 16) :: rest)) := va_get (D := (dC, dI)) (ci := 2) (C := RX2) (T := TX2) (N := 5) hx hb hts inK_X2 hown hK hP 16 rfl rfl 2 (by decide) hlink (fun _ h => h) rfl hdg kk
theorem c_pX2_node (hx : p.tables.exec = Jvm.exec) (hb : c.code = cc) (hts : ∀ w ∈ KW, w.before args s = true) (hown : s.vm.findClass own = some m.cls) (hK : va_K (dC, dI) vwCl (jtys kA) s) (hap : jw_ap 57 ad) (hP : va_P (dC, dI) vwCl (c_w kA ad σ) H) (hS : va_S (jw_A 57 ad) H0 H locs) {v : Int32} {F : RS → Option β} (hf : kn_v (rs_I σ 8 v) F = some r) (hlink : (Cond.fieldLink own idx "WalkedRounds$Failure" "node" "I").before args s = true) (hdg : decode cc pc = .ok (.putfield idx, 3)) (kk : ∀ (σ2 : RS) (H1 : Heap) (locs1 : List Loc), va_P (dC, dI) vwCl (c_w kA ad σ2) H1 → va_S (jw_A 57 ad) H0 H1 locs1 → F σ2 = some r → W p l e R s m args below meth c H1 locs1 cells slots Q (F0 m (pc + 3) ls rest)) : W p l e R s m args below meth c H locs cells slots Q (F0 m pc ls (.int v :: .ref (ad 16) :: rest)) := va_put (D := (dC, dI)) (ci := 2) (v := .int v) (ty := .int) (C := RX2) (T := TX2) (N := 5) hx hb hts inK_X2 tyX2 tyX2_ok nmX2 hown hK hP (c_D hap σ) hS 16 rfl rfl 2 (by decide) hlink (fun _ h => h) rfl (by decide +kernel) rfl rfl (Nat.le_of_ble_eq_true rfl) hdg (fun H1 locs1 h1 _ h3 => kk (rs_I σ 8 v) H1 locs1 h1 h3 hf)
theorem c_gX2_arc (hx : p.tables.exec = Jvm.exec) (hb : c.code = cc) (hts : ∀ w ∈ KW, w.before args s = true) (hown : s.vm.findClass own = some m.cls) (hK : va_K (dC, dI) vwCl (jtys kA) s) (hP : va_P (dC, dI) vwCl (c_w kA ad σ) H) (hlink : (Cond.fieldLink own idx "WalkedRounds$Failure" "arc" "I").before args s = true) (hdg : decode cc pc = .ok (.getfield idx, 3)) (kk : W p l e R s m args below meth c H locs cells slots Q (F0 m (pc + 3) ls (.int (rg_I σ 9) :: rest))) : W p l e R s m args below meth c H locs cells slots Q (F0 m pc ls (.ref (ad 16) :: rest)) := va_get (D := (dC, dI)) (ci := 2) (C := RX2) (T := TX2) (N := 5) hx hb hts inK_X2 hown hK hP 16 rfl rfl 3 (by decide) hlink (fun _ h => h) rfl hdg kk
theorem c_pX2_arc (hx : p.tables.exec = Jvm.exec) (hb : c.code = cc) (hts : ∀ w ∈ KW, w.before args s = true) (hown : s.vm.findClass own = some m.cls) (hK : va_K (dC, dI) vwCl (jtys kA) s) (hap : jw_ap 57 ad) (hP : va_P (dC, dI) vwCl (c_w kA ad σ) H) (hS : va_S (jw_A 57 ad) H0 H locs) {v : Int32} {F : RS → Option β} (hf : kn_v (rs_I σ 9 v) F = some r) (hlink : (Cond.fieldLink own idx "WalkedRounds$Failure" "arc" "I").before args s = true) (hdg : decode cc pc = .ok (.putfield idx, 3)) (kk : ∀ (σ2 : RS) (H1 : Heap) (locs1 : List Loc), va_P (dC, dI) vwCl (c_w kA ad σ2) H1 → va_S (jw_A 57 ad) H0 H1 locs1 → F σ2 = some r → W p l e R s m args below meth c H1 locs1 cells slots Q (F0 m (pc + 3) ls rest)) : W p l e R s m args below meth c H locs cells slots Q (F0 m pc ls (.int v :: .ref (ad 16) :: rest)) := va_put (D := (dC, dI)) (ci := 2) (v := .int v) (ty := .int) (C := RX2) (T := TX2) (N := 5) hx hb hts inK_X2 tyX2 tyX2_ok nmX2 hown hK hP (c_D hap σ) hS 16 rfl rfl 3 (by decide) hlink (fun _ h => h) rfl (by decide +kernel) rfl rfl (Nat.le_of_ble_eq_true rfl) hdg (fun H1 locs1 h1 _ h3 => kk (rs_I σ 9 v) H1 locs1 h1 h3 hf)
theorem c_gX2_round (hx : p.tables.exec = Jvm.exec) (hb : c.code = cc) (hts : ∀ w ∈ KW, w.before args s = true) (hown : s.vm.findClass own = some m.cls) (hK : va_K (dC, dI) vwCl (jtys kA) s) (hP : va_P (dC, dI) vwCl (c_w kA ad σ) H) (hlink : (Cond.fieldLink own idx "WalkedRounds$Failure" "round" "I").before args s = true) (hdg : decode cc pc = .ok (.getfield idx, 3)) (kk : W p l e R s m args below meth c H locs cells slots Q (F0 m (pc + 3) ls (.int (rg_I σ 10) :: rest))) : W p l e R s m args below meth c H locs cells slots Q (F0 m pc ls (.ref (ad 16) :: rest)) := va_get (D := (dC, dI)) (ci := 2) (C := RX2) (T := TX2) (N := 5) hx hb hts inK_X2 hown hK hP 16 rfl rfl 4 (by decide) hlink (fun _ h => h) rfl hdg kk
theorem c_pX2_round (hx : p.tables.exec = Jvm.exec) (hb : c.code = cc) (hts : ∀ w ∈ KW, w.before args s = true) (hown : s.vm.findClass own = some m.cls) (hK : va_K (dC, dI) vwCl (jtys kA) s) (hap : jw_ap 57 ad) (hP : va_P (dC, dI) vwCl (c_w kA ad σ) H) (hS : va_S (jw_A 57 ad) H0 H locs) {v : Int32} {F : RS → Option β} (hf : kn_v (rs_I σ 10 v) F = some r) (hlink : (Cond.fieldLink own idx "WalkedRounds$Failure" "round" "I").before args s = true) (hdg : decode cc pc = .ok (.putfield idx, 3)) (kk : ∀ (σ2 : RS) (H1 : Heap) (locs1 : List Loc), va_P (dC, dI) vwCl (c_w kA ad σ2) H1 → va_S (jw_A 57 ad) H0 H1 locs1 → F σ2 = some r → W p l e R s m args below meth c H1 locs1 cells slots Q (F0 m (pc + 3) ls rest)) : W p l e R s m args below meth c H locs cells slots Q (F0 m pc ls (.int v :: .ref (ad 16) :: rest)) := va_put (D := (dC, dI)) (ci := 2) (v := .int v) (ty := .int) (C := RX2) (T := TX2) (N := 5) hx hb hts inK_X2 tyX2 tyX2_ok nmX2 hown hK hP (c_D hap σ) hS 16 rfl rfl 4 (by decide) hlink (fun _ h => h) rfl (by decide +kernel) rfl rfl (Nat.le_of_ble_eq_true rfl) hdg (fun H1 locs1 h1 _ h3 => kk (rs_I σ 10 v) H1 locs1 h1 h3 hf)
theorem c_gX5_ring (hx : p.tables.exec = Jvm.exec) (hb : c.code = cc) (hts : ∀ w ∈ KW, w.before args s = true) (hown : s.vm.findClass own = some m.cls) (hK : va_K (dC, dI) vwCl (jtys kA) s) (hP : va_P (dC, dI) vwCl (c_w kA ad σ) H) (hlink : (Cond.fieldLink own idx "WalkedRounds$Past" "ring" "[LWalkedRounds$Memory;").before args s = true) (hdg : decode cc pc = .ok (.getfield idx, 3)) (kk : W p l e R s m args below meth c H locs cells slots Q (F0 m (pc + 3) ls (.ref (ad 18) :: rest))) : W p l e R s m args below meth c H locs cells slots Q (F0 m pc ls (.ref (ad 17) :: rest)) := va_get (D := (dC, dI)) (ci := 5) (C := RX5) (T := TX5) (N := 3) hx hb hts inK_X5 hown hK hP 17 rfl rfl 0 (by decide) hlink (fun _ h => h) rfl hdg kk
theorem c_gX5_next (hx : p.tables.exec = Jvm.exec) (hb : c.code = cc) (hts : ∀ w ∈ KW, w.before args s = true) (hown : s.vm.findClass own = some m.cls) (hK : va_K (dC, dI) vwCl (jtys kA) s) (hP : va_P (dC, dI) vwCl (c_w kA ad σ) H) (hlink : (Cond.fieldLink own idx "WalkedRounds$Past" "next" "I").before args s = true) (hdg : decode cc pc = .ok (.getfield idx, 3)) (kk : W p l e R s m args below meth c H locs cells slots Q (F0 m (pc + 3) ls (.int (rg_I σ 11) :: rest))) : W p l e R s m args below meth c H locs cells slots Q (F0 m pc ls (.ref (ad 17) :: rest)) := va_get (D := (dC, dI)) (ci := 5) (C := RX5) (T := TX5) (N := 3) hx hb hts inK_X5 hown hK hP 17 rfl rfl 1 (by decide) hlink (fun _ h => h) rfl hdg kk
theorem c_pX5_next (hx : p.tables.exec = Jvm.exec) (hb : c.code = cc) (hts : ∀ w ∈ KW, w.before args s = true) (hown : s.vm.findClass own = some m.cls) (hK : va_K (dC, dI) vwCl (jtys kA) s) (hap : jw_ap 57 ad) (hP : va_P (dC, dI) vwCl (c_w kA ad σ) H) (hS : va_S (jw_A 57 ad) H0 H locs) {v : Int32} {F : RS → Option β} (hf : kn_v (rs_I σ 11 v) F = some r) (hlink : (Cond.fieldLink own idx "WalkedRounds$Past" "next" "I").before args s = true) (hdg : decode cc pc = .ok (.putfield idx, 3)) (kk : ∀ (σ2 : RS) (H1 : Heap) (locs1 : List Loc), va_P (dC, dI) vwCl (c_w kA ad σ2) H1 → va_S (jw_A 57 ad) H0 H1 locs1 → F σ2 = some r → W p l e R s m args below meth c H1 locs1 cells slots Q (F0 m (pc + 3) ls rest)) : W p l e R s m args below meth c H locs cells slots Q (F0 m pc ls (.int v :: .ref (ad 17) :: rest)) := va_put (D := (dC, dI)) (ci := 5) (v := .int v) (ty := .int) (C := RX5) (T := TX5) (N := 3) hx hb hts inK_X5 tyX5 tyX5_ok nmX5 hown hK hP (c_D hap σ) hS 17 rfl rfl 1 (by decide) hlink (fun _ h => h) rfl (by decide +kernel) rfl rfl (Nat.le_of_ble_eq_true rfl) hdg (fun H1 locs1 h1 _ h3 => kk (rs_I σ 11 v) H1 locs1 h1 h3 hf)
theorem c_gX5_kept (hx : p.tables.exec = Jvm.exec) (hb : c.code = cc) (hts : ∀ w ∈ KW, w.before args s = true) (hown : s.vm.findClass own = some m.cls) (hK : va_K (dC, dI) vwCl (jtys kA) s) (hP : va_P (dC, dI) vwCl (c_w kA ad σ) H) (hlink : (Cond.fieldLink own idx "WalkedRounds$Past" "kept" "I").before args s = true) (hdg : decode cc pc = .ok (.getfield idx, 3)) (kk : W p l e R s m args below meth c H locs cells slots Q (F0 m (pc + 3) ls (.int (rg_I σ 12) :: rest))) : W p l e R s m args below meth c H locs cells slots Q (F0 m pc ls (.ref (ad 17) :: rest)) := va_get (D := (dC, dI)) (ci := 5) (C := RX5) (T := TX5) (N := 3) hx hb hts inK_X5 hown hK hP 17 rfl rfl 2 (by decide) hlink (fun _ h => h) rfl hdg kk
theorem c_pX5_kept (hx : p.tables.exec = Jvm.exec) (hb : c.code = cc) (hts : ∀ w ∈ KW, w.before args s = true) (hown : s.vm.findClass own = some m.cls) (hK : va_K (dC, dI) vwCl (jtys kA) s) (hap : jw_ap 57 ad) (hP : va_P (dC, dI) vwCl (c_w kA ad σ) H) (hS : va_S (jw_A 57 ad) H0 H locs) {v : Int32} {F : RS → Option β} (hf : kn_v (rs_I σ 12 v) F = some r) (hlink : (Cond.fieldLink own idx "WalkedRounds$Past" "kept" "I").before args s = true) (hdg : decode cc pc = .ok (.putfield idx, 3)) (kk : ∀ (σ2 : RS) (H1 : Heap) (locs1 : List Loc), va_P (dC, dI) vwCl (c_w kA ad σ2) H1 → va_S (jw_A 57 ad) H0 H1 locs1 → F σ2 = some r → W p l e R s m args below meth c H1 locs1 cells slots Q (F0 m (pc + 3) ls rest)) : W p l e R s m args below meth c H locs cells slots Q (F0 m pc ls (.int v :: .ref (ad 17) :: rest)) := va_put (D := (dC, dI)) (ci := 5) (v := .int v) (ty := .int) (C := RX5) (T := TX5) (N := 3) hx hb hts inK_X5 tyX5 tyX5_ok nmX5 hown hK hP (c_D hap σ) hS 17 rfl rfl 2 (by decide) hlink (fun _ h => h) rfl (by decide +kernel) rfl rfl (Nat.le_of_ble_eq_true rfl) hdg (fun H1 locs1 h1 _ h3 => kk (rs_I σ 12 v) H1 locs1 h1 h3 hf)
theorem c_gX9_arcs (hx : p.tables.exec = Jvm.exec) (hb : c.code = cc) (hts : ∀ w ∈ KW, w.before args s = true) (hown : s.vm.findClass own = some m.cls) (hK : va_K (dC, dI) vwCl (jtys kA) s) (hP : va_P (dC, dI) vwCl (c_w kA ad σ) H) (hlink : (Cond.fieldLink own idx "WalkedRounds$Told" "arcs" "[I").before args s = true) (hdg : decode cc pc = .ok (.getfield idx, 3)) (kk : W p l e R s m args below meth c H locs cells slots Q (F0 m (pc + 3) ls (.ref (ad 20) :: rest))) : W p l e R s m args below meth c H locs cells slots Q (F0 m pc ls (.ref (ad 19) :: rest)) := va_get (D := (dC, dI)) (ci := 9) (C := RX9) (T := TX9) (N := 3) hx hb hts inK_X9 hown hK hP 19 rfl rfl 0 (by decide) hlink (fun _ h => h) rfl hdg kk
theorem c_gX9_values (hx : p.tables.exec = Jvm.exec) (hb : c.code = cc) (hts : ∀ w ∈ KW, w.before args s = true) (hown : s.vm.findClass own = some m.cls) (hK : va_K (dC, dI) vwCl (jtys kA) s) (hP : va_P (dC, dI) vwCl (c_w kA ad σ) H) (hlink : (Cond.fieldLink own idx "WalkedRounds$Told" "values" "[J").before args s = true) (hdg : decode cc pc = .ok (.getfield idx, 3)) (kk : W p l e R s m args below meth c H locs cells slots Q (F0 m (pc + 3) ls (.ref (ad 21) :: rest))) : W p l e R s m args below meth c H locs cells slots Q (F0 m pc ls (.ref (ad 19) :: rest)) := va_get (D := (dC, dI)) (ci := 9) (C := RX9) (T := TX9) (N := 3) hx hb hts inK_X9 hown hK hP 19 rfl rfl 1 (by decide) hlink (fun _ h => h) rfl hdg kk
theorem c_gX9_size (hx : p.tables.exec = Jvm.exec) (hb : c.code = cc) (hts : ∀ w ∈ KW, w.before args s = true) (hown : s.vm.findClass own = some m.cls) (hK : va_K (dC, dI) vwCl (jtys kA) s) (hP : va_P (dC, dI) vwCl (c_w kA ad σ) H) (hlink : (Cond.fieldLink own idx "WalkedRounds$Told" "size" "I").before args s = true) (hdg : decode cc pc = .ok (.getfield idx, 3)) (kk : W p l e R s m args below meth c H locs cells slots Q (F0 m (pc + 3) ls (.int (rg_I σ 13) :: rest))) : W p l e R s m args below meth c H locs cells slots Q (F0 m pc ls (.ref (ad 19) :: rest)) := va_get (D := (dC, dI)) (ci := 9) (C := RX9) (T := TX9) (N := 3) hx hb hts inK_X9 hown hK hP 19 rfl rfl 2 (by decide) hlink (fun _ h => h) rfl hdg kk
theorem c_pX9_size (hx : p.tables.exec = Jvm.exec) (hb : c.code = cc) (hts : ∀ w ∈ KW, w.before args s = true) (hown : s.vm.findClass own = some m.cls) (hK : va_K (dC, dI) vwCl (jtys kA) s) (hap : jw_ap 57 ad) (hP : va_P (dC, dI) vwCl (c_w kA ad σ) H) (hS : va_S (jw_A 57 ad) H0 H locs) {v : Int32} {F : RS → Option β} (hf : kn_v (rs_I σ 13 v) F = some r) (hlink : (Cond.fieldLink own idx "WalkedRounds$Told" "size" "I").before args s = true) (hdg : decode cc pc = .ok (.putfield idx, 3)) (kk : ∀ (σ2 : RS) (H1 : Heap) (locs1 : List Loc), va_P (dC, dI) vwCl (c_w kA ad σ2) H1 → va_S (jw_A 57 ad) H0 H1 locs1 → F σ2 = some r → W p l e R s m args below meth c H1 locs1 cells slots Q (F0 m (pc + 3) ls rest)) : W p l e R s m args below meth c H locs cells slots Q (F0 m pc ls (.int v :: .ref (ad 19) :: rest)) := va_put (D := (dC, dI)) (ci := 9) (v := .int v) (ty := .int) (C := RX9) (T := TX9) (N := 3) hx hb hts inK_X9 tyX9 tyX9_ok nmX9 hown hK hP (c_D hap σ) hS 19 rfl rfl 2 (by decide) hlink (fun _ h => h) rfl (by decide +kernel) rfl rfl (Nat.le_of_ble_eq_true rfl) hdg (fun H1 locs1 h1 _ h3 => kk (rs_I σ 13 v) H1 locs1 h1 h3 hf)
theorem c_gX1_terms (hx : p.tables.exec = Jvm.exec) (hb : c.code = cc) (hts : ∀ w ∈ KW, w.before args s = true) (hown : s.vm.findClass own = some m.cls) (hK : va_K (dC, dI) vwCl (jtys kA) s) (hP : va_P (dC, dI) vwCl (c_w kA ad σ) H) (hlink : (Cond.fieldLink own idx "WalkedRounds$Asker" "terms" "LWalkedRounds$Terms;").before args s = true) (hdg : decode cc pc = .ok (.getfield idx, 3)) (kk : W p l e R s m args below meth c H locs cells slots Q (F0 m (pc + 3) ls (.ref (ad 1) :: rest))) : W p l e R s m args below meth c H locs cells slots Q (F0 m pc ls (.ref (ad 22) :: rest)) := va_get (D := (dC, dI)) (ci := 1) (C := RX1) (T := TX1) (N := 7) hx hb hts inK_X1 hown hK hP 22 rfl rfl 0 (by decide) hlink (fun _ h => h) rfl hdg kk
theorem c_gX1_web (hx : p.tables.exec = Jvm.exec) (hb : c.code = cc) (hts : ∀ w ∈ KW, w.before args s = true) (hown : s.vm.findClass own = some m.cls) (hK : va_K (dC, dI) vwCl (jtys kA) s) (hP : va_P (dC, dI) vwCl (c_w kA ad σ) H) (hlink : (Cond.fieldLink own idx "WalkedRounds$Asker" "web" "LWalkedRounds$Web;").before args s = true) (hdg : decode cc pc = .ok (.getfield idx, 3)) (kk : W p l e R s m args below meth c H locs cells slots Q (F0 m (pc + 3) ls (.ref (ad 7) :: rest))) : W p l e R s m args below meth c H locs cells slots Q (F0 m pc ls (.ref (ad 22) :: rest)) := va_get (D := (dC, dI)) (ci := 1) (C := RX1) (T := TX1) (N := 7) hx hb hts inK_X1 hown hK hP 22 rfl rfl 1 (by decide) hlink (fun _ h => h) rfl hdg kk
theorem c_gX1_foldedMessages (hx : p.tables.exec = Jvm.exec) (hb : c.code = cc) (hts : ∀ w ∈ KW, w.before args s = true) (hown : s.vm.findClass own = some m.cls) (hK : va_K (dC, dI) vwCl (jtys kA) s) (hP : va_P (dC, dI) vwCl (c_w kA ad σ) H) (hlink : (Cond.fieldLink own idx "WalkedRounds$Asker" "foldedMessages" "I").before args s = true) (hdg : decode cc pc = .ok (.getfield idx, 3)) (kk : W p l e R s m args below meth c H locs cells slots Q (F0 m (pc + 3) ls (.int (rg_I σ 14) :: rest))) : W p l e R s m args below meth c H locs cells slots Q (F0 m pc ls (.ref (ad 22) :: rest)) := va_get (D := (dC, dI)) (ci := 1) (C := RX1) (T := TX1) (N := 7) hx hb hts inK_X1 hown hK hP 22 rfl rfl 2 (by decide) hlink (fun _ h => h) rfl hdg kk
theorem c_pX1_foldedMessages (hx : p.tables.exec = Jvm.exec) (hb : c.code = cc) (hts : ∀ w ∈ KW, w.before args s = true) (hown : s.vm.findClass own = some m.cls) (hK : va_K (dC, dI) vwCl (jtys kA) s) (hap : jw_ap 57 ad) (hP : va_P (dC, dI) vwCl (c_w kA ad σ) H) (hS : va_S (jw_A 57 ad) H0 H locs) {v : Int32} {F : RS → Option β} (hf : kn_v (rs_I σ 14 v) F = some r) (hlink : (Cond.fieldLink own idx "WalkedRounds$Asker" "foldedMessages" "I").before args s = true) (hdg : decode cc pc = .ok (.putfield idx, 3)) (kk : ∀ (σ2 : RS) (H1 : Heap) (locs1 : List Loc), va_P (dC, dI) vwCl (c_w kA ad σ2) H1 → va_S (jw_A 57 ad) H0 H1 locs1 → F σ2 = some r → W p l e R s m args below meth c H1 locs1 cells slots Q (F0 m (pc + 3) ls rest)) : W p l e R s m args below meth c H locs cells slots Q (F0 m pc ls (.int v :: .ref (ad 22) :: rest)) := va_put (D := (dC, dI)) (ci := 1) (v := .int v) (ty := .int) (C := RX1) (T := TX1) (N := 7) hx hb hts inK_X1 tyX1 tyX1_ok nmX1 hown hK hP (c_D hap σ) hS 22 rfl rfl 2 (by decide) hlink (fun _ h => h) rfl (by decide +kernel) rfl rfl (Nat.le_of_ble_eq_true rfl) hdg (fun H1 locs1 h1 _ h3 => kk (rs_I σ 14 v) H1 locs1 h1 h3 hf)
theorem c_gX1_steps (hx : p.tables.exec = Jvm.exec) (hb : c.code = cc) (hts : ∀ w ∈ KW, w.before args s = true) (hown : s.vm.findClass own = some m.cls) (hK : va_K (dC, dI) vwCl (jtys kA) s) (hP : va_P (dC, dI) vwCl (c_w kA ad σ) H) (hlink : (Cond.fieldLink own idx "WalkedRounds$Asker" "steps" "I").before args s = true) (hdg : decode cc pc = .ok (.getfield idx, 3)) (kk : W p l e R s m args below meth c H locs cells slots Q (F0 m (pc + 3) ls (.int (rg_I σ 15) :: rest))) : W p l e R s m args below meth c H locs cells slots Q (F0 m pc ls (.ref (ad 22) :: rest)) := va_get (D := (dC, dI)) (ci := 1) (C := RX1) (T := TX1) (N := 7) hx hb hts inK_X1 hown hK hP 22 rfl rfl 3 (by decide) hlink (fun _ h => h) rfl hdg kk
theorem c_pX1_steps (hx : p.tables.exec = Jvm.exec) (hb : c.code = cc) (hts : ∀ w ∈ KW, w.before args s = true) (hown : s.vm.findClass own = some m.cls) (hK : va_K (dC, dI) vwCl (jtys kA) s) (hap : jw_ap 57 ad) (hP : va_P (dC, dI) vwCl (c_w kA ad σ) H) (hS : va_S (jw_A 57 ad) H0 H locs) {v : Int32} {F : RS → Option β} (hf : kn_v (rs_I σ 15 v) F = some r) (hlink : (Cond.fieldLink own idx "WalkedRounds$Asker" "steps" "I").before args s = true) (hdg : decode cc pc = .ok (.putfield idx, 3)) (kk : ∀ (σ2 : RS) (H1 : Heap) (locs1 : List Loc), va_P (dC, dI) vwCl (c_w kA ad σ2) H1 → va_S (jw_A 57 ad) H0 H1 locs1 → F σ2 = some r → W p l e R s m args below meth c H1 locs1 cells slots Q (F0 m (pc + 3) ls rest)) : W p l e R s m args below meth c H locs cells slots Q (F0 m pc ls (.int v :: .ref (ad 22) :: rest)) := va_put (D := (dC, dI)) (ci := 1) (v := .int v) (ty := .int) (C := RX1) (T := TX1) (N := 7) hx hb hts inK_X1 tyX1 tyX1_ok nmX1 hown hK hP (c_D hap σ) hS 22 rfl rfl 3 (by decide) hlink (fun _ h => h) rfl (by decide +kernel) rfl rfl (Nat.le_of_ble_eq_true rfl) hdg (fun H1 locs1 h1 _ h3 => kk (rs_I σ 15 v) H1 locs1 h1 h3 hf)
theorem c_gX1_foldedValue (hx : p.tables.exec = Jvm.exec) (hb : c.code = cc) (hts : ∀ w ∈ KW, w.before args s = true) (hown : s.vm.findClass own = some m.cls) (hK : va_K (dC, dI) vwCl (jtys kA) s) (hP : va_P (dC, dI) vwCl (c_w kA ad σ) H) (hlink : (Cond.fieldLink own idx "WalkedRounds$Asker" "foldedValue" "J").before args s = true) (hdg : decode cc pc = .ok (.getfield idx, 3)) (kk : W p l e R s m args below meth c H locs cells slots Q (F0 m (pc + 3) ls (.long (rg_L σ 1) :: rest))) : W p l e R s m args below meth c H locs cells slots Q (F0 m pc ls (.ref (ad 22) :: rest)) := va_get (D := (dC, dI)) (ci := 1) (C := RX1) (T := TX1) (N := 7) hx hb hts inK_X1 hown hK hP 22 rfl rfl 4 (by decide) hlink (fun _ h => h) rfl hdg kk
theorem c_pX1_foldedValue (hx : p.tables.exec = Jvm.exec) (hb : c.code = cc) (hts : ∀ w ∈ KW, w.before args s = true) (hown : s.vm.findClass own = some m.cls) (hK : va_K (dC, dI) vwCl (jtys kA) s) (hap : jw_ap 57 ad) (hP : va_P (dC, dI) vwCl (c_w kA ad σ) H) (hS : va_S (jw_A 57 ad) H0 H locs) {v : Int64} {F : RS → Option β} (hf : kn_v (rs_L σ 1 v) F = some r) (hlink : (Cond.fieldLink own idx "WalkedRounds$Asker" "foldedValue" "J").before args s = true) (hdg : decode cc pc = .ok (.putfield idx, 3)) (kk : ∀ (σ2 : RS) (H1 : Heap) (locs1 : List Loc), va_P (dC, dI) vwCl (c_w kA ad σ2) H1 → va_S (jw_A 57 ad) H0 H1 locs1 → F σ2 = some r → W p l e R s m args below meth c H1 locs1 cells slots Q (F0 m (pc + 3) ls rest)) : W p l e R s m args below meth c H locs cells slots Q (F0 m pc ls (.long v :: .ref (ad 22) :: rest)) := va_put (D := (dC, dI)) (ci := 1) (v := .long v) (ty := .long) (C := RX1) (T := TX1) (N := 7) hx hb hts inK_X1 tyX1 tyX1_ok nmX1 hown hK hP (c_D hap σ) hS 22 rfl rfl 4 (by decide) hlink (fun _ h => h) rfl (by decide +kernel) rfl rfl (Nat.le_of_ble_eq_true rfl) hdg (fun H1 locs1 h1 _ h3 => kk (rs_L σ 1 v) H1 locs1 h1 h3 hf)
theorem c_gX1_fault (hx : p.tables.exec = Jvm.exec) (hb : c.code = cc) (hts : ∀ w ∈ KW, w.before args s = true) (hown : s.vm.findClass own = some m.cls) (hK : va_K (dC, dI) vwCl (jtys kA) s) (hP : va_P (dC, dI) vwCl (c_w kA ad σ) H) (hlink : (Cond.fieldLink own idx "WalkedRounds$Asker" "fault" "I").before args s = true) (hdg : decode cc pc = .ok (.getfield idx, 3)) (kk : W p l e R s m args below meth c H locs cells slots Q (F0 m (pc + 3) ls (.int (rg_I σ 16) :: rest))) : W p l e R s m args below meth c H locs cells slots Q (F0 m pc ls (.ref (ad 22) :: rest)) := va_get (D := (dC, dI)) (ci := 1) (C := RX1) (T := TX1) (N := 7) hx hb hts inK_X1 hown hK hP 22 rfl rfl 5 (by decide) hlink (fun _ h => h) rfl hdg kk
theorem c_pX1_fault (hx : p.tables.exec = Jvm.exec) (hb : c.code = cc) (hts : ∀ w ∈ KW, w.before args s = true) (hown : s.vm.findClass own = some m.cls) (hK : va_K (dC, dI) vwCl (jtys kA) s) (hap : jw_ap 57 ad) (hP : va_P (dC, dI) vwCl (c_w kA ad σ) H) (hS : va_S (jw_A 57 ad) H0 H locs) {v : Int32} {F : RS → Option β} (hf : kn_v (rs_I σ 16 v) F = some r) (hlink : (Cond.fieldLink own idx "WalkedRounds$Asker" "fault" "I").before args s = true) (hdg : decode cc pc = .ok (.putfield idx, 3)) (kk : ∀ (σ2 : RS) (H1 : Heap) (locs1 : List Loc), va_P (dC, dI) vwCl (c_w kA ad σ2) H1 → va_S (jw_A 57 ad) H0 H1 locs1 → F σ2 = some r → W p l e R s m args below meth c H1 locs1 cells slots Q (F0 m (pc + 3) ls rest)) : W p l e R s m args below meth c H locs cells slots Q (F0 m pc ls (.int v :: .ref (ad 22) :: rest)) := va_put (D := (dC, dI)) (ci := 1) (v := .int v) (ty := .int) (C := RX1) (T := TX1) (N := 7) hx hb hts inK_X1 tyX1 tyX1_ok nmX1 hown hK hP (c_D hap σ) hS 22 rfl rfl 5 (by decide) hlink (fun _ h => h) rfl (by decide +kernel) rfl rfl (Nat.le_of_ble_eq_true rfl) hdg (fun H1 locs1 h1 _ h3 => kk (rs_I σ 16 v) H1 locs1 h1 h3 hf)
theorem c_gX1_allSteps (hx : p.tables.exec = Jvm.exec) (hb : c.code = cc) (hts : ∀ w ∈ KW, w.before args s = true) (hown : s.vm.findClass own = some m.cls) (hK : va_K (dC, dI) vwCl (jtys kA) s) (hP : va_P (dC, dI) vwCl (c_w kA ad σ) H) (hlink : (Cond.fieldLink own idx "WalkedRounds$Asker" "allSteps" "I").before args s = true) (hdg : decode cc pc = .ok (.getfield idx, 3)) (kk : W p l e R s m args below meth c H locs cells slots Q (F0 m (pc + 3) ls (.int (rg_I σ 17) :: rest))) : W p l e R s m args below meth c H locs cells slots Q (F0 m pc ls (.ref (ad 22) :: rest)) := va_get (D := (dC, dI)) (ci := 1) (C := RX1) (T := TX1) (N := 7) hx hb hts inK_X1 hown hK hP 22 rfl rfl 6 (by decide) hlink (fun _ h => h) rfl hdg kk
theorem c_pX1_allSteps (hx : p.tables.exec = Jvm.exec) (hb : c.code = cc) (hts : ∀ w ∈ KW, w.before args s = true) (hown : s.vm.findClass own = some m.cls) (hK : va_K (dC, dI) vwCl (jtys kA) s) (hap : jw_ap 57 ad) (hP : va_P (dC, dI) vwCl (c_w kA ad σ) H) (hS : va_S (jw_A 57 ad) H0 H locs) {v : Int32} {F : RS → Option β} (hf : kn_v (rs_I σ 17 v) F = some r) (hlink : (Cond.fieldLink own idx "WalkedRounds$Asker" "allSteps" "I").before args s = true) (hdg : decode cc pc = .ok (.putfield idx, 3)) (kk : ∀ (σ2 : RS) (H1 : Heap) (locs1 : List Loc), va_P (dC, dI) vwCl (c_w kA ad σ2) H1 → va_S (jw_A 57 ad) H0 H1 locs1 → F σ2 = some r → W p l e R s m args below meth c H1 locs1 cells slots Q (F0 m (pc + 3) ls rest)) : W p l e R s m args below meth c H locs cells slots Q (F0 m pc ls (.int v :: .ref (ad 22) :: rest)) := va_put (D := (dC, dI)) (ci := 1) (v := .int v) (ty := .int) (C := RX1) (T := TX1) (N := 7) hx hb hts inK_X1 tyX1 tyX1_ok nmX1 hown hK hP (c_D hap σ) hS 22 rfl rfl 6 (by decide) hlink (fun _ h => h) rfl (by decide +kernel) rfl rfl (Nat.le_of_ble_eq_true rfl) hdg (fun H1 locs1 h1 _ h3 => kk (rs_I σ 17 v) H1 locs1 h1 h3 hf)
theorem c_gX0_web (hx : p.tables.exec = Jvm.exec) (hb : c.code = cc) (hts : ∀ w ∈ KW, w.before args s = true) (hown : s.vm.findClass own = some m.cls) (hK : va_K (dC, dI) vwCl (jtys kA) s) (hP : va_P (dC, dI) vwCl (c_w kA ad σ) H) (hlink : (Cond.fieldLink own idx "WalkedRounds$Actor" "web" "LWalkedRounds$Web;").before args s = true) (hdg : decode cc pc = .ok (.getfield idx, 3)) (kk : W p l e R s m args below meth c H locs cells slots Q (F0 m (pc + 3) ls (.ref (ad 7) :: rest))) : W p l e R s m args below meth c H locs cells slots Q (F0 m pc ls (.ref (ad 23) :: rest)) := va_get (D := (dC, dI)) (ci := 0) (C := RX0) (T := TX0) (N := 4) hx hb hts inK_X0 hown hK hP 23 rfl rfl 0 (by decide) hlink (fun _ h => h) rfl hdg kk
theorem c_gX0_program (hx : p.tables.exec = Jvm.exec) (hb : c.code = cc) (hts : ∀ w ∈ KW, w.before args s = true) (hown : s.vm.findClass own = some m.cls) (hK : va_K (dC, dI) vwCl (jtys kA) s) (hP : va_P (dC, dI) vwCl (c_w kA ad σ) H) (hlink : (Cond.fieldLink own idx "WalkedRounds$Actor" "program" "LWalkedRounds$Program;").before args s = true) (hdg : decode cc pc = .ok (.getfield idx, 3)) (kk : W p l e R s m args below meth c H locs cells slots Q (F0 m (pc + 3) ls (.ref (ad 14) :: rest))) : W p l e R s m args below meth c H locs cells slots Q (F0 m pc ls (.ref (ad 23) :: rest)) := va_get (D := (dC, dI)) (ci := 0) (C := RX0) (T := TX0) (N := 4) hx hb hts inK_X0 hown hK hP 23 rfl rfl 1 (by decide) hlink (fun _ h => h) rfl hdg kk
theorem c_gX0_asker (hx : p.tables.exec = Jvm.exec) (hb : c.code = cc) (hts : ∀ w ∈ KW, w.before args s = true) (hown : s.vm.findClass own = some m.cls) (hK : va_K (dC, dI) vwCl (jtys kA) s) (hP : va_P (dC, dI) vwCl (c_w kA ad σ) H) (hlink : (Cond.fieldLink own idx "WalkedRounds$Actor" "asker" "LWalkedRounds$Asker;").before args s = true) (hdg : decode cc pc = .ok (.getfield idx, 3)) (kk : W p l e R s m args below meth c H locs cells slots Q (F0 m (pc + 3) ls (.ref (ad 22) :: rest))) : W p l e R s m args below meth c H locs cells slots Q (F0 m pc ls (.ref (ad 23) :: rest)) := va_get (D := (dC, dI)) (ci := 0) (C := RX0) (T := TX0) (N := 4) hx hb hts inK_X0 hown hK hP 23 rfl rfl 2 (by decide) hlink (fun _ h => h) rfl hdg kk
theorem c_gX0_failure (hx : p.tables.exec = Jvm.exec) (hb : c.code = cc) (hts : ∀ w ∈ KW, w.before args s = true) (hown : s.vm.findClass own = some m.cls) (hK : va_K (dC, dI) vwCl (jtys kA) s) (hP : va_P (dC, dI) vwCl (c_w kA ad σ) H) (hlink : (Cond.fieldLink own idx "WalkedRounds$Actor" "failure" "LWalkedRounds$Failure;").before args s = true) (hdg : decode cc pc = .ok (.getfield idx, 3)) (kk : W p l e R s m args below meth c H locs cells slots Q (F0 m (pc + 3) ls (.ref (ad 16) :: rest))) : W p l e R s m args below meth c H locs cells slots Q (F0 m pc ls (.ref (ad 23) :: rest)) := va_get (D := (dC, dI)) (ci := 0) (C := RX0) (T := TX0) (N := 4) hx hb hts inK_X0 hown hK hP 23 rfl rfl 3 (by decide) hlink (fun _ h => h) rfl hdg kk
theorem c_gX7_web (hx : p.tables.exec = Jvm.exec) (hb : c.code = cc) (hts : ∀ w ∈ KW, w.before args s = true) (hown : s.vm.findClass own = some m.cls) (hK : va_K (dC, dI) vwCl (jtys kA) s) (hP : va_P (dC, dI) vwCl (c_w kA ad σ) H) (hlink : (Cond.fieldLink own idx "WalkedRounds$RoundWalk" "web" "LWalkedRounds$Web;").before args s = true) (hdg : decode cc pc = .ok (.getfield idx, 3)) (kk : W p l e R s m args below meth c H locs cells slots Q (F0 m (pc + 3) ls (.ref (ad 7) :: rest))) : W p l e R s m args below meth c H locs cells slots Q (F0 m pc ls (.ref (ad 24) :: rest)) := va_get (D := (dC, dI)) (ci := 7) (C := RX7) (T := TX7) (N := 12) hx hb hts inK_X7 hown hK hP 24 rfl rfl 0 (by decide) hlink (fun _ h => h) rfl hdg kk
theorem c_gX7_actor (hx : p.tables.exec = Jvm.exec) (hb : c.code = cc) (hts : ∀ w ∈ KW, w.before args s = true) (hown : s.vm.findClass own = some m.cls) (hK : va_K (dC, dI) vwCl (jtys kA) s) (hP : va_P (dC, dI) vwCl (c_w kA ad σ) H) (hlink : (Cond.fieldLink own idx "WalkedRounds$RoundWalk" "actor" "LWalkedRounds$Actor;").before args s = true) (hdg : decode cc pc = .ok (.getfield idx, 3)) (kk : W p l e R s m args below meth c H locs cells slots Q (F0 m (pc + 3) ls (.ref (ad 23) :: rest))) : W p l e R s m args below meth c H locs cells slots Q (F0 m pc ls (.ref (ad 24) :: rest)) := va_get (D := (dC, dI)) (ci := 7) (C := RX7) (T := TX7) (N := 12) hx hb hts inK_X7 hown hK hP 24 rfl rfl 1 (by decide) hlink (fun _ h => h) rfl hdg kk
theorem c_gX7_failure (hx : p.tables.exec = Jvm.exec) (hb : c.code = cc) (hts : ∀ w ∈ KW, w.before args s = true) (hown : s.vm.findClass own = some m.cls) (hK : va_K (dC, dI) vwCl (jtys kA) s) (hP : va_P (dC, dI) vwCl (c_w kA ad σ) H) (hlink : (Cond.fieldLink own idx "WalkedRounds$RoundWalk" "failure" "LWalkedRounds$Failure;").before args s = true) (hdg : decode cc pc = .ok (.getfield idx, 3)) (kk : W p l e R s m args below meth c H locs cells slots Q (F0 m (pc + 3) ls (.ref (ad 16) :: rest))) : W p l e R s m args below meth c H locs cells slots Q (F0 m pc ls (.ref (ad 24) :: rest)) := va_get (D := (dC, dI)) (ci := 7) (C := RX7) (T := TX7) (N := 12) hx hb hts inK_X7 hown hK hP 24 rfl rfl 2 (by decide) hlink (fun _ h => h) rfl hdg kk
theorem c_gX7_past (hx : p.tables.exec = Jvm.exec) (hb : c.code = cc) (hts : ∀ w ∈ KW, w.before args s = true) (hown : s.vm.findClass own = some m.cls) (hK : va_K (dC, dI) vwCl (jtys kA) s) (hP : va_P (dC, dI) vwCl (c_w kA ad σ) H) (hlink : (Cond.fieldLink own idx "WalkedRounds$RoundWalk" "past" "LWalkedRounds$Past;").before args s = true) (hdg : decode cc pc = .ok (.getfield idx, 3)) (kk : W p l e R s m args below meth c H locs cells slots Q (F0 m (pc + 3) ls (.ref (ad 17) :: rest))) : W p l e R s m args below meth c H locs cells slots Q (F0 m pc ls (.ref (ad 24) :: rest)) := va_get (D := (dC, dI)) (ci := 7) (C := RX7) (T := TX7) (N := 12) hx hb hts inK_X7 hown hK hP 24 rfl rfl 3 (by decide) hlink (fun _ h => h) rfl hdg kk
theorem c_gX7_told (hx : p.tables.exec = Jvm.exec) (hb : c.code = cc) (hts : ∀ w ∈ KW, w.before args s = true) (hown : s.vm.findClass own = some m.cls) (hK : va_K (dC, dI) vwCl (jtys kA) s) (hP : va_P (dC, dI) vwCl (c_w kA ad σ) H) (hlink : (Cond.fieldLink own idx "WalkedRounds$RoundWalk" "told" "LWalkedRounds$Told;").before args s = true) (hdg : decode cc pc = .ok (.getfield idx, 3)) (kk : W p l e R s m args below meth c H locs cells slots Q (F0 m (pc + 3) ls (.ref (ad 19) :: rest))) : W p l e R s m args below meth c H locs cells slots Q (F0 m pc ls (.ref (ad 24) :: rest)) := va_get (D := (dC, dI)) (ci := 7) (C := RX7) (T := TX7) (N := 12) hx hb hts inK_X7 hown hK hP 24 rfl rfl 4 (by decide) hlink (fun _ h => h) rfl hdg kk
theorem c_gX7_sentArcs (hx : p.tables.exec = Jvm.exec) (hb : c.code = cc) (hts : ∀ w ∈ KW, w.before args s = true) (hown : s.vm.findClass own = some m.cls) (hK : va_K (dC, dI) vwCl (jtys kA) s) (hP : va_P (dC, dI) vwCl (c_w kA ad σ) H) (hlink : (Cond.fieldLink own idx "WalkedRounds$RoundWalk" "sentArcs" "[I").before args s = true) (hdg : decode cc pc = .ok (.getfield idx, 3)) (kk : W p l e R s m args below meth c H locs cells slots Q (F0 m (pc + 3) ls (.ref (ad 25) :: rest))) : W p l e R s m args below meth c H locs cells slots Q (F0 m pc ls (.ref (ad 24) :: rest)) := va_get (D := (dC, dI)) (ci := 7) (C := RX7) (T := TX7) (N := 12) hx hb hts inK_X7 hown hK hP 24 rfl rfl 5 (by decide) hlink (fun _ h => h) rfl hdg kk
theorem c_gX7_carries (hx : p.tables.exec = Jvm.exec) (hb : c.code = cc) (hts : ∀ w ∈ KW, w.before args s = true) (hown : s.vm.findClass own = some m.cls) (hK : va_K (dC, dI) vwCl (jtys kA) s) (hP : va_P (dC, dI) vwCl (c_w kA ad σ) H) (hlink : (Cond.fieldLink own idx "WalkedRounds$RoundWalk" "carries" "[Z").before args s = true) (hdg : decode cc pc = .ok (.getfield idx, 3)) (kk : W p l e R s m args below meth c H locs cells slots Q (F0 m (pc + 3) ls (.ref (ad 26) :: rest))) : W p l e R s m args below meth c H locs cells slots Q (F0 m pc ls (.ref (ad 24) :: rest)) := va_get (D := (dC, dI)) (ci := 7) (C := RX7) (T := TX7) (N := 12) hx hb hts inK_X7 hown hK hP 24 rfl rfl 6 (by decide) hlink (fun _ h => h) rfl hdg kk
theorem c_gX7_carried (hx : p.tables.exec = Jvm.exec) (hb : c.code = cc) (hts : ∀ w ∈ KW, w.before args s = true) (hown : s.vm.findClass own = some m.cls) (hK : va_K (dC, dI) vwCl (jtys kA) s) (hP : va_P (dC, dI) vwCl (c_w kA ad σ) H) (hlink : (Cond.fieldLink own idx "WalkedRounds$RoundWalk" "carried" "[J").before args s = true) (hdg : decode cc pc = .ok (.getfield idx, 3)) (kk : W p l e R s m args below meth c H locs cells slots Q (F0 m (pc + 3) ls (.ref (ad 27) :: rest))) : W p l e R s m args below meth c H locs cells slots Q (F0 m pc ls (.ref (ad 24) :: rest)) := va_get (D := (dC, dI)) (ci := 7) (C := RX7) (T := TX7) (N := 12) hx hb hts inK_X7 hown hK hP 24 rfl rfl 7 (by decide) hlink (fun _ h => h) rfl hdg kk
theorem c_gX7_reached (hx : p.tables.exec = Jvm.exec) (hb : c.code = cc) (hts : ∀ w ∈ KW, w.before args s = true) (hown : s.vm.findClass own = some m.cls) (hK : va_K (dC, dI) vwCl (jtys kA) s) (hP : va_P (dC, dI) vwCl (c_w kA ad σ) H) (hlink : (Cond.fieldLink own idx "WalkedRounds$RoundWalk" "reached" "[Z").before args s = true) (hdg : decode cc pc = .ok (.getfield idx, 3)) (kk : W p l e R s m args below meth c H locs cells slots Q (F0 m (pc + 3) ls (.ref (ad 28) :: rest))) : W p l e R s m args below meth c H locs cells slots Q (F0 m pc ls (.ref (ad 24) :: rest)) := va_get (D := (dC, dI)) (ci := 7) (C := RX7) (T := TX7) (N := 12) hx hb hts inK_X7 hown hK hP 24 rfl rfl 8 (by decide) hlink (fun _ h => h) rfl hdg kk
theorem c_gX7_halting (hx : p.tables.exec = Jvm.exec) (hb : c.code = cc) (hts : ∀ w ∈ KW, w.before args s = true) (hown : s.vm.findClass own = some m.cls) (hK : va_K (dC, dI) vwCl (jtys kA) s) (hP : va_P (dC, dI) vwCl (c_w kA ad σ) H) (hlink : (Cond.fieldLink own idx "WalkedRounds$RoundWalk" "halting" "[Z").before args s = true) (hdg : decode cc pc = .ok (.getfield idx, 3)) (kk : W p l e R s m args below meth c H locs cells slots Q (F0 m (pc + 3) ls (.ref (ad 29) :: rest))) : W p l e R s m args below meth c H locs cells slots Q (F0 m pc ls (.ref (ad 24) :: rest)) := va_get (D := (dC, dI)) (ci := 7) (C := RX7) (T := TX7) (N := 12) hx hb hts inK_X7 hown hK hP 24 rfl rfl 9 (by decide) hlink (fun _ h => h) rfl hdg kk
theorem c_gX7_newStates (hx : p.tables.exec = Jvm.exec) (hb : c.code = cc) (hts : ∀ w ∈ KW, w.before args s = true) (hown : s.vm.findClass own = some m.cls) (hK : va_K (dC, dI) vwCl (jtys kA) s) (hP : va_P (dC, dI) vwCl (c_w kA ad σ) H) (hlink : (Cond.fieldLink own idx "WalkedRounds$RoundWalk" "newStates" "[J").before args s = true) (hdg : decode cc pc = .ok (.getfield idx, 3)) (kk : W p l e R s m args below meth c H locs cells slots Q (F0 m (pc + 3) ls (.ref (ad 30) :: rest))) : W p l e R s m args below meth c H locs cells slots Q (F0 m pc ls (.ref (ad 24) :: rest)) := va_get (D := (dC, dI)) (ci := 7) (C := RX7) (T := TX7) (N := 12) hx hb hts inK_X7 hown hK hP 24 rfl rfl 10 (by decide) hlink (fun _ h => h) rfl hdg kk
theorem c_gX7_sent (hx : p.tables.exec = Jvm.exec) (hb : c.code = cc) (hts : ∀ w ∈ KW, w.before args s = true) (hown : s.vm.findClass own = some m.cls) (hK : va_K (dC, dI) vwCl (jtys kA) s) (hP : va_P (dC, dI) vwCl (c_w kA ad σ) H) (hlink : (Cond.fieldLink own idx "WalkedRounds$RoundWalk" "sent" "I").before args s = true) (hdg : decode cc pc = .ok (.getfield idx, 3)) (kk : W p l e R s m args below meth c H locs cells slots Q (F0 m (pc + 3) ls (.int (rg_I σ 18) :: rest))) : W p l e R s m args below meth c H locs cells slots Q (F0 m pc ls (.ref (ad 24) :: rest)) := va_get (D := (dC, dI)) (ci := 7) (C := RX7) (T := TX7) (N := 12) hx hb hts inK_X7 hown hK hP 24 rfl rfl 11 (by decide) hlink (fun _ h => h) rfl hdg kk
theorem c_pX7_sent (hx : p.tables.exec = Jvm.exec) (hb : c.code = cc) (hts : ∀ w ∈ KW, w.before args s = true) (hown : s.vm.findClass own = some m.cls) (hK : va_K (dC, dI) vwCl (jtys kA) s) (hap : jw_ap 57 ad) (hP : va_P (dC, dI) vwCl (c_w kA ad σ) H) (hS : va_S (jw_A 57 ad) H0 H locs) {v : Int32} {F : RS → Option β} (hf : kn_v (rs_I σ 18 v) F = some r) (hlink : (Cond.fieldLink own idx "WalkedRounds$RoundWalk" "sent" "I").before args s = true) (hdg : decode cc pc = .ok (.putfield idx, 3)) (kk : ∀ (σ2 : RS) (H1 : Heap) (locs1 : List Loc), va_P (dC, dI) vwCl (c_w kA ad σ2) H1 → va_S (jw_A 57 ad) H0 H1 locs1 → F σ2 = some r → W p l e R s m args below meth c H1 locs1 cells slots Q (F0 m (pc + 3) ls rest)) : W p l e R s m args below meth c H locs cells slots Q (F0 m pc ls (.int v :: .ref (ad 24) :: rest)) := va_put (D := (dC, dI)) (ci := 7) (v := .int v) (ty := .int) (C := RX7) (T := TX7) (N := 12) hx hb hts inK_X7 tyX7 tyX7_ok nmX7 hown hK hP (c_D hap σ) hS 24 rfl rfl 11 (by decide) hlink (fun _ h => h) rfl (by decide +kernel) rfl rfl (Nat.le_of_ble_eq_true rfl) hdg (fun H1 locs1 h1 _ h3 => kk (rs_I σ 18 v) H1 locs1 h1 h3 hf)
theorem c_gX3_web (hx : p.tables.exec = Jvm.exec) (hb : c.code = cc) (hts : ∀ w ∈ KW, w.before args s = true) (hown : s.vm.findClass own = some m.cls) (hK : va_K (dC, dI) vwCl (jtys kA) s) (hP : va_P (dC, dI) vwCl (c_w kA ad σ) H) (hlink : (Cond.fieldLink own idx "WalkedRounds$LineWalk" "web" "LWalkedRounds$Web;").before args s = true) (hdg : decode cc pc = .ok (.getfield idx, 3)) (kk : W p l e R s m args below meth c H locs cells slots Q (F0 m (pc + 3) ls (.ref (ad 7) :: rest))) : W p l e R s m args below meth c H locs cells slots Q (F0 m pc ls (.ref (ad 31) :: rest)) := va_get (D := (dC, dI)) (ci := 3) (C := RX3) (T := TX3) (N := 11) hx hb hts inK_X3 hown hK hP 31 rfl rfl 0 (by decide) hlink (fun _ h => h) rfl hdg kk
theorem c_gX3_actor (hx : p.tables.exec = Jvm.exec) (hb : c.code = cc) (hts : ∀ w ∈ KW, w.before args s = true) (hown : s.vm.findClass own = some m.cls) (hK : va_K (dC, dI) vwCl (jtys kA) s) (hP : va_P (dC, dI) vwCl (c_w kA ad σ) H) (hlink : (Cond.fieldLink own idx "WalkedRounds$LineWalk" "actor" "LWalkedRounds$Actor;").before args s = true) (hdg : decode cc pc = .ok (.getfield idx, 3)) (kk : W p l e R s m args below meth c H locs cells slots Q (F0 m (pc + 3) ls (.ref (ad 23) :: rest))) : W p l e R s m args below meth c H locs cells slots Q (F0 m pc ls (.ref (ad 31) :: rest)) := va_get (D := (dC, dI)) (ci := 3) (C := RX3) (T := TX3) (N := 11) hx hb hts inK_X3 hown hK hP 31 rfl rfl 1 (by decide) hlink (fun _ h => h) rfl hdg kk
theorem c_gX3_failure (hx : p.tables.exec = Jvm.exec) (hb : c.code = cc) (hts : ∀ w ∈ KW, w.before args s = true) (hown : s.vm.findClass own = some m.cls) (hK : va_K (dC, dI) vwCl (jtys kA) s) (hP : va_P (dC, dI) vwCl (c_w kA ad σ) H) (hlink : (Cond.fieldLink own idx "WalkedRounds$LineWalk" "failure" "LWalkedRounds$Failure;").before args s = true) (hdg : decode cc pc = .ok (.getfield idx, 3)) (kk : W p l e R s m args below meth c H locs cells slots Q (F0 m (pc + 3) ls (.ref (ad 16) :: rest))) : W p l e R s m args below meth c H locs cells slots Q (F0 m pc ls (.ref (ad 31) :: rest)) := va_get (D := (dC, dI)) (ci := 3) (C := RX3) (T := TX3) (N := 11) hx hb hts inK_X3 hown hK hP 31 rfl rfl 2 (by decide) hlink (fun _ h => h) rfl hdg kk
theorem c_gX3_past (hx : p.tables.exec = Jvm.exec) (hb : c.code = cc) (hts : ∀ w ∈ KW, w.before args s = true) (hown : s.vm.findClass own = some m.cls) (hK : va_K (dC, dI) vwCl (jtys kA) s) (hP : va_P (dC, dI) vwCl (c_w kA ad σ) H) (hlink : (Cond.fieldLink own idx "WalkedRounds$LineWalk" "past" "LWalkedRounds$Past;").before args s = true) (hdg : decode cc pc = .ok (.getfield idx, 3)) (kk : W p l e R s m args below meth c H locs cells slots Q (F0 m (pc + 3) ls (.ref (ad 17) :: rest))) : W p l e R s m args below meth c H locs cells slots Q (F0 m pc ls (.ref (ad 31) :: rest)) := va_get (D := (dC, dI)) (ci := 3) (C := RX3) (T := TX3) (N := 11) hx hb hts inK_X3 hown hK hP 31 rfl rfl 3 (by decide) hlink (fun _ h => h) rfl hdg kk
theorem c_gX3_told (hx : p.tables.exec = Jvm.exec) (hb : c.code = cc) (hts : ∀ w ∈ KW, w.before args s = true) (hown : s.vm.findClass own = some m.cls) (hK : va_K (dC, dI) vwCl (jtys kA) s) (hP : va_P (dC, dI) vwCl (c_w kA ad σ) H) (hlink : (Cond.fieldLink own idx "WalkedRounds$LineWalk" "told" "LWalkedRounds$Told;").before args s = true) (hdg : decode cc pc = .ok (.getfield idx, 3)) (kk : W p l e R s m args below meth c H locs cells slots Q (F0 m (pc + 3) ls (.ref (ad 19) :: rest))) : W p l e R s m args below meth c H locs cells slots Q (F0 m pc ls (.ref (ad 31) :: rest)) := va_get (D := (dC, dI)) (ci := 3) (C := RX3) (T := TX3) (N := 11) hx hb hts inK_X3 hown hK hP 31 rfl rfl 4 (by decide) hlink (fun _ h => h) rfl hdg kk
theorem c_gX3_arcs (hx : p.tables.exec = Jvm.exec) (hb : c.code = cc) (hts : ∀ w ∈ KW, w.before args s = true) (hown : s.vm.findClass own = some m.cls) (hK : va_K (dC, dI) vwCl (jtys kA) s) (hP : va_P (dC, dI) vwCl (c_w kA ad σ) H) (hlink : (Cond.fieldLink own idx "WalkedRounds$LineWalk" "arcs" "[I").before args s = true) (hdg : decode cc pc = .ok (.getfield idx, 3)) (kk : W p l e R s m args below meth c H locs cells slots Q (F0 m (pc + 3) ls (.ref (ad 32) :: rest))) : W p l e R s m args below meth c H locs cells slots Q (F0 m pc ls (.ref (ad 31) :: rest)) := va_get (D := (dC, dI)) (ci := 3) (C := RX3) (T := TX3) (N := 11) hx hb hts inK_X3 hown hK hP 31 rfl rfl 5 (by decide) hlink (fun _ h => h) rfl hdg kk
theorem c_gX3_values (hx : p.tables.exec = Jvm.exec) (hb : c.code = cc) (hts : ∀ w ∈ KW, w.before args s = true) (hown : s.vm.findClass own = some m.cls) (hK : va_K (dC, dI) vwCl (jtys kA) s) (hP : va_P (dC, dI) vwCl (c_w kA ad σ) H) (hlink : (Cond.fieldLink own idx "WalkedRounds$LineWalk" "values" "[J").before args s = true) (hdg : decode cc pc = .ok (.getfield idx, 3)) (kk : W p l e R s m args below meth c H locs cells slots Q (F0 m (pc + 3) ls (.ref (ad 33) :: rest))) : W p l e R s m args below meth c H locs cells slots Q (F0 m pc ls (.ref (ad 31) :: rest)) := va_get (D := (dC, dI)) (ci := 3) (C := RX3) (T := TX3) (N := 11) hx hb hts inK_X3 hown hK hP 31 rfl rfl 6 (by decide) hlink (fun _ h => h) rfl hdg kk
theorem c_gX3_newStates (hx : p.tables.exec = Jvm.exec) (hb : c.code = cc) (hts : ∀ w ∈ KW, w.before args s = true) (hown : s.vm.findClass own = some m.cls) (hK : va_K (dC, dI) vwCl (jtys kA) s) (hP : va_P (dC, dI) vwCl (c_w kA ad σ) H) (hlink : (Cond.fieldLink own idx "WalkedRounds$LineWalk" "newStates" "[J").before args s = true) (hdg : decode cc pc = .ok (.getfield idx, 3)) (kk : W p l e R s m args below meth c H locs cells slots Q (F0 m (pc + 3) ls (.ref (ad 34) :: rest))) : W p l e R s m args below meth c H locs cells slots Q (F0 m pc ls (.ref (ad 31) :: rest)) := va_get (D := (dC, dI)) (ci := 3) (C := RX3) (T := TX3) (N := 11) hx hb hts inK_X3 hown hK hP 31 rfl rfl 7 (by decide) hlink (fun _ h => h) rfl hdg kk
theorem c_gX3_oldStates (hx : p.tables.exec = Jvm.exec) (hb : c.code = cc) (hts : ∀ w ∈ KW, w.before args s = true) (hown : s.vm.findClass own = some m.cls) (hK : va_K (dC, dI) vwCl (jtys kA) s) (hP : va_P (dC, dI) vwCl (c_w kA ad σ) H) (hlink : (Cond.fieldLink own idx "WalkedRounds$LineWalk" "oldStates" "[J").before args s = true) (hdg : decode cc pc = .ok (.getfield idx, 3)) (kk : W p l e R s m args below meth c H locs cells slots Q (F0 m (pc + 3) ls (.ref (ad 35) :: rest))) : W p l e R s m args below meth c H locs cells slots Q (F0 m pc ls (.ref (ad 31) :: rest)) := va_get (D := (dC, dI)) (ci := 3) (C := RX3) (T := TX3) (N := 11) hx hb hts inK_X3 hown hK hP 31 rfl rfl 8 (by decide) hlink (fun _ h => h) rfl hdg kk
theorem c_gX3_first (hx : p.tables.exec = Jvm.exec) (hb : c.code = cc) (hts : ∀ w ∈ KW, w.before args s = true) (hown : s.vm.findClass own = some m.cls) (hK : va_K (dC, dI) vwCl (jtys kA) s) (hP : va_P (dC, dI) vwCl (c_w kA ad σ) H) (hlink : (Cond.fieldLink own idx "WalkedRounds$LineWalk" "first" "I").before args s = true) (hdg : decode cc pc = .ok (.getfield idx, 3)) (kk : W p l e R s m args below meth c H locs cells slots Q (F0 m (pc + 3) ls (.int (rg_I σ 19) :: rest))) : W p l e R s m args below meth c H locs cells slots Q (F0 m pc ls (.ref (ad 31) :: rest)) := va_get (D := (dC, dI)) (ci := 3) (C := RX3) (T := TX3) (N := 11) hx hb hts inK_X3 hown hK hP 31 rfl rfl 9 (by decide) hlink (fun _ h => h) rfl hdg kk
theorem c_pX3_first (hx : p.tables.exec = Jvm.exec) (hb : c.code = cc) (hts : ∀ w ∈ KW, w.before args s = true) (hown : s.vm.findClass own = some m.cls) (hK : va_K (dC, dI) vwCl (jtys kA) s) (hap : jw_ap 57 ad) (hP : va_P (dC, dI) vwCl (c_w kA ad σ) H) (hS : va_S (jw_A 57 ad) H0 H locs) {v : Int32} {F : RS → Option β} (hf : kn_v (rs_I σ 19 v) F = some r) (hlink : (Cond.fieldLink own idx "WalkedRounds$LineWalk" "first" "I").before args s = true) (hdg : decode cc pc = .ok (.putfield idx, 3)) (kk : ∀ (σ2 : RS) (H1 : Heap) (locs1 : List Loc), va_P (dC, dI) vwCl (c_w kA ad σ2) H1 → va_S (jw_A 57 ad) H0 H1 locs1 → F σ2 = some r → W p l e R s m args below meth c H1 locs1 cells slots Q (F0 m (pc + 3) ls rest)) : W p l e R s m args below meth c H locs cells slots Q (F0 m pc ls (.int v :: .ref (ad 31) :: rest)) := va_put (D := (dC, dI)) (ci := 3) (v := .int v) (ty := .int) (C := RX3) (T := TX3) (N := 11) hx hb hts inK_X3 tyX3 tyX3_ok nmX3 hown hK hP (c_D hap σ) hS 31 rfl rfl 9 (by decide) hlink (fun _ h => h) rfl (by decide +kernel) rfl rfl (Nat.le_of_ble_eq_true rfl) hdg (fun H1 locs1 h1 _ h3 => kk (rs_I σ 19 v) H1 locs1 h1 h3 hf)
theorem c_gX3_size (hx : p.tables.exec = Jvm.exec) (hb : c.code = cc) (hts : ∀ w ∈ KW, w.before args s = true) (hown : s.vm.findClass own = some m.cls) (hK : va_K (dC, dI) vwCl (jtys kA) s) (hP : va_P (dC, dI) vwCl (c_w kA ad σ) H) (hlink : (Cond.fieldLink own idx "WalkedRounds$LineWalk" "size" "I").before args s = true) (hdg : decode cc pc = .ok (.getfield idx, 3)) (kk : W p l e R s m args below meth c H locs cells slots Q (F0 m (pc + 3) ls (.int (rg_I σ 20) :: rest))) : W p l e R s m args below meth c H locs cells slots Q (F0 m pc ls (.ref (ad 31) :: rest)) := va_get (D := (dC, dI)) (ci := 3) (C := RX3) (T := TX3) (N := 11) hx hb hts inK_X3 hown hK hP 31 rfl rfl 10 (by decide) hlink (fun _ h => h) rfl hdg kk
theorem c_pX3_size (hx : p.tables.exec = Jvm.exec) (hb : c.code = cc) (hts : ∀ w ∈ KW, w.before args s = true) (hown : s.vm.findClass own = some m.cls) (hK : va_K (dC, dI) vwCl (jtys kA) s) (hap : jw_ap 57 ad) (hP : va_P (dC, dI) vwCl (c_w kA ad σ) H) (hS : va_S (jw_A 57 ad) H0 H locs) {v : Int32} {F : RS → Option β} (hf : kn_v (rs_I σ 20 v) F = some r) (hlink : (Cond.fieldLink own idx "WalkedRounds$LineWalk" "size" "I").before args s = true) (hdg : decode cc pc = .ok (.putfield idx, 3)) (kk : ∀ (σ2 : RS) (H1 : Heap) (locs1 : List Loc), va_P (dC, dI) vwCl (c_w kA ad σ2) H1 → va_S (jw_A 57 ad) H0 H1 locs1 → F σ2 = some r → W p l e R s m args below meth c H1 locs1 cells slots Q (F0 m (pc + 3) ls rest)) : W p l e R s m args below meth c H locs cells slots Q (F0 m pc ls (.int v :: .ref (ad 31) :: rest)) := va_put (D := (dC, dI)) (ci := 3) (v := .int v) (ty := .int) (C := RX3) (T := TX3) (N := 11) hx hb hts inK_X3 tyX3 tyX3_ok nmX3 hown hK hP (c_D hap σ) hS 31 rfl rfl 10 (by decide) hlink (fun _ h => h) rfl (by decide +kernel) rfl rfl (Nat.le_of_ble_eq_true rfl) hdg (fun H1 locs1 h1 _ h3 => kk (rs_I σ 20 v) H1 locs1 h1 h3 hf)
theorem c_gX4_states (hx : p.tables.exec = Jvm.exec) (hb : c.code = cc) (hts : ∀ w ∈ KW, w.before args s = true) (hown : s.vm.findClass own = some m.cls) (hK : va_K (dC, dI) vwCl (jtys kA) s) {j : Nat} (hj : j < 7) (hP : va_P (dC, dI) vwCl (c_w kA ad σ) H) (hlink : (Cond.fieldLink own idx "WalkedRounds$Memory" "states" "[J").before args s = true) (hdg : decode cc pc = .ok (.getfield idx, 3)) (kk : W p l e R s m args below meth c H locs cells slots Q (F0 m (pc + 3) ls (.ref (ad (36 + 3 * j + 1)) :: rest))) : W p l e R s m args below meth c H locs cells slots Q (F0 m pc ls (.ref (ad (36 + 3 * j)) :: rest)) := va_get (D := (dC, dI)) (ci := 4) (C := RX4) (T := TX4) (N := 4) hx hb hts inK_X4 hown hK hP (36 + 3 * j) (c_lmem hj) rfl 0 (by decide) hlink (fun _ h => h) rfl hdg kk
theorem c_gX4_awake (hx : p.tables.exec = Jvm.exec) (hb : c.code = cc) (hts : ∀ w ∈ KW, w.before args s = true) (hown : s.vm.findClass own = some m.cls) (hK : va_K (dC, dI) vwCl (jtys kA) s) {j : Nat} (hj : j < 7) (hP : va_P (dC, dI) vwCl (c_w kA ad σ) H) (hlink : (Cond.fieldLink own idx "WalkedRounds$Memory" "awake" "[Z").before args s = true) (hdg : decode cc pc = .ok (.getfield idx, 3)) (kk : W p l e R s m args below meth c H locs cells slots Q (F0 m (pc + 3) ls (.ref (ad (36 + 3 * j + 2)) :: rest))) : W p l e R s m args below meth c H locs cells slots Q (F0 m pc ls (.ref (ad (36 + 3 * j)) :: rest)) := va_get (D := (dC, dI)) (ci := 4) (C := RX4) (T := TX4) (N := 4) hx hb hts inK_X4 hown hK hP (36 + 3 * j) (c_lmem hj) rfl 1 (by decide) hlink (fun _ h => h) rfl hdg kk
theorem c_gX4_rounds (hx : p.tables.exec = Jvm.exec) (hb : c.code = cc) (hts : ∀ w ∈ KW, w.before args s = true) (hown : s.vm.findClass own = some m.cls) (hK : va_K (dC, dI) vwCl (jtys kA) s) {j : Nat} (hj : j < 7) (hP : va_P (dC, dI) vwCl (c_w kA ad σ) H) (hlink : (Cond.fieldLink own idx "WalkedRounds$Memory" "rounds" "I").before args s = true) (hdg : decode cc pc = .ok (.getfield idx, 3)) (kk : W p l e R s m args below meth c H locs cells slots Q (F0 m (pc + 3) ls (.int (rg_I σ (21 + j)) :: rest))) : W p l e R s m args below meth c H locs cells slots Q (F0 m pc ls (.ref (ad (36 + 3 * j)) :: rest)) := va_get (D := (dC, dI)) (ci := 4) (C := RX4) (T := TX4) (N := 4) hx hb hts inK_X4 hown hK hP (36 + 3 * j) (c_lmem hj) rfl 2 (by decide) hlink (fun _ h => h) rfl hdg kk
theorem c_pX4_rounds (hx : p.tables.exec = Jvm.exec) (hb : c.code = cc) (hts : ∀ w ∈ KW, w.before args s = true) (hown : s.vm.findClass own = some m.cls) (hK : va_K (dC, dI) vwCl (jtys kA) s) (hap : jw_ap 57 ad) {j : Nat} (hj : j < 7) (hP : va_P (dC, dI) vwCl (c_w kA ad σ) H) (hS : va_S (jw_A 57 ad) H0 H locs) {v : Int32} {F : RS → Option β} (hf : kn_v (rs_I σ (21 + j) v) F = some r) (hlink : (Cond.fieldLink own idx "WalkedRounds$Memory" "rounds" "I").before args s = true) (hdg : decode cc pc = .ok (.putfield idx, 3)) (kk : ∀ (σ2 : RS) (H1 : Heap) (locs1 : List Loc), va_P (dC, dI) vwCl (c_w kA ad σ2) H1 → va_S (jw_A 57 ad) H0 H1 locs1 → F σ2 = some r → W p l e R s m args below meth c H1 locs1 cells slots Q (F0 m (pc + 3) ls rest)) : W p l e R s m args below meth c H locs cells slots Q (F0 m pc ls (.int v :: .ref (ad (36 + 3 * j)) :: rest)) := va_put (D := (dC, dI)) (ci := 4) (v := .int v) (ty := .int) (C := RX4) (T := TX4) (N := 4) hx hb hts inK_X4 tyX4 tyX4_ok nmX4 hown hK hP (c_D hap σ) hS (36 + 3 * j) (c_lmem hj) rfl 2 (by decide) hlink (fun _ h => h) rfl (by decide +kernel) rfl rfl (Nat.le_of_ble_eq_true rfl) hdg (fun H1 locs1 h1 _ h3 => kk (rs_I σ (21 + j) v) H1 locs1 (c_smI hj ▸ h1) h3 hf)
theorem c_gX4_sum (hx : p.tables.exec = Jvm.exec) (hb : c.code = cc) (hts : ∀ w ∈ KW, w.before args s = true) (hown : s.vm.findClass own = some m.cls) (hK : va_K (dC, dI) vwCl (jtys kA) s) {j : Nat} (hj : j < 7) (hP : va_P (dC, dI) vwCl (c_w kA ad σ) H) (hlink : (Cond.fieldLink own idx "WalkedRounds$Memory" "sum" "J").before args s = true) (hdg : decode cc pc = .ok (.getfield idx, 3)) (kk : W p l e R s m args below meth c H locs cells slots Q (F0 m (pc + 3) ls (.long (rg_L σ (2 + j)) :: rest))) : W p l e R s m args below meth c H locs cells slots Q (F0 m pc ls (.ref (ad (36 + 3 * j)) :: rest)) := va_get (D := (dC, dI)) (ci := 4) (C := RX4) (T := TX4) (N := 4) hx hb hts inK_X4 hown hK hP (36 + 3 * j) (c_lmem hj) rfl 3 (by decide) hlink (fun _ h => h) rfl hdg kk
theorem c_pX4_sum (hx : p.tables.exec = Jvm.exec) (hb : c.code = cc) (hts : ∀ w ∈ KW, w.before args s = true) (hown : s.vm.findClass own = some m.cls) (hK : va_K (dC, dI) vwCl (jtys kA) s) (hap : jw_ap 57 ad) {j : Nat} (hj : j < 7) (hP : va_P (dC, dI) vwCl (c_w kA ad σ) H) (hS : va_S (jw_A 57 ad) H0 H locs) {v : Int64} {F : RS → Option β} (hf : kn_v (rs_L σ (2 + j) v) F = some r) (hlink : (Cond.fieldLink own idx "WalkedRounds$Memory" "sum" "J").before args s = true) (hdg : decode cc pc = .ok (.putfield idx, 3)) (kk : ∀ (σ2 : RS) (H1 : Heap) (locs1 : List Loc), va_P (dC, dI) vwCl (c_w kA ad σ2) H1 → va_S (jw_A 57 ad) H0 H1 locs1 → F σ2 = some r → W p l e R s m args below meth c H1 locs1 cells slots Q (F0 m (pc + 3) ls rest)) : W p l e R s m args below meth c H locs cells slots Q (F0 m pc ls (.long v :: .ref (ad (36 + 3 * j)) :: rest)) := va_put (D := (dC, dI)) (ci := 4) (v := .long v) (ty := .long) (C := RX4) (T := TX4) (N := 4) hx hb hts inK_X4 tyX4 tyX4_ok nmX4 hown hK hP (c_D hap σ) hS (36 + 3 * j) (c_lmem hj) rfl 3 (by decide) hlink (fun _ h => h) rfl (by decide +kernel) rfl rfl (Nat.le_of_ble_eq_true rfl) hdg (fun H1 locs1 h1 _ h3 => kk (rs_L σ (2 + j) v) H1 locs1 (c_smL hj ▸ h1) h3 hf)
end LYc
end
