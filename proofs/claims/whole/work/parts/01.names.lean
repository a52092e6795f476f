-- ===== PART A: goes FIRST, ahead of the names: the tables' words, and 'selects' of the private methods out of them =====
/-- a private method of a class that the tables say can be made, by its rows of tables_1 -/
def lw_okq (q : MethodName × Nat) : Prop := (q.1.cls ≠ "java/lang/invoke/MethodHandle" ∧ q.1.cls ≠ "java/lang/invoke/VarHandle") ∧ Cond.instantiable q.1.cls q.2 ∈ tables_1 ∧ Cond.privateMethod q.1 ∈ tables_1 ∧ Cond.instanceMethod q.1 ∈ tables_1
theorem lw_p0 : lw_okq (⟨"ClerkVotes", "noteStateBefore", "()V"⟩, 10) := ⟨⟨by decide +kernel, by decide +kernel⟩, List.mem_of_getElem? (i := 10) (by decide +kernel), List.mem_of_getElem? (i := 156) (by decide +kernel), List.mem_of_getElem? (i := 157) (by decide +kernel)⟩
theorem lw_p1 : lw_okq (⟨"ClerkVotes", "recorded", "(I)I"⟩, 10) := ⟨⟨by decide +kernel, by decide +kernel⟩, List.mem_of_getElem? (i := 10) (by decide +kernel), List.mem_of_getElem? (i := 180) (by decide +kernel), List.mem_of_getElem? (i := 181) (by decide +kernel)⟩
theorem lw_p2 : lw_okq (⟨"ClerkVotes$State", "isIll", "(I)Z"⟩, 14) := ⟨⟨by decide +kernel, by decide +kernel⟩, List.mem_of_getElem? (i := 18) (by decide +kernel), List.mem_of_getElem? (i := 209) (by decide +kernel), List.mem_of_getElem? (i := 210) (by decide +kernel)⟩
theorem lw_p3 : lw_okq (⟨"ClerkVotes$State", "sendToClerks", "(IIII)V"⟩, 14) := ⟨⟨by decide +kernel, by decide +kernel⟩, List.mem_of_getElem? (i := 18) (by decide +kernel), List.mem_of_getElem? (i := 213) (by decide +kernel), List.mem_of_getElem? (i := 214) (by decide +kernel)⟩
theorem lw_p4 : lw_okq (⟨"ClerkVotes$State", "vote", "(II)V"⟩, 14) := ⟨⟨by decide +kernel, by decide +kernel⟩, List.mem_of_getElem? (i := 18) (by decide +kernel), List.mem_of_getElem? (i := 241) (by decide +kernel), List.mem_of_getElem? (i := 242) (by decide +kernel)⟩
theorem lw_p5 : lw_okq (⟨"ClerkVotes$State", "stands", "(III)Z"⟩, 14) := ⟨⟨by decide +kernel, by decide +kernel⟩, List.mem_of_getElem? (i := 18) (by decide +kernel), List.mem_of_getElem? (i := 245) (by decide +kernel), List.mem_of_getElem? (i := 246) (by decide +kernel)⟩
theorem lw_p6 : lw_okq (⟨"ClerkVotes$State", "whoStand", "(II)I"⟩, 14) := ⟨⟨by decide +kernel, by decide +kernel⟩, List.mem_of_getElem? (i := 18) (by decide +kernel), List.mem_of_getElem? (i := 249) (by decide +kernel), List.mem_of_getElem? (i := 250) (by decide +kernel)⟩
theorem lw_p7 : lw_okq (⟨"ClerkVotes$State", "move", "(IIII)V"⟩, 14) := ⟨⟨by decide +kernel, by decide +kernel⟩, List.mem_of_getElem? (i := 18) (by decide +kernel), List.mem_of_getElem? (i := 253) (by decide +kernel), List.mem_of_getElem? (i := 254) (by decide +kernel)⟩
theorem lw_p8 : lw_okq (⟨"ClerkVotes$State", "takeYes", "(II)V"⟩, 14) := ⟨⟨by decide +kernel, by decide +kernel⟩, List.mem_of_getElem? (i := 18) (by decide +kernel), List.mem_of_getElem? (i := 257) (by decide +kernel), List.mem_of_getElem? (i := 258) (by decide +kernel)⟩
theorem lw_p9 : lw_okq (⟨"ClerkVotes$State", "answerAsBetween", "(II)V"⟩, 14) := ⟨⟨by decide +kernel, by decide +kernel⟩, List.mem_of_getElem? (i := 18) (by decide +kernel), List.mem_of_getElem? (i := 261) (by decide +kernel), List.mem_of_getElem? (i := 262) (by decide +kernel)⟩
theorem lw_p10 : lw_okq (⟨"ClerkVotes$State", "takeNo", "(II)V"⟩, 14) := ⟨⟨by decide +kernel, by decide +kernel⟩, List.mem_of_getElem? (i := 18) (by decide +kernel), List.mem_of_getElem? (i := 265) (by decide +kernel), List.mem_of_getElem? (i := 266) (by decide +kernel)⟩
theorem lw_p11 : lw_okq (⟨"ClerkVotes$State", "postFor", "(II)V"⟩, 14) := ⟨⟨by decide +kernel, by decide +kernel⟩, List.mem_of_getElem? (i := 18) (by decide +kernel), List.mem_of_getElem? (i := 269) (by decide +kernel), List.mem_of_getElem? (i := 270) (by decide +kernel)⟩
theorem lw_p12 : lw_okq (⟨"ClerkVotes$State", "tearFor", "(II)V"⟩, 14) := ⟨⟨by decide +kernel, by decide +kernel⟩, List.mem_of_getElem? (i := 18) (by decide +kernel), List.mem_of_getElem? (i := 273) (by decide +kernel), List.mem_of_getElem? (i := 274) (by decide +kernel)⟩
theorem lw_p13 : lw_okq (⟨"ClerkVotes$State", "takeReceipt", "(II)V"⟩, 14) := ⟨⟨by decide +kernel, by decide +kernel⟩, List.mem_of_getElem? (i := 18) (by decide +kernel), List.mem_of_getElem? (i := 277) (by decide +kernel), List.mem_of_getElem? (i := 278) (by decide +kernel)⟩
theorem lw_p14 : lw_okq (⟨"ClerkVotes$State", "answerAsElder", "(III)V"⟩, 14) := ⟨⟨by decide +kernel, by decide +kernel⟩, List.mem_of_getElem? (i := 18) (by decide +kernel), List.mem_of_getElem? (i := 281) (by decide +kernel), List.mem_of_getElem? (i := 282) (by decide +kernel)⟩
theorem lw_p15 : lw_okq (⟨"ClerkVotes$State", "forget", "(II)V"⟩, 14) := ⟨⟨by decide +kernel, by decide +kernel⟩, List.mem_of_getElem? (i := 18) (by decide +kernel), List.mem_of_getElem? (i := 316) (by decide +kernel), List.mem_of_getElem? (i := 317) (by decide +kernel)⟩
def lw_privs_1 : List (MethodName × Nat) := [(⟨"ClerkVotes", "noteStateBefore", "()V"⟩, 10), (⟨"ClerkVotes", "recorded", "(I)I"⟩, 10), (⟨"ClerkVotes$State", "isIll", "(I)Z"⟩, 14), (⟨"ClerkVotes$State", "sendToClerks", "(IIII)V"⟩, 14), (⟨"ClerkVotes$State", "vote", "(II)V"⟩, 14), (⟨"ClerkVotes$State", "stands", "(III)Z"⟩, 14), (⟨"ClerkVotes$State", "whoStand", "(II)I"⟩, 14), (⟨"ClerkVotes$State", "move", "(IIII)V"⟩, 14), (⟨"ClerkVotes$State", "takeYes", "(II)V"⟩, 14), (⟨"ClerkVotes$State", "answerAsBetween", "(II)V"⟩, 14), (⟨"ClerkVotes$State", "takeNo", "(II)V"⟩, 14), (⟨"ClerkVotes$State", "postFor", "(II)V"⟩, 14), (⟨"ClerkVotes$State", "tearFor", "(II)V"⟩, 14), (⟨"ClerkVotes$State", "takeReceipt", "(II)V"⟩, 14), (⟨"ClerkVotes$State", "answerAsElder", "(III)V"⟩, 14), (⟨"ClerkVotes$State", "forget", "(II)V"⟩, 14)]
theorem lw_r1 : ∀ q ∈ lw_privs_1, lw_okq q := List.forall_mem_cons.mpr ⟨lw_p0, List.forall_mem_cons.mpr ⟨lw_p1, List.forall_mem_cons.mpr ⟨lw_p2, List.forall_mem_cons.mpr ⟨lw_p3, List.forall_mem_cons.mpr ⟨lw_p4, List.forall_mem_cons.mpr ⟨lw_p5, List.forall_mem_cons.mpr ⟨lw_p6, List.forall_mem_cons.mpr ⟨lw_p7, List.forall_mem_cons.mpr ⟨lw_p8, List.forall_mem_cons.mpr ⟨lw_p9, List.forall_mem_cons.mpr ⟨lw_p10, List.forall_mem_cons.mpr ⟨lw_p11, List.forall_mem_cons.mpr ⟨lw_p12, List.forall_mem_cons.mpr ⟨lw_p13, List.forall_mem_cons.mpr ⟨lw_p14, List.forall_mem_cons.mpr ⟨lw_p15, fun _ h => absurd h List.not_mem_nil⟩⟩⟩⟩⟩⟩⟩⟩⟩⟩⟩⟩⟩⟩⟩⟩
theorem lw_p16 : lw_okq (⟨"ClerkVotes$State", "passTick", "()V"⟩, 14) := ⟨⟨by decide +kernel, by decide +kernel⟩, List.mem_of_getElem? (i := 18) (by decide +kernel), List.mem_of_getElem? (i := 342) (by decide +kernel), List.mem_of_getElem? (i := 343) (by decide +kernel)⟩
theorem lw_p17 : lw_okq (⟨"ClerkVotes$State", "pressOn", "(I)V"⟩, 14) := ⟨⟨by decide +kernel, by decide +kernel⟩, List.mem_of_getElem? (i := 18) (by decide +kernel), List.mem_of_getElem? (i := 346) (by decide +kernel), List.mem_of_getElem? (i := 347) (by decide +kernel)⟩
theorem lw_p18 : lw_okq (⟨"ClerkVotes$State", "isTimeAgain", "(II)Z"⟩, 14) := ⟨⟨by decide +kernel, by decide +kernel⟩, List.mem_of_getElem? (i := 18) (by decide +kernel), List.mem_of_getElem? (i := 350) (by decide +kernel), List.mem_of_getElem? (i := 351) (by decide +kernel)⟩
theorem lw_p19 : lw_okq (⟨"ClerkVotes$State", "askInDoubt", "(I)V"⟩, 14) := ⟨⟨by decide +kernel, by decide +kernel⟩, List.mem_of_getElem? (i := 18) (by decide +kernel), List.mem_of_getElem? (i := 354) (by decide +kernel), List.mem_of_getElem? (i := 355) (by decide +kernel)⟩
theorem lw_p20 : lw_okq (⟨"ClerkVotes$State", "dealsWithBoth", "(II)I"⟩, 14) := ⟨⟨by decide +kernel, by decide +kernel⟩, List.mem_of_getElem? (i := 18) (by decide +kernel), List.mem_of_getElem? (i := 412) (by decide +kernel), List.mem_of_getElem? (i := 413) (by decide +kernel)⟩
theorem lw_p21 : lw_okq (⟨"ClerkVotes$State", "isSettled", "(I)Z"⟩, 14) := ⟨⟨by decide +kernel, by decide +kernel⟩, List.mem_of_getElem? (i := 18) (by decide +kernel), List.mem_of_getElem? (i := 441) (by decide +kernel), List.mem_of_getElem? (i := 442) (by decide +kernel)⟩
theorem lw_p22 : lw_okq (⟨"ClerkVotes", "faultOfPad", "()I"⟩, 10) := ⟨⟨by decide +kernel, by decide +kernel⟩, List.mem_of_getElem? (i := 10) (by decide +kernel), List.mem_of_getElem? (i := 478) (by decide +kernel), List.mem_of_getElem? (i := 479) (by decide +kernel)⟩
theorem lw_p23 : lw_okq (⟨"ClerkVotes$OrderReader", "takesOrderEnd", "()Z"⟩, 4) := ⟨⟨by decide +kernel, by decide +kernel⟩, List.mem_of_getElem? (i := 98) (by decide +kernel), List.mem_of_getElem? (i := 490) (by decide +kernel), List.mem_of_getElem? (i := 491) (by decide +kernel)⟩
theorem lw_p24 : lw_okq (⟨"ClerkVotes$OrderReader", "takesLetter", "(I)Z"⟩, 4) := ⟨⟨by decide +kernel, by decide +kernel⟩, List.mem_of_getElem? (i := 98) (by decide +kernel), List.mem_of_getElem? (i := 498) (by decide +kernel), List.mem_of_getElem? (i := 499) (by decide +kernel)⟩
theorem lw_p25 : lw_okq (⟨"ClerkVotes$OrderReader", "takesRisingClerk", "(I)Z"⟩, 4) := ⟨⟨by decide +kernel, by decide +kernel⟩, List.mem_of_getElem? (i := 98) (by decide +kernel), List.mem_of_getElem? (i := 502) (by decide +kernel), List.mem_of_getElem? (i := 503) (by decide +kernel)⟩
theorem lw_p26 : lw_okq (⟨"ClerkVotes$OrderReader", "takesDigit", "(I)Z"⟩, 4) := ⟨⟨by decide +kernel, by decide +kernel⟩, List.mem_of_getElem? (i := 98) (by decide +kernel), List.mem_of_getElem? (i := 506) (by decide +kernel), List.mem_of_getElem? (i := 507) (by decide +kernel)⟩
theorem lw_p27 : lw_okq (⟨"ClerkVotes$OrderReader", "takesSomebody", "(I)Z"⟩, 4) := ⟨⟨by decide +kernel, by decide +kernel⟩, List.mem_of_getElem? (i := 98) (by decide +kernel), List.mem_of_getElem? (i := 510) (by decide +kernel), List.mem_of_getElem? (i := 511) (by decide +kernel)⟩
theorem lw_p28 : lw_okq (⟨"ClerkVotes$OrderReader", "takesSign", "(I)Z"⟩, 4) := ⟨⟨by decide +kernel, by decide +kernel⟩, List.mem_of_getElem? (i := 98) (by decide +kernel), List.mem_of_getElem? (i := 514) (by decide +kernel), List.mem_of_getElem? (i := 515) (by decide +kernel)⟩
theorem lw_p29 : lw_okq (⟨"ClerkVotes", "carryOutOrders", "()I"⟩, 10) := ⟨⟨by decide +kernel, by decide +kernel⟩, List.mem_of_getElem? (i := 10) (by decide +kernel), List.mem_of_getElem? (i := 523) (by decide +kernel), List.mem_of_getElem? (i := 524) (by decide +kernel)⟩
theorem lw_p30 : lw_okq (⟨"ClerkVotes", "carryOutOrder", "()I"⟩, 10) := ⟨⟨by decide +kernel, by decide +kernel⟩, List.mem_of_getElem? (i := 10) (by decide +kernel), List.mem_of_getElem? (i := 527) (by decide +kernel), List.mem_of_getElem? (i := 528) (by decide +kernel)⟩
theorem lw_p31 : lw_okq (⟨"ClerkVotesModel", "record", "()V"⟩, 13) := ⟨⟨by decide +kernel, by decide +kernel⟩, List.mem_of_getElem? (i := 544) (by decide +kernel), List.mem_of_getElem? (i := 598) (by decide +kernel), List.mem_of_getElem? (i := 599) (by decide +kernel)⟩
def lw_privs_2 : List (MethodName × Nat) := [(⟨"ClerkVotes$State", "passTick", "()V"⟩, 14), (⟨"ClerkVotes$State", "pressOn", "(I)V"⟩, 14), (⟨"ClerkVotes$State", "isTimeAgain", "(II)Z"⟩, 14), (⟨"ClerkVotes$State", "askInDoubt", "(I)V"⟩, 14), (⟨"ClerkVotes$State", "dealsWithBoth", "(II)I"⟩, 14), (⟨"ClerkVotes$State", "isSettled", "(I)Z"⟩, 14), (⟨"ClerkVotes", "faultOfPad", "()I"⟩, 10), (⟨"ClerkVotes$OrderReader", "takesOrderEnd", "()Z"⟩, 4), (⟨"ClerkVotes$OrderReader", "takesLetter", "(I)Z"⟩, 4), (⟨"ClerkVotes$OrderReader", "takesRisingClerk", "(I)Z"⟩, 4), (⟨"ClerkVotes$OrderReader", "takesDigit", "(I)Z"⟩, 4), (⟨"ClerkVotes$OrderReader", "takesSomebody", "(I)Z"⟩, 4), (⟨"ClerkVotes$OrderReader", "takesSign", "(I)Z"⟩, 4), (⟨"ClerkVotes", "carryOutOrders", "()I"⟩, 10), (⟨"ClerkVotes", "carryOutOrder", "()I"⟩, 10), (⟨"ClerkVotesModel", "record", "()V"⟩, 13)]
theorem lw_r2 : ∀ q ∈ lw_privs_2, lw_okq q := List.forall_mem_cons.mpr ⟨lw_p16, List.forall_mem_cons.mpr ⟨lw_p17, List.forall_mem_cons.mpr ⟨lw_p18, List.forall_mem_cons.mpr ⟨lw_p19, List.forall_mem_cons.mpr ⟨lw_p20, List.forall_mem_cons.mpr ⟨lw_p21, List.forall_mem_cons.mpr ⟨lw_p22, List.forall_mem_cons.mpr ⟨lw_p23, List.forall_mem_cons.mpr ⟨lw_p24, List.forall_mem_cons.mpr ⟨lw_p25, List.forall_mem_cons.mpr ⟨lw_p26, List.forall_mem_cons.mpr ⟨lw_p27, List.forall_mem_cons.mpr ⟨lw_p28, List.forall_mem_cons.mpr ⟨lw_p29, List.forall_mem_cons.mpr ⟨lw_p30, List.forall_mem_cons.mpr ⟨lw_p31, fun _ h => absurd h List.not_mem_nil⟩⟩⟩⟩⟩⟩⟩⟩⟩⟩⟩⟩⟩⟩⟩⟩
theorem lw_p32 : lw_okq (⟨"ClerkVotesModel", "isIll", "(I)Z"⟩, 13) := ⟨⟨by decide +kernel, by decide +kernel⟩, List.mem_of_getElem? (i := 544) (by decide +kernel), List.mem_of_getElem? (i := 610) (by decide +kernel), List.mem_of_getElem? (i := 611) (by decide +kernel)⟩
theorem lw_p33 : lw_okq (⟨"ClerkVotesModel", "book", "(III)V"⟩, 13) := ⟨⟨by decide +kernel, by decide +kernel⟩, List.mem_of_getElem? (i := 544) (by decide +kernel), List.mem_of_getElem? (i := 614) (by decide +kernel), List.mem_of_getElem? (i := 615) (by decide +kernel)⟩
theorem lw_p34 : lw_okq (⟨"ClerkVotesModel", "sendAll", "(IIII)V"⟩, 13) := ⟨⟨by decide +kernel, by decide +kernel⟩, List.mem_of_getElem? (i := 544) (by decide +kernel), List.mem_of_getElem? (i := 618) (by decide +kernel), List.mem_of_getElem? (i := 619) (by decide +kernel)⟩
theorem lw_p35 : lw_okq (⟨"ClerkVotesModel", "send", "(IIII)V"⟩, 13) := ⟨⟨by decide +kernel, by decide +kernel⟩, List.mem_of_getElem? (i := 544) (by decide +kernel), List.mem_of_getElem? (i := 625) (by decide +kernel), List.mem_of_getElem? (i := 626) (by decide +kernel)⟩
theorem lw_p36 : lw_okq (⟨"ClerkVotesModel", "isMessage", "(I)Z"⟩, 13) := ⟨⟨by decide +kernel, by decide +kernel⟩, List.mem_of_getElem? (i := 544) (by decide +kernel), List.mem_of_getElem? (i := 633) (by decide +kernel), List.mem_of_getElem? (i := 634) (by decide +kernel)⟩
theorem lw_p37 : lw_okq (⟨"ClerkVotesModel", "deliverNow", "(I)V"⟩, 13) := ⟨⟨by decide +kernel, by decide +kernel⟩, List.mem_of_getElem? (i := 544) (by decide +kernel), List.mem_of_getElem? (i := 637) (by decide +kernel), List.mem_of_getElem? (i := 638) (by decide +kernel)⟩
theorem lw_p38 : lw_okq (⟨"ClerkVotesModel", "drop", "(I)V"⟩, 13) := ⟨⟨by decide +kernel, by decide +kernel⟩, List.mem_of_getElem? (i := 544) (by decide +kernel), List.mem_of_getElem? (i := 641) (by decide +kernel), List.mem_of_getElem? (i := 642) (by decide +kernel)⟩
theorem lw_p39 : lw_okq (⟨"ClerkVotesModel", "get", "(III)V"⟩, 13) := ⟨⟨by decide +kernel, by decide +kernel⟩, List.mem_of_getElem? (i := 544) (by decide +kernel), List.mem_of_getElem? (i := 645) (by decide +kernel), List.mem_of_getElem? (i := 646) (by decide +kernel)⟩
theorem lw_p40 : lw_okq (⟨"ClerkVotesModel", "of", "(II)I"⟩, 13) := ⟨⟨by decide +kernel, by decide +kernel⟩, List.mem_of_getElem? (i := 544) (by decide +kernel), List.mem_of_getElem? (i := 649) (by decide +kernel), List.mem_of_getElem? (i := 650) (by decide +kernel)⟩
theorem lw_p41 : lw_okq (⟨"ClerkVotesModel", "answer", "(II)V"⟩, 13) := ⟨⟨by decide +kernel, by decide +kernel⟩, List.mem_of_getElem? (i := 544) (by decide +kernel), List.mem_of_getElem? (i := 653) (by decide +kernel), List.mem_of_getElem? (i := 654) (by decide +kernel)⟩
theorem lw_p42 : lw_okq (⟨"ClerkVotesModel", "tear", "(II)V"⟩, 13) := ⟨⟨by decide +kernel, by decide +kernel⟩, List.mem_of_getElem? (i := 544) (by decide +kernel), List.mem_of_getElem? (i := 657) (by decide +kernel), List.mem_of_getElem? (i := 658) (by decide +kernel)⟩
theorem lw_p43 : lw_okq (⟨"ClerkVotesModel", "getBy", "(IIII)V"⟩, 13) := ⟨⟨by decide +kernel, by decide +kernel⟩, List.mem_of_getElem? (i := 544) (by decide +kernel), List.mem_of_getElem? (i := 661) (by decide +kernel), List.mem_of_getElem? (i := 662) (by decide +kernel)⟩
theorem lw_p44 : lw_okq (⟨"ClerkVotesModel", "become", "(III)V"⟩, 13) := ⟨⟨by decide +kernel, by decide +kernel⟩, List.mem_of_getElem? (i := 544) (by decide +kernel), List.mem_of_getElem? (i := 665) (by decide +kernel), List.mem_of_getElem? (i := 666) (by decide +kernel)⟩
theorem lw_p45 : lw_okq (⟨"ClerkVotesModel", "loseNow", "(I)V"⟩, 13) := ⟨⟨by decide +kernel, by decide +kernel⟩, List.mem_of_getElem? (i := 544) (by decide +kernel), List.mem_of_getElem? (i := 673) (by decide +kernel), List.mem_of_getElem? (i := 674) (by decide +kernel)⟩
theorem lw_p46 : lw_okq (⟨"ClerkVotesModel", "isPart", "(II)Z"⟩, 13) := ⟨⟨by decide +kernel, by decide +kernel⟩, List.mem_of_getElem? (i := 544) (by decide +kernel), List.mem_of_getElem? (i := 685) (by decide +kernel), List.mem_of_getElem? (i := 686) (by decide +kernel)⟩
theorem lw_p47 : lw_okq (⟨"ClerkVotesModel", "ill", "()I"⟩, 13) := ⟨⟨by decide +kernel, by decide +kernel⟩, List.mem_of_getElem? (i := 544) (by decide +kernel), List.mem_of_getElem? (i := 689) (by decide +kernel), List.mem_of_getElem? (i := 690) (by decide +kernel)⟩
def lw_privs_3 : List (MethodName × Nat) := [(⟨"ClerkVotesModel", "isIll", "(I)Z"⟩, 13), (⟨"ClerkVotesModel", "book", "(III)V"⟩, 13), (⟨"ClerkVotesModel", "sendAll", "(IIII)V"⟩, 13), (⟨"ClerkVotesModel", "send", "(IIII)V"⟩, 13), (⟨"ClerkVotesModel", "isMessage", "(I)Z"⟩, 13), (⟨"ClerkVotesModel", "deliverNow", "(I)V"⟩, 13), (⟨"ClerkVotesModel", "drop", "(I)V"⟩, 13), (⟨"ClerkVotesModel", "get", "(III)V"⟩, 13), (⟨"ClerkVotesModel", "of", "(II)I"⟩, 13), (⟨"ClerkVotesModel", "answer", "(II)V"⟩, 13), (⟨"ClerkVotesModel", "tear", "(II)V"⟩, 13), (⟨"ClerkVotesModel", "getBy", "(IIII)V"⟩, 13), (⟨"ClerkVotesModel", "become", "(III)V"⟩, 13), (⟨"ClerkVotesModel", "loseNow", "(I)V"⟩, 13), (⟨"ClerkVotesModel", "isPart", "(II)Z"⟩, 13), (⟨"ClerkVotesModel", "ill", "()I"⟩, 13)]
theorem lw_r3 : ∀ q ∈ lw_privs_3, lw_okq q := List.forall_mem_cons.mpr ⟨lw_p32, List.forall_mem_cons.mpr ⟨lw_p33, List.forall_mem_cons.mpr ⟨lw_p34, List.forall_mem_cons.mpr ⟨lw_p35, List.forall_mem_cons.mpr ⟨lw_p36, List.forall_mem_cons.mpr ⟨lw_p37, List.forall_mem_cons.mpr ⟨lw_p38, List.forall_mem_cons.mpr ⟨lw_p39, List.forall_mem_cons.mpr ⟨lw_p40, List.forall_mem_cons.mpr ⟨lw_p41, List.forall_mem_cons.mpr ⟨lw_p42, List.forall_mem_cons.mpr ⟨lw_p43, List.forall_mem_cons.mpr ⟨lw_p44, List.forall_mem_cons.mpr ⟨lw_p45, List.forall_mem_cons.mpr ⟨lw_p46, List.forall_mem_cons.mpr ⟨lw_p47, fun _ h => absurd h List.not_mem_nil⟩⟩⟩⟩⟩⟩⟩⟩⟩⟩⟩⟩⟩⟩⟩⟩
theorem lw_p48 : lw_okq (⟨"ClerkVotesModel", "pass", "()V"⟩, 13) := ⟨⟨by decide +kernel, by decide +kernel⟩, List.mem_of_getElem? (i := 544) (by decide +kernel), List.mem_of_getElem? (i := 701) (by decide +kernel), List.mem_of_getElem? (i := 702) (by decide +kernel)⟩
theorem lw_p49 : lw_okq (⟨"ClerkVotesModel", "passBetween", "(I)V"⟩, 13) := ⟨⟨by decide +kernel, by decide +kernel⟩, List.mem_of_getElem? (i := 544) (by decide +kernel), List.mem_of_getElem? (i := 705) (by decide +kernel), List.mem_of_getElem? (i := 706) (by decide +kernel)⟩
theorem lw_p50 : lw_okq (⟨"ClerkVotesModel", "passClerk", "(II)V"⟩, 13) := ⟨⟨by decide +kernel, by decide +kernel⟩, List.mem_of_getElem? (i := 544) (by decide +kernel), List.mem_of_getElem? (i := 712) (by decide +kernel), List.mem_of_getElem? (i := 713) (by decide +kernel)⟩
theorem lw_p51 : lw_okq (⟨"ClerkVotesModel", "isDeal", "(I)Z"⟩, 13) := ⟨⟨by decide +kernel, by decide +kernel⟩, List.mem_of_getElem? (i := 544) (by decide +kernel), List.mem_of_getElem? (i := 720) (by decide +kernel), List.mem_of_getElem? (i := 721) (by decide +kernel)⟩
theorem lw_p52 : lw_okq (⟨"ClerkVotesModel", "clerksOf", "(II)I"⟩, 13) := ⟨⟨by decide +kernel, by decide +kernel⟩, List.mem_of_getElem? (i := 544) (by decide +kernel), List.mem_of_getElem? (i := 724) (by decide +kernel), List.mem_of_getElem? (i := 725) (by decide +kernel)⟩
theorem lw_p53 : lw_okq (⟨"ClerkVotesModel", "underwayTo", "(I)I"⟩, 13) := ⟨⟨by decide +kernel, by decide +kernel⟩, List.mem_of_getElem? (i := 544) (by decide +kernel), List.mem_of_getElem? (i := 740) (by decide +kernel), List.mem_of_getElem? (i := 741) (by decide +kernel)⟩
theorem lw_p54 : lw_okq (⟨"ClerkVotesModel", "dealsWith", "(I)I"⟩, 13) := ⟨⟨by decide +kernel, by decide +kernel⟩, List.mem_of_getElem? (i := 544) (by decide +kernel), List.mem_of_getElem? (i := 748) (by decide +kernel), List.mem_of_getElem? (i := 749) (by decide +kernel)⟩
theorem lw_p55 : lw_okq (⟨"ClerkVotesModel", "canAsk", "(II)Z"⟩, 13) := ⟨⟨by decide +kernel, by decide +kernel⟩, List.mem_of_getElem? (i := 544) (by decide +kernel), List.mem_of_getElem? (i := 760) (by decide +kernel), List.mem_of_getElem? (i := 761) (by decide +kernel)⟩
theorem lw_p56 : lw_okq (⟨"ClerkVotesModel", "keep", "()V"⟩, 13) := ⟨⟨by decide +kernel, by decide +kernel⟩, List.mem_of_getElem? (i := 544) (by decide +kernel), List.mem_of_getElem? (i := 768) (by decide +kernel), List.mem_of_getElem? (i := 769) (by decide +kernel)⟩
theorem lw_p57 : lw_okq (⟨"ClerkVotesModel", "roundsTo", "(I)I"⟩, 13) := ⟨⟨by decide +kernel, by decide +kernel⟩, List.mem_of_getElem? (i := 544) (by decide +kernel), List.mem_of_getElem? (i := 772) (by decide +kernel), List.mem_of_getElem? (i := 773) (by decide +kernel)⟩
theorem lw_p58 : lw_okq (⟨"ClerkVotesModel", "isSettled", "(I)Z"⟩, 13) := ⟨⟨by decide +kernel, by decide +kernel⟩, List.mem_of_getElem? (i := 544) (by decide +kernel), List.mem_of_getElem? (i := 776) (by decide +kernel), List.mem_of_getElem? (i := 777) (by decide +kernel)⟩
theorem lw_p59 : lw_okq (⟨"ClerkVotesModel", "goRound", "()V"⟩, 13) := ⟨⟨by decide +kernel, by decide +kernel⟩, List.mem_of_getElem? (i := 544) (by decide +kernel), List.mem_of_getElem? (i := 780) (by decide +kernel), List.mem_of_getElem? (i := 781) (by decide +kernel)⟩
theorem lw_p60 : lw_okq (⟨"ClerkVotesModel", "comeBack", "()V"⟩, 13) := ⟨⟨by decide +kernel, by decide +kernel⟩, List.mem_of_getElem? (i := 544) (by decide +kernel), List.mem_of_getElem? (i := 784) (by decide +kernel), List.mem_of_getElem? (i := 785) (by decide +kernel)⟩
theorem lw_p61 : lw_okq (⟨"ClerkVotesModel", "faultOf", "()I"⟩, 13) := ⟨⟨by decide +kernel, by decide +kernel⟩, List.mem_of_getElem? (i := 544) (by decide +kernel), List.mem_of_getElem? (i := 809) (by decide +kernel), List.mem_of_getElem? (i := 810) (by decide +kernel)⟩
theorem lw_p62 : lw_okq (⟨"ClerkVotesModel", "readOne", "()V"⟩, 13) := ⟨⟨by decide +kernel, by decide +kernel⟩, List.mem_of_getElem? (i := 544) (by decide +kernel), List.mem_of_getElem? (i := 813) (by decide +kernel), List.mem_of_getElem? (i := 814) (by decide +kernel)⟩
theorem lw_p63 : lw_okq (⟨"ClerkVotesModel", "sign", "()I"⟩, 13) := ⟨⟨by decide +kernel, by decide +kernel⟩, List.mem_of_getElem? (i := 544) (by decide +kernel), List.mem_of_getElem? (i := 817) (by decide +kernel), List.mem_of_getElem? (i := 818) (by decide +kernel)⟩
def lw_privs_4 : List (MethodName × Nat) := [(⟨"ClerkVotesModel", "pass", "()V"⟩, 13), (⟨"ClerkVotesModel", "passBetween", "(I)V"⟩, 13), (⟨"ClerkVotesModel", "passClerk", "(II)V"⟩, 13), (⟨"ClerkVotesModel", "isDeal", "(I)Z"⟩, 13), (⟨"ClerkVotesModel", "clerksOf", "(II)I"⟩, 13), (⟨"ClerkVotesModel", "underwayTo", "(I)I"⟩, 13), (⟨"ClerkVotesModel", "dealsWith", "(I)I"⟩, 13), (⟨"ClerkVotesModel", "canAsk", "(II)Z"⟩, 13), (⟨"ClerkVotesModel", "keep", "()V"⟩, 13), (⟨"ClerkVotesModel", "roundsTo", "(I)I"⟩, 13), (⟨"ClerkVotesModel", "isSettled", "(I)Z"⟩, 13), (⟨"ClerkVotesModel", "goRound", "()V"⟩, 13), (⟨"ClerkVotesModel", "comeBack", "()V"⟩, 13), (⟨"ClerkVotesModel", "faultOf", "()I"⟩, 13), (⟨"ClerkVotesModel", "readOne", "()V"⟩, 13), (⟨"ClerkVotesModel", "sign", "()I"⟩, 13)]
theorem lw_r4 : ∀ q ∈ lw_privs_4, lw_okq q := List.forall_mem_cons.mpr ⟨lw_p48, List.forall_mem_cons.mpr ⟨lw_p49, List.forall_mem_cons.mpr ⟨lw_p50, List.forall_mem_cons.mpr ⟨lw_p51, List.forall_mem_cons.mpr ⟨lw_p52, List.forall_mem_cons.mpr ⟨lw_p53, List.forall_mem_cons.mpr ⟨lw_p54, List.forall_mem_cons.mpr ⟨lw_p55, List.forall_mem_cons.mpr ⟨lw_p56, List.forall_mem_cons.mpr ⟨lw_p57, List.forall_mem_cons.mpr ⟨lw_p58, List.forall_mem_cons.mpr ⟨lw_p59, List.forall_mem_cons.mpr ⟨lw_p60, List.forall_mem_cons.mpr ⟨lw_p61, List.forall_mem_cons.mpr ⟨lw_p62, List.forall_mem_cons.mpr ⟨lw_p63, fun _ h => absurd h List.not_mem_nil⟩⟩⟩⟩⟩⟩⟩⟩⟩⟩⟩⟩⟩⟩⟩⟩
theorem lw_p64 : lw_okq (⟨"ClerkVotesModel", "clerks", "()I"⟩, 13) := ⟨⟨by decide +kernel, by decide +kernel⟩, List.mem_of_getElem? (i := 544) (by decide +kernel), List.mem_of_getElem? (i := 821) (by decide +kernel), List.mem_of_getElem? (i := 822) (by decide +kernel)⟩
theorem lw_p65 : lw_okq (⟨"ClerkVotesModel", "one", "(II)I"⟩, 13) := ⟨⟨by decide +kernel, by decide +kernel⟩, List.mem_of_getElem? (i := 544) (by decide +kernel), List.mem_of_getElem? (i := 825) (by decide +kernel), List.mem_of_getElem? (i := 826) (by decide +kernel)⟩
theorem lw_p66 : lw_okq (⟨"ClerkVotesModel", "number", "()I"⟩, 13) := ⟨⟨by decide +kernel, by decide +kernel⟩, List.mem_of_getElem? (i := 544) (by decide +kernel), List.mem_of_getElem? (i := 829) (by decide +kernel), List.mem_of_getElem? (i := 830) (by decide +kernel)⟩
theorem lw_p67 : lw_okq (⟨"ClerkVotesModel", "plus", "()I"⟩, 13) := ⟨⟨by decide +kernel, by decide +kernel⟩, List.mem_of_getElem? (i := 544) (by decide +kernel), List.mem_of_getElem? (i := 833) (by decide +kernel), List.mem_of_getElem? (i := 834) (by decide +kernel)⟩
theorem lw_p68 : lw_okq (⟨"ClerkVotesModel", "carry", "(I)I"⟩, 13) := ⟨⟨by decide +kernel, by decide +kernel⟩, List.mem_of_getElem? (i := 544) (by decide +kernel), List.mem_of_getElem? (i := 841) (by decide +kernel), List.mem_of_getElem? (i := 842) (by decide +kernel)⟩
def lw_privs_5 : List (MethodName × Nat) := [(⟨"ClerkVotesModel", "clerks", "()I"⟩, 13), (⟨"ClerkVotesModel", "one", "(II)I"⟩, 13), (⟨"ClerkVotesModel", "number", "()I"⟩, 13), (⟨"ClerkVotesModel", "plus", "()I"⟩, 13), (⟨"ClerkVotesModel", "carry", "(I)I"⟩, 13)]
theorem lw_r5 : ∀ q ∈ lw_privs_5, lw_okq q := List.forall_mem_cons.mpr ⟨lw_p64, List.forall_mem_cons.mpr ⟨lw_p65, List.forall_mem_cons.mpr ⟨lw_p66, List.forall_mem_cons.mpr ⟨lw_p67, List.forall_mem_cons.mpr ⟨lw_p68, fun _ h => absurd h List.not_mem_nil⟩⟩⟩⟩⟩
def lw_privs : List (MethodName × Nat) := lw_privs_1 ++ (lw_privs_2 ++ (lw_privs_3 ++ (lw_privs_4 ++ (lw_privs_5))))
def lw_tbl : List Cond := k2_sels lw_privs ++ tables_1
theorem lw_privs_ok : ∀ q ∈ lw_privs, lw_okq q := by
  show ∀ q ∈ lw_privs_1 ++ (lw_privs_2 ++ (lw_privs_3 ++ (lw_privs_4 ++ (lw_privs_5)))), lw_okq q
  exact List.forall_mem_append.mpr ⟨lw_r1, List.forall_mem_append.mpr ⟨lw_r2, List.forall_mem_append.mpr ⟨lw_r3, List.forall_mem_append.mpr ⟨lw_r4, lw_r5⟩⟩⟩⟩
/-! ===== BEGIN words of one list among another's, by their places ===== -/
theorem goodIn_r {big : List Cond} (ws : List Cond) (ps : List Nat) (hp : ws = ps.filterMap (fun i => big[i]?)) (h : ws.all goodWord = true) : GoodIn big ws := by
  intro w hw
  have h1 := List.all_eq_true.mp h w hw
  rw [hp] at hw
  obtain ⟨i, -, hi⟩ := List.mem_filterMap.mp hw
  have hm : w ∈ big := by first | exact List.mem_of_getElem? hi | exact List.getElem?_mem hi
  exact ⟨hm, good_of_word h1⟩
theorem goodIn_app {big a b : List Cond} (ha : GoodIn big a) (hb : GoodIn big b) : GoodIn big (a ++ b) := fun w h => (List.mem_append.mp h).elim (ha w) (hb w)
theorem goodIn_ca {big a b : List Cond} {c : Cond} (ha : GoodIn big (c :: a)) (hb : GoodIn big b) : GoodIn big (c :: (a ++ b)) := fun w h => (List.mem_cons.mp h).elim (fun e => ha w (List.mem_cons.mpr (Or.inl e))) (fun h => (List.mem_append.mp h).elim (fun h => ha w (List.mem_cons.mpr (Or.inr h))) (hb w))
theorem goodIn_sub {big ws : List Cond} (hm : ∀ w ∈ ws, w ∈ big) (h : ws.all goodWord = true) : GoodIn big ws := fun w hw => ⟨hm w hw, good_of_word (List.all_eq_true.mp h w hw)⟩
/-! ===== END ===== -/

/-! ===== BEGIN printed: names, fields, word lists, decode rows ===== -/
def RX0 : String := "ClerkVotes$OrderReader"
def TX0 : u_T := fun k => match k with
  | 0 => ("ClerkVotes$OrderReader", "expected", "I", false)
  | 1 => ("ClerkVotes$OrderReader", "letter", "I", false)
  | 2 => ("ClerkVotes$OrderReader", "value", "I", false)
  | _ => ("ClerkVotes$OrderReader", "willingness", "I", false)
def tyX0 : Nat → FieldType := fun k => match k with
  | 0 => .int
  | 1 => .int
  | 2 => .int
  | _ => .int
abbrev wsX00 : List Cond := u_ws RX0 TX0 4
theorem nmX0 : ∀ a, a < 4 → ∀ b, b < 4 → a ≠ b → (TX0 a).2.1 ≠ (TX0 b).2.1 := by decide +kernel
theorem tyX0_ok : ∀ k, k < 4 → parseFieldDescriptor (TX0 k).2.2.1 = some (tyX0 k) := by decide +kernel
abbrev cX0_init : ByteArray := prog_2_method_1_code
def yX0_init : MethodName := ⟨RX0, "<init>", "()V"⟩
abbrev cX0_begin : ByteArray := prog_2_method_2_code
def yX0_begin : MethodName := ⟨RX0, "begin", "()V"⟩
abbrev cX0_mayEnd : ByteArray := prog_2_method_3_code
def yX0_mayEnd : MethodName := ⟨RX0, "mayEnd", "()Z"⟩
abbrev cX0_takes : ByteArray := prog_2_method_4_code
def yX0_takes : MethodName := ⟨RX0, "takes", "(I)Z"⟩
abbrev cX0_takesOrderEnd : ByteArray := prog_2_method_5_code
def yX0_takesOrderEnd : MethodName := ⟨RX0, "takesOrderEnd", "()Z"⟩
abbrev cX0_takesLetter : ByteArray := prog_2_method_6_code
def yX0_takesLetter : MethodName := ⟨RX0, "takesLetter", "(I)Z"⟩
abbrev cX0_takesRisingClerk : ByteArray := prog_2_method_7_code
def yX0_takesRisingClerk : MethodName := ⟨RX0, "takesRisingClerk", "(I)Z"⟩
abbrev cX0_takesDigit : ByteArray := prog_2_method_8_code
def yX0_takesDigit : MethodName := ⟨RX0, "takesDigit", "(I)Z"⟩
abbrev cX0_takesSomebody : ByteArray := prog_2_method_9_code
def yX0_takesSomebody : MethodName := ⟨RX0, "takesSomebody", "(I)Z"⟩
abbrev cX0_takesSign : ByteArray := prog_2_method_10_code
def yX0_takesSign : MethodName := ⟨RX0, "takesSign", "(I)Z"⟩
def RX1 : String := "ClerkVotes$Row"
def TX1 : u_T := fun k => match k with
  | 0 => ("ClerkVotes$Row", "length", "I", false)
  | 1 => ("ClerkVotes$Row", "lost", "I", false)
  | 2 => ("ClerkVotes$Row", "parts", "[I", true)
  | 3 => ("ClerkVotes$Row", "deliveredTo", "[I", true)
  | _ => ("ClerkVotes$Row", "sentBy", "[I", true)
def tyX1 : Nat → FieldType := fun k => match k with
  | 0 => .int
  | 1 => .int
  | 2 => .array .int
  | 3 => .array .int
  | _ => .array .int
abbrev wsX10 : List Cond := u_ws RX1 TX1 5
theorem nmX1 : ∀ a, a < 5 → ∀ b, b < 5 → a ≠ b → (TX1 a).2.1 ≠ (TX1 b).2.1 := by decide +kernel
theorem tyX1_ok : ∀ k, k < 5 → parseFieldDescriptor (TX1 k).2.2.1 = some (tyX1 k) := by decide +kernel
abbrev cX1_init : ByteArray := prog_3_method_1_code
def yX1_init : MethodName := ⟨RX1, "<init>", "()V"⟩
abbrev cX1_copyFrom : ByteArray := prog_3_method_2_code
def yX1_copyFrom : MethodName := ⟨RX1, "copyFrom", "(LClerkVotes$Row;)V"⟩
abbrev cX1_has : ByteArray := prog_3_method_3_code
def yX1_has : MethodName := ⟨RX1, "has", "(I)Z"⟩
abbrev cX1_part : ByteArray := prog_3_method_4_code
def yX1_part : MethodName := ⟨RX1, "part", "(II)I"⟩
abbrev cX1_numberOfMessage : ByteArray := prog_3_method_5_code
def yX1_numberOfMessage : MethodName := ⟨RX1, "numberOfMessage", "(II)I"⟩
abbrev cX1_onTheirWayTo : ByteArray := prog_3_method_6_code
def yX1_onTheirWayTo : MethodName := ⟨RX1, "onTheirWayTo", "(I)I"⟩
abbrev cX1_delivered : ByteArray := prog_3_method_7_code
def yX1_delivered : MethodName := ⟨RX1, "delivered", "()I"⟩
abbrev cX1_send : ByteArray := prog_3_method_8_code
def yX1_send : MethodName := ⟨RX1, "send", "(IIII)V"⟩
abbrev cX1_repeat : ByteArray := prog_3_method_9_code
def yX1_repeat : MethodName := ⟨RX1, "repeat", "(I)V"⟩
abbrev cX1_remove : ByteArray := prog_3_method_10_code
def yX1_remove : MethodName := ⟨RX1, "remove", "(I)V"⟩
def RX2 : String := "ClerkVotes$State"
def TX2 : u_T := fun k => match k with
  | 0 => ("ClerkVotes$State", "tick", "I", false)
  | 1 => ("ClerkVotes$State", "illOnes", "I", false)
  | 2 => ("ClerkVotes$State", "unwillingOnes", "I", false)
  | 3 => ("ClerkVotes$State", "deals", "I", false)
  | 4 => ("ClerkVotes$State", "settings", "[I", true)
  | 5 => ("ClerkVotes$State", "row", "LClerkVotes$Row;", true)
  | 6 => ("ClerkVotes$State", "clerksOf", "[I", true)
  | 7 => ("ClerkVotes$State", "forBetween", "[I", true)
  | 8 => ("ClerkVotes$State", "openedIn", "[I", true)
  | 9 => ("ClerkVotes$State", "postSince", "[I", true)
  | 10 => ("ClerkVotes$State", "votes", "[I", true)
  | 11 => ("ClerkVotes$State", "receipts", "[I", true)
  | 12 => ("ClerkVotes$State", "standing", "[I", true)
  | _ => ("ClerkVotes$State", "readySince", "[I", true)
def tyX2 : Nat → FieldType := fun k => match k with
  | 0 => .int
  | 1 => .int
  | 2 => .int
  | 3 => .int
  | 4 => .array .int
  | 5 => .object "ClerkVotes$Row"
  | 6 => .array .int
  | 7 => .array .int
  | 8 => .array .int
  | 9 => .array .int
  | 10 => .array .int
  | 11 => .array .int
  | 12 => .array .int
  | _ => .array .int
abbrev wsX20 : List Cond := u_ws RX2 TX2 14
theorem nmX2 : ∀ a, a < 14 → ∀ b, b < 14 → a ≠ b → (TX2 a).2.1 ≠ (TX2 b).2.1 := by decide +kernel
theorem tyX2_ok : ∀ k, k < 14 → parseFieldDescriptor (TX2 k).2.2.1 = some (tyX2 k) := by decide +kernel
abbrev cX2_init : ByteArray := prog_4_method_1_code
def yX2_init : MethodName := ⟨RX2, "<init>", "()V"⟩
abbrev cX2_copyFrom : ByteArray := prog_4_method_2_code
def yX2_copyFrom : MethodName := ⟨RX2, "copyFrom", "(LClerkVotes$State;)V"⟩
abbrev cX2_isDeal : ByteArray := prog_4_method_3_code
def yX2_isDeal : MethodName := ⟨RX2, "isDeal", "(I)Z"⟩
abbrev cX2_isClerk : ByteArray := prog_4_method_4_code
def yX2_isClerk : MethodName := ⟨RX2, "isClerk", "(I)Z"⟩
abbrev cX2_isSomebody : ByteArray := prog_4_method_5_code
def yX2_isSomebody : MethodName := ⟨RX2, "isSomebody", "(I)Z"⟩
abbrev cX2_isIll : ByteArray := prog_4_method_6_code
def yX2_isIll : MethodName := ⟨RX2, "isIll", "(I)Z"⟩
abbrev cX2_whoStand : ByteArray := prog_4_method_7_code
def yX2_whoStand : MethodName := ⟨RX2, "whoStand", "(II)I"⟩
abbrev cX2_stands : ByteArray := prog_4_method_8_code
def yX2_stands : MethodName := ⟨RX2, "stands", "(III)Z"⟩
abbrev cX2_move : ByteArray := prog_4_method_9_code
def yX2_move : MethodName := ⟨RX2, "move", "(IIII)V"⟩
abbrev cX2_changeSetting : ByteArray := prog_4_method_10_code
def yX2_changeSetting : MethodName := ⟨RX2, "changeSetting", "(II)I"⟩
abbrev cX2_makeWilling : ByteArray := prog_4_method_11_code
def yX2_makeWilling : MethodName := ⟨RX2, "makeWilling", "(II)I"⟩
abbrev cX2_openDeal : ByteArray := prog_4_method_12_code
def yX2_openDeal : MethodName := ⟨RX2, "openDeal", "(I)I"⟩
abbrev cX2_dropMessage : ByteArray := prog_4_method_13_code
def yX2_dropMessage : MethodName := ⟨RX2, "dropMessage", "(I)I"⟩
abbrev cX2_repeatMessage : ByteArray := prog_4_method_14_code
def yX2_repeatMessage : MethodName := ⟨RX2, "repeatMessage", "(I)I"⟩
abbrev cX2_fallIll : ByteArray := prog_4_method_15_code
def yX2_fallIll : MethodName := ⟨RX2, "fallIll", "(I)I"⟩
abbrev cX2_forget : ByteArray := prog_4_method_16_code
def yX2_forget : MethodName := ⟨RX2, "forget", "(II)V"⟩
abbrev cX2_getWell : ByteArray := prog_4_method_17_code
def yX2_getWell : MethodName := ⟨RX2, "getWell", "(I)I"⟩
abbrev cX2_sendToClerks : ByteArray := prog_4_method_18_code
def yX2_sendToClerks : MethodName := ⟨RX2, "sendToClerks", "(IIII)V"⟩
abbrev cX2_handOver : ByteArray := prog_4_method_19_code
def yX2_handOver : MethodName := ⟨RX2, "handOver", "(I)I"⟩
abbrev cX2_vote : ByteArray := prog_4_method_20_code
def yX2_vote : MethodName := ⟨RX2, "vote", "(II)V"⟩
abbrev cX2_postFor : ByteArray := prog_4_method_21_code
def yX2_postFor : MethodName := ⟨RX2, "postFor", "(II)V"⟩
abbrev cX2_tearFor : ByteArray := prog_4_method_22_code
def yX2_tearFor : MethodName := ⟨RX2, "tearFor", "(II)V"⟩
abbrev cX2_answerAsElder : ByteArray := prog_4_method_23_code
def yX2_answerAsElder : MethodName := ⟨RX2, "answerAsElder", "(III)V"⟩
abbrev cX2_takeYes : ByteArray := prog_4_method_24_code
def yX2_takeYes : MethodName := ⟨RX2, "takeYes", "(II)V"⟩
abbrev cX2_takeNo : ByteArray := prog_4_method_25_code
def yX2_takeNo : MethodName := ⟨RX2, "takeNo", "(II)V"⟩
abbrev cX2_takeReceipt : ByteArray := prog_4_method_26_code
def yX2_takeReceipt : MethodName := ⟨RX2, "takeReceipt", "(II)V"⟩
abbrev cX2_answerAsBetween : ByteArray := prog_4_method_27_code
def yX2_answerAsBetween : MethodName := ⟨RX2, "answerAsBetween", "(II)V"⟩
abbrev cX2_passTicks : ByteArray := prog_4_method_28_code
def yX2_passTicks : MethodName := ⟨RX2, "passTicks", "(I)I"⟩
abbrev cX2_passTick : ByteArray := prog_4_method_29_code
def yX2_passTick : MethodName := ⟨RX2, "passTick", "()V"⟩
abbrev cX2_pressOn : ByteArray := prog_4_method_30_code
def yX2_pressOn : MethodName := ⟨RX2, "pressOn", "(I)V"⟩
abbrev cX2_askInDoubt : ByteArray := prog_4_method_31_code
def yX2_askInDoubt : MethodName := ⟨RX2, "askInDoubt", "(I)V"⟩
abbrev cX2_isTimeAgain : ByteArray := prog_4_method_32_code
def yX2_isTimeAgain : MethodName := ⟨RX2, "isTimeAgain", "(II)Z"⟩
abbrev cX2_passRound : ByteArray := prog_4_method_33_code
def yX2_passRound : MethodName := ⟨RX2, "passRound", "()V"⟩
abbrev cX2_roundsUntilSettled : ByteArray := prog_4_method_34_code
def yX2_roundsUntilSettled : MethodName := ⟨RX2, "roundsUntilSettled", "(I)I"⟩
abbrev cX2_isSettled : ByteArray := prog_4_method_35_code
def yX2_isSettled : MethodName := ⟨RX2, "isSettled", "(I)Z"⟩
abbrev cX2_numberOfDeal : ByteArray := prog_4_method_36_code
def yX2_numberOfDeal : MethodName := ⟨RX2, "numberOfDeal", "(II)I"⟩
abbrev cX2_standingFor : ByteArray := prog_4_method_37_code
def yX2_standingFor : MethodName := ⟨RX2, "standingFor", "(II)I"⟩
abbrev cX2_numberOfSomebody : ByteArray := prog_4_method_38_code
def yX2_numberOfSomebody : MethodName := ⟨RX2, "numberOfSomebody", "(II)I"⟩
abbrev cX2_numberOfAll : ByteArray := prog_4_method_39_code
def yX2_numberOfAll : MethodName := ⟨RX2, "numberOfAll", "(I)I"⟩
abbrev cX2_dealsWithBoth : ByteArray := prog_4_method_40_code
def yX2_dealsWithBoth : MethodName := ⟨RX2, "dealsWithBoth", "(II)I"⟩
abbrev cX2_whatIsSure : ByteArray := prog_4_method_41_code
def yX2_whatIsSure : MethodName := ⟨RX2, "whatIsSure", "(I)I"⟩
abbrev cX2_whoFindsOut : ByteArray := prog_4_method_42_code
def yX2_whoFindsOut : MethodName := ⟨RX2, "whoFindsOut", "(I)I"⟩
def RX3 : String := "ClerkVotes"
def TX3 : u_T := fun k => match k with
  | 0 => ("ClerkVotes", "now", "LClerkVotes$State;", true)
  | 1 => ("ClerkVotes", "trial", "LClerkVotes$State;", true)
  | 2 => ("ClerkVotes", "history", "[LClerkVotes$State;", true)
  | 3 => ("ClerkVotes", "nextInHistory", "I", false)
  | 4 => ("ClerkVotes", "undoable", "I", false)
  | 5 => ("ClerkVotes", "slots", "[LClerkVotes$State;", true)
  | 6 => ("ClerkVotes", "savedSlots", "I", false)
  | 7 => ("ClerkVotes", "pad", "[C", true)
  | 8 => ("ClerkVotes", "padLength", "I", false)
  | _ => ("ClerkVotes", "reader", "LClerkVotes$OrderReader;", true)
def tyX3 : Nat → FieldType := fun k => match k with
  | 0 => .object "ClerkVotes$State"
  | 1 => .object "ClerkVotes$State"
  | 2 => .array (.object "ClerkVotes$State")
  | 3 => .int
  | 4 => .int
  | 5 => .array (.object "ClerkVotes$State")
  | 6 => .int
  | 7 => .array .char
  | 8 => .int
  | _ => .object "ClerkVotes$OrderReader"
abbrev wsX30 : List Cond := u_ws RX3 TX3 10
theorem nmX3 : ∀ a, a < 10 → ∀ b, b < 10 → a ≠ b → (TX3 a).2.1 ≠ (TX3 b).2.1 := by decide +kernel
theorem tyX3_ok : ∀ k, k < 10 → parseFieldDescriptor (TX3 k).2.2.1 = some (tyX3 k) := by decide +kernel
abbrev cX3_init : ByteArray := prog_1_method_1_code
def yX3_init : MethodName := ⟨RX3, "<init>", "()V"⟩
abbrev cX3_set : ByteArray := prog_1_method_2_code
def yX3_set : MethodName := ⟨RX3, "set", "(II)I"⟩
abbrev cX3_willing : ByteArray := prog_1_method_3_code
def yX3_willing : MethodName := ⟨RX3, "willing", "(II)I"⟩
abbrev cX3_open : ByteArray := prog_1_method_4_code
def yX3_open : MethodName := ⟨RX3, "open", "(I)I"⟩
abbrev cX3_deliver : ByteArray := prog_1_method_5_code
def yX3_deliver : MethodName := ⟨RX3, "deliver", "(I)I"⟩
abbrev cX3_lose : ByteArray := prog_1_method_6_code
def yX3_lose : MethodName := ⟨RX3, "lose", "(I)I"⟩
abbrev cX3_twice : ByteArray := prog_1_method_7_code
def yX3_twice : MethodName := ⟨RX3, "twice", "(I)I"⟩
abbrev cX3_fall : ByteArray := prog_1_method_8_code
def yX3_fall : MethodName := ⟨RX3, "fall", "(I)I"⟩
abbrev cX3_rise : ByteArray := prog_1_method_9_code
def yX3_rise : MethodName := ⟨RX3, "rise", "(I)I"⟩
abbrev cX3_ticks : ByteArray := prog_1_method_10_code
def yX3_ticks : MethodName := ⟨RX3, "ticks", "(I)I"⟩
abbrev cX3_ofDeal : ByteArray := prog_1_method_11_code
def yX3_ofDeal : MethodName := ⟨RX3, "ofDeal", "(II)I"⟩
abbrev cX3_at : ByteArray := prog_1_method_12_code
def yX3_at : MethodName := ⟨RX3, "at", "(II)I"⟩
abbrev cX3_message : ByteArray := prog_1_method_13_code
def yX3_message : MethodName := ⟨RX3, "message", "(II)I"⟩
abbrev cX3_who : ByteArray := prog_1_method_14_code
def yX3_who : MethodName := ⟨RX3, "who", "(II)I"⟩
abbrev cX3_count : ByteArray := prog_1_method_15_code
def yX3_count : MethodName := ⟨RX3, "count", "(I)I"⟩
abbrev cX3_sure : ByteArray := prog_1_method_16_code
def yX3_sure : MethodName := ⟨RX3, "sure", "(I)I"⟩
abbrev cX3_couldAsk : ByteArray := prog_1_method_17_code
def yX3_couldAsk : MethodName := ⟨RX3, "couldAsk", "(I)I"⟩
abbrev cX3_settledIn : ByteArray := prog_1_method_18_code
def yX3_settledIn : MethodName := ⟨RX3, "settledIn", "(I)I"⟩
abbrev cX3_underwayIn : ByteArray := prog_1_method_19_code
def yX3_underwayIn : MethodName := ⟨RX3, "underwayIn", "(I)I"⟩
abbrev cX3_worstLoss : ByteArray := prog_1_method_20_code
def yX3_worstLoss : MethodName := ⟨RX3, "worstLoss", "(II)I"⟩
abbrev cX3_put : ByteArray := prog_1_method_21_code
def yX3_put : MethodName := ⟨RX3, "put", "(J)I"⟩
abbrev cX3_wipe : ByteArray := prog_1_method_22_code
def yX3_wipe : MethodName := ⟨RX3, "wipe", "()I"⟩
abbrev cX3_fault : ByteArray := prog_1_method_23_code
def yX3_fault : MethodName := ⟨RX3, "fault", "()I"⟩
abbrev cX3_carryOut : ByteArray := prog_1_method_24_code
def yX3_carryOut : MethodName := ⟨RX3, "carryOut", "()I"⟩
abbrev cX3_undo : ByteArray := prog_1_method_25_code
def yX3_undo : MethodName := ⟨RX3, "undo", "()I"⟩
abbrev cX3_save : ByteArray := prog_1_method_26_code
def yX3_save : MethodName := ⟨RX3, "save", "(I)I"⟩
abbrev cX3_restore : ByteArray := prog_1_method_27_code
def yX3_restore : MethodName := ⟨RX3, "restore", "(I)I"⟩
abbrev cX3_noteStateBefore : ByteArray := prog_1_method_28_code
def yX3_noteStateBefore : MethodName := ⟨RX3, "noteStateBefore", "()V"⟩
abbrev cX3_recorded : ByteArray := prog_1_method_29_code
def yX3_recorded : MethodName := ⟨RX3, "recorded", "(I)I"⟩
abbrev cX3_isIn : ByteArray := prog_1_method_30_code
def yX3_isIn : MethodName := ⟨RX3, "isIn", "(II)Z"⟩
abbrev cX3_codeAt : ByteArray := prog_1_method_31_code
def yX3_codeAt : MethodName := ⟨RX3, "codeAt", "(JI)I"⟩
abbrev cX3_charactersIn : ByteArray := prog_1_method_32_code
def yX3_charactersIn : MethodName := ⟨RX3, "charactersIn", "(J)I"⟩
abbrev cX3_faultOfPad : ByteArray := prog_1_method_33_code
def yX3_faultOfPad : MethodName := ⟨RX3, "faultOfPad", "()I"⟩
abbrev cX3_carryOutOrders : ByteArray := prog_1_method_34_code
def yX3_carryOutOrders : MethodName := ⟨RX3, "carryOutOrders", "()I"⟩
abbrev cX3_carryOutOrder : ByteArray := prog_1_method_35_code
def yX3_carryOutOrder : MethodName := ⟨RX3, "carryOutOrder", "()I"⟩
def RX4 : String := "ClerkVotesModel"
def TX4 : u_T := fun k => match k with
  | 0 => ("ClerkVotesModel", "now", "[I", true)
  | 1 => ("ClerkVotesModel", "kept", "[I", true)
  | 2 => ("ClerkVotesModel", "history", "[I", true)
  | 3 => ("ClerkVotesModel", "undos", "I", false)
  | 4 => ("ClerkVotesModel", "saved", "[I", true)
  | 5 => ("ClerkVotesModel", "isSaved", "[Z", true)
  | 6 => ("ClerkVotesModel", "pad", "[I", true)
  | 7 => ("ClerkVotesModel", "signs", "I", false)
  | 8 => ("ClerkVotesModel", "isInText", "Z", false)
  | 9 => ("ClerkVotesModel", "orders", "[I", true)
  | 10 => ("ClerkVotesModel", "read", "I", false)
  | 11 => ("ClerkVotesModel", "place", "I", false)
  | _ => ("ClerkVotesModel", "isWrong", "Z", false)
def tyX4 : Nat → FieldType := fun k => match k with
  | 0 => .array .int
  | 1 => .array .int
  | 2 => .array .int
  | 3 => .int
  | 4 => .array .int
  | 5 => .array .boolean
  | 6 => .array .int
  | 7 => .int
  | 8 => .boolean
  | 9 => .array .int
  | 10 => .int
  | 11 => .int
  | _ => .boolean
abbrev wsX40 : List Cond := u_ws RX4 TX4 13
theorem nmX4 : ∀ a, a < 13 → ∀ b, b < 13 → a ≠ b → (TX4 a).2.1 ≠ (TX4 b).2.1 := by decide +kernel
theorem tyX4_ok : ∀ k, k < 13 → parseFieldDescriptor (TX4 k).2.2.1 = some (tyX4 k) := by decide +kernel
abbrev cX4_init : ByteArray := prog_6_method_1_code
def yX4_init : MethodName := ⟨RX4, "<init>", "()V"⟩
abbrev cX4_in : ByteArray := prog_6_method_2_code
def yX4_in : MethodName := ⟨RX4, "in", "(III)Z"⟩
abbrev cX4_has : ByteArray := prog_6_method_3_code
def yX4_has : MethodName := ⟨RX4, "has", "(II)Z"⟩
abbrev cX4_record : ByteArray := prog_6_method_4_code
def yX4_record : MethodName := ⟨RX4, "record", "()V"⟩
abbrev cX4_keep : ByteArray := prog_6_method_5_code
def yX4_keep : MethodName := ⟨RX4, "keep", "()V"⟩
abbrev cX4_comeBack : ByteArray := prog_6_method_6_code
def yX4_comeBack : MethodName := ⟨RX4, "comeBack", "()V"⟩
abbrev cX4_of : ByteArray := prog_6_method_7_code
def yX4_of : MethodName := ⟨RX4, "of", "(II)I"⟩
abbrev cX4_book : ByteArray := prog_6_method_8_code
def yX4_book : MethodName := ⟨RX4, "book", "(III)V"⟩
abbrev cX4_isPart : ByteArray := prog_6_method_9_code
def yX4_isPart : MethodName := ⟨RX4, "isPart", "(II)Z"⟩
abbrev cX4_isIll : ByteArray := prog_6_method_10_code
def yX4_isIll : MethodName := ⟨RX4, "isIll", "(I)Z"⟩
abbrev cX4_send : ByteArray := prog_6_method_11_code
def yX4_send : MethodName := ⟨RX4, "send", "(IIII)V"⟩
abbrev cX4_sendAll : ByteArray := prog_6_method_12_code
def yX4_sendAll : MethodName := ⟨RX4, "sendAll", "(IIII)V"⟩
abbrev cX4_drop : ByteArray := prog_6_method_13_code
def yX4_drop : MethodName := ⟨RX4, "drop", "(I)V"⟩
abbrev cX4_answer : ByteArray := prog_6_method_14_code
def yX4_answer : MethodName := ⟨RX4, "answer", "(II)V"⟩
abbrev cX4_tear : ByteArray := prog_6_method_15_code
def yX4_tear : MethodName := ⟨RX4, "tear", "(II)V"⟩
abbrev cX4_get : ByteArray := prog_6_method_16_code
def yX4_get : MethodName := ⟨RX4, "get", "(III)V"⟩
abbrev cX4_become : ByteArray := prog_6_method_17_code
def yX4_become : MethodName := ⟨RX4, "become", "(III)V"⟩
abbrev cX4_getBy : ByteArray := prog_6_method_18_code
def yX4_getBy : MethodName := ⟨RX4, "getBy", "(IIII)V"⟩
abbrev cX4_deliverNow : ByteArray := prog_6_method_19_code
def yX4_deliverNow : MethodName := ⟨RX4, "deliverNow", "(I)V"⟩
abbrev cX4_isTime : ByteArray := prog_6_method_20_code
def yX4_isTime : MethodName := ⟨RX4, "isTime", "(II)Z"⟩
abbrev cX4_passBetween : ByteArray := prog_6_method_21_code
def yX4_passBetween : MethodName := ⟨RX4, "passBetween", "(I)V"⟩
abbrev cX4_passClerk : ByteArray := prog_6_method_22_code
def yX4_passClerk : MethodName := ⟨RX4, "passClerk", "(II)V"⟩
abbrev cX4_pass : ByteArray := prog_6_method_23_code
def yX4_pass : MethodName := ⟨RX4, "pass", "()V"⟩
abbrev cX4_set : ByteArray := prog_6_method_24_code
def yX4_set : MethodName := ⟨RX4, "set", "(II)I"⟩
abbrev cX4_willing : ByteArray := prog_6_method_25_code
def yX4_willing : MethodName := ⟨RX4, "willing", "(II)I"⟩
abbrev cX4_open : ByteArray := prog_6_method_26_code
def yX4_open : MethodName := ⟨RX4, "open", "(I)I"⟩
abbrev cX4_isMessage : ByteArray := prog_6_method_27_code
def yX4_isMessage : MethodName := ⟨RX4, "isMessage", "(I)Z"⟩
abbrev cX4_deliver : ByteArray := prog_6_method_28_code
def yX4_deliver : MethodName := ⟨RX4, "deliver", "(I)I"⟩
abbrev cX4_loseNow : ByteArray := prog_6_method_29_code
def yX4_loseNow : MethodName := ⟨RX4, "loseNow", "(I)V"⟩
abbrev cX4_lose : ByteArray := prog_6_method_30_code
def yX4_lose : MethodName := ⟨RX4, "lose", "(I)I"⟩
abbrev cX4_twice : ByteArray := prog_6_method_31_code
def yX4_twice : MethodName := ⟨RX4, "twice", "(I)I"⟩
abbrev cX4_ill : ByteArray := prog_6_method_32_code
def yX4_ill : MethodName := ⟨RX4, "ill", "()I"⟩
abbrev cX4_fall : ByteArray := prog_6_method_33_code
def yX4_fall : MethodName := ⟨RX4, "fall", "(I)I"⟩
abbrev cX4_rise : ByteArray := prog_6_method_34_code
def yX4_rise : MethodName := ⟨RX4, "rise", "(I)I"⟩
abbrev cX4_ticks : ByteArray := prog_6_method_35_code
def yX4_ticks : MethodName := ⟨RX4, "ticks", "(I)I"⟩
abbrev cX4_isDeal : ByteArray := prog_6_method_36_code
def yX4_isDeal : MethodName := ⟨RX4, "isDeal", "(I)Z"⟩
abbrev cX4_clerksOf : ByteArray := prog_6_method_37_code
def yX4_clerksOf : MethodName := ⟨RX4, "clerksOf", "(II)I"⟩
abbrev cX4_ofDeal : ByteArray := prog_6_method_38_code
def yX4_ofDeal : MethodName := ⟨RX4, "ofDeal", "(II)I"⟩
abbrev cX4_at : ByteArray := prog_6_method_39_code
def yX4_at : MethodName := ⟨RX4, "at", "(II)I"⟩
abbrev cX4_message : ByteArray := prog_6_method_40_code
def yX4_message : MethodName := ⟨RX4, "message", "(II)I"⟩
abbrev cX4_underwayTo : ByteArray := prog_6_method_41_code
def yX4_underwayTo : MethodName := ⟨RX4, "underwayTo", "(I)I"⟩
abbrev cX4_who : ByteArray := prog_6_method_42_code
def yX4_who : MethodName := ⟨RX4, "who", "(II)I"⟩
abbrev cX4_dealsWith : ByteArray := prog_6_method_43_code
def yX4_dealsWith : MethodName := ⟨RX4, "dealsWith", "(I)I"⟩
abbrev cX4_count : ByteArray := prog_6_method_44_code
def yX4_count : MethodName := ⟨RX4, "count", "(I)I"⟩
abbrev cX4_sure : ByteArray := prog_6_method_45_code
def yX4_sure : MethodName := ⟨RX4, "sure", "(I)I"⟩
abbrev cX4_canAsk : ByteArray := prog_6_method_46_code
def yX4_canAsk : MethodName := ⟨RX4, "canAsk", "(II)Z"⟩
abbrev cX4_couldAsk : ByteArray := prog_6_method_47_code
def yX4_couldAsk : MethodName := ⟨RX4, "couldAsk", "(I)I"⟩
abbrev cX4_isSettled : ByteArray := prog_6_method_48_code
def yX4_isSettled : MethodName := ⟨RX4, "isSettled", "(I)Z"⟩
abbrev cX4_goRound : ByteArray := prog_6_method_49_code
def yX4_goRound : MethodName := ⟨RX4, "goRound", "()V"⟩
abbrev cX4_roundsTo : ByteArray := prog_6_method_50_code
def yX4_roundsTo : MethodName := ⟨RX4, "roundsTo", "(I)I"⟩
abbrev cX4_settledIn : ByteArray := prog_6_method_51_code
def yX4_settledIn : MethodName := ⟨RX4, "settledIn", "(I)I"⟩
abbrev cX4_underwayIn : ByteArray := prog_6_method_52_code
def yX4_underwayIn : MethodName := ⟨RX4, "underwayIn", "(I)I"⟩
abbrev cX4_worstLoss : ByteArray := prog_6_method_53_code
def yX4_worstLoss : MethodName := ⟨RX4, "worstLoss", "(II)I"⟩
abbrev cX4_sign : ByteArray := prog_6_method_54_code
def yX4_sign : MethodName := ⟨RX4, "sign", "()I"⟩
abbrev cX4_one : ByteArray := prog_6_method_55_code
def yX4_one : MethodName := ⟨RX4, "one", "(II)I"⟩
abbrev cX4_number : ByteArray := prog_6_method_56_code
def yX4_number : MethodName := ⟨RX4, "number", "()I"⟩
abbrev cX4_clerks : ByteArray := prog_6_method_57_code
def yX4_clerks : MethodName := ⟨RX4, "clerks", "()I"⟩
abbrev cX4_plus : ByteArray := prog_6_method_58_code
def yX4_plus : MethodName := ⟨RX4, "plus", "()I"⟩
abbrev cX4_readOne : ByteArray := prog_6_method_59_code
def yX4_readOne : MethodName := ⟨RX4, "readOne", "()V"⟩
abbrev cX4_faultOf : ByteArray := prog_6_method_60_code
def yX4_faultOf : MethodName := ⟨RX4, "faultOf", "()I"⟩
abbrev cX4_put : ByteArray := prog_6_method_61_code
def yX4_put : MethodName := ⟨RX4, "put", "(J)I"⟩
abbrev cX4_wipe : ByteArray := prog_6_method_62_code
def yX4_wipe : MethodName := ⟨RX4, "wipe", "()I"⟩
abbrev cX4_fault : ByteArray := prog_6_method_63_code
def yX4_fault : MethodName := ⟨RX4, "fault", "()I"⟩
abbrev cX4_carry : ByteArray := prog_6_method_64_code
def yX4_carry : MethodName := ⟨RX4, "carry", "(I)I"⟩
abbrev cX4_carryOut : ByteArray := prog_6_method_65_code
def yX4_carryOut : MethodName := ⟨RX4, "carryOut", "()I"⟩
abbrev cX4_undo : ByteArray := prog_6_method_66_code
def yX4_undo : MethodName := ⟨RX4, "undo", "()I"⟩
abbrev cX4_save : ByteArray := prog_6_method_67_code
def yX4_save : MethodName := ⟨RX4, "save", "(I)I"⟩
abbrev cX4_restore : ByteArray := prog_6_method_68_code
def yX4_restore : MethodName := ⟨RX4, "restore", "(I)I"⟩
def RJ6 : String := "java/lang/Integer"
def TJ6 : u_T := fun k => match k with
  | _ => ("", "", "", false)
def tyJ6 : Nat → FieldType := fun k => match k with
  | _ => .int
abbrev wsJ60 : List Cond := u_ws RJ6 TJ6 0
theorem nmJ6 : ∀ a, a < 0 → ∀ b, b < 0 → a ≠ b → (TJ6 a).2.1 ≠ (TJ6 b).2.1 := by decide +kernel
theorem tyJ6_ok : ∀ k, k < 0 → parseFieldDescriptor (TJ6 k).2.2.1 = some (tyJ6 k) := by decide +kernel
abbrev cJ6_bitCount_0f7a4 : ByteArray := prog_7_method_49_code
def yJ6_bitCount_0f7a4 : MethodName := ⟨RJ6, "bitCount", "(I)I"⟩
def RJ9 : String := "java/lang/Math"
def TJ9 : u_T := fun k => match k with
  | _ => ("", "", "", false)
def tyJ9 : Nat → FieldType := fun k => match k with
  | _ => .int
abbrev wsJ90 : List Cond := u_ws RJ9 TJ9 0
theorem nmJ9 : ∀ a, a < 0 → ∀ b, b < 0 → a ≠ b → (TJ9 a).2.1 ≠ (TJ9 b).2.1 := by decide +kernel
theorem tyJ9_ok : ∀ k, k < 0 → parseFieldDescriptor (TJ9 k).2.2.1 = some (tyJ9 k) := by decide +kernel
abbrev cJ9_min_7cf53 : ByteArray := prog_8_method_69_code
def yJ9_min_7cf53 : MethodName := ⟨RJ9, "min", "(II)I"⟩
def RJ10 : String := "java/lang/System"
def TJ10 : u_T := fun k => match k with
  | _ => ("", "", "", false)
def tyJ10 : Nat → FieldType := fun k => match k with
  | _ => .int
abbrev wsJ100 : List Cond := u_ws RJ10 TJ10 0
theorem nmJ10 : ∀ a, a < 0 → ∀ b, b < 0 → a ≠ b → (TJ10 a).2.1 ≠ (TJ10 b).2.1 := by decide +kernel
theorem tyJ10_ok : ∀ k, k < 0 → parseFieldDescriptor (TJ10 k).2.2.1 = some (tyJ10 k) := by decide +kernel
def RL : String := "ClerkVotesLaw"
abbrev cL_law : ByteArray := code
def yL_law : MethodName := ⟨RL, "law", "([I)Z"⟩
def wsL_law_r1 : List Cond := [Cond.classLink RL 7 RX3, Cond.instantiable RX3 10, Cond.initialized RX3, Cond.classLink RL 10 RX4, Cond.instantiable RX4 13, Cond.initialized RX4, Cond.constantLong RL 91 (4294967295), Cond.methodLink RL 9 yX3_init, Cond.instanceMethod yX3_init, Cond.code yX3_init cX3_init 2 none, Cond.methodLink RX3 1 objectInit, Cond.instanceMethod objectInit, Cond.code objectInit ⟨#[0xb1]⟩ 1 none, Cond.classLink RX3 7 RX2, Cond.instantiable RX2 14, Cond.initialized RX2, Cond.fieldLink RX3 10 "ClerkVotes" "now" "LClerkVotes$State;", Cond.fieldLink RX3 16 "ClerkVotes" "trial" "LClerkVotes$State;", Cond.fieldLink RX3 19 "ClerkVotes" "history" "[LClerkVotes$State;", Cond.fieldLink RX3 23 "ClerkVotes" "slots" "[LClerkVotes$State;", Cond.arrayClass .char, Cond.fieldLink RX3 26 "ClerkVotes" "pad" "[C", Cond.classLink RX3 30 RX0, Cond.instantiable RX0 4]
def wsL_law_r2 : List Cond := [Cond.initialized RX0, Cond.fieldLink RX3 33 "ClerkVotes" "reader" "LClerkVotes$OrderReader;", Cond.instanceMethod yX2_init, Cond.code yX2_init cX2_init 1 none, Cond.methodLink RX2 3 objectInit, Cond.arrayClass .int, Cond.fieldLink RX2 9 "ClerkVotes$State" "settings" "[I", Cond.classLink RX2 15 RX1, Cond.instantiable RX1 5, Cond.initialized RX1, Cond.fieldLink RX2 18 "ClerkVotes$State" "row" "LClerkVotes$Row;", Cond.fieldLink RX2 22 "ClerkVotes$State" "clerksOf" "[I", Cond.fieldLink RX2 25 "ClerkVotes$State" "forBetween" "[I", Cond.fieldLink RX2 28 "ClerkVotes$State" "openedIn" "[I", Cond.fieldLink RX2 31 "ClerkVotes$State" "postSince" "[I", Cond.fieldLink RX2 34 "ClerkVotes$State" "votes" "[I", Cond.fieldLink RX2 37 "ClerkVotes$State" "receipts" "[I", Cond.fieldLink RX2 40 "ClerkVotes$State" "standing" "[I", Cond.fieldLink RX2 43 "ClerkVotes$State" "readySince" "[I", Cond.instanceMethod yX1_init, Cond.code yX1_init cX1_init 1 none, Cond.methodLink RX1 3 objectInit, Cond.fieldLink RX1 9 "ClerkVotes$Row" "parts" "[I", Cond.fieldLink RX1 15 "ClerkVotes$Row" "deliveredTo" "[I"]
def wsL_law_r3 : List Cond := [Cond.fieldLink RX1 18 "ClerkVotes$Row" "sentBy" "[I", Cond.instanceMethod yX0_init, Cond.code yX0_init cX0_init 1 none, Cond.methodLink RX0 3 objectInit, Cond.methodLink RL 12 yX4_init, Cond.instanceMethod yX4_init, Cond.code yX4_init cX4_init 2 none, Cond.methodLink RX4 1 objectInit, Cond.fieldLink RX4 7 "ClerkVotesModel" "now" "[I", Cond.fieldLink RX4 13 "ClerkVotesModel" "kept" "[I", Cond.fieldLink RX4 16 "ClerkVotesModel" "history" "[I", Cond.fieldLink RX4 19 "ClerkVotesModel" "saved" "[I", Cond.arrayClass .boolean, Cond.fieldLink RX4 22 "ClerkVotesModel" "isSaved" "[Z", Cond.fieldLink RX4 26 "ClerkVotesModel" "pad" "[I", Cond.fieldLink RX4 29 "ClerkVotesModel" "orders" "[I", Cond.methodLink RL 13 yX3_set, Cond.instanceMethod yX3_set, Cond.selects RX3 yX3_set yX3_set, Cond.code yX3_set cX3_set 3 (some .int), Cond.methodLink RX3 37 yX3_noteStateBefore, Cond.instanceMethod yX3_noteStateBefore, Cond.selects RX3 yX3_noteStateBefore yX3_noteStateBefore, Cond.code yX3_noteStateBefore cX3_noteStateBefore 1 none]
def wsL_law_r4 : List Cond := [Cond.fieldLink RX3 138 "ClerkVotes" "nextInHistory" "I", Cond.methodLink RX3 110 yX2_copyFrom, Cond.instanceMethod yX2_copyFrom, Cond.selects RX2 yX2_copyFrom yX2_copyFrom, Cond.code yX2_copyFrom cX2_copyFrom 2 none, Cond.fieldLink RX2 46 "ClerkVotes$State" "tick" "I", Cond.fieldLink RX2 50 "ClerkVotes$State" "illOnes" "I", Cond.fieldLink RX2 53 "ClerkVotes$State" "unwillingOnes" "I", Cond.fieldLink RX2 56 "ClerkVotes$State" "deals" "I", Cond.methodLink RX2 59 arraycopyName, Cond.native arraycopyName, Cond.static arraycopyName, Cond.initialized "java/lang/System", Cond.methodLink RX2 65 yX1_copyFrom, Cond.instanceMethod yX1_copyFrom, Cond.selects RX1 yX1_copyFrom yX1_copyFrom, Cond.code yX1_copyFrom cX1_copyFrom 2 none, Cond.fieldLink RX1 21 "ClerkVotes$Row" "length" "I", Cond.fieldLink RX1 25 "ClerkVotes$Row" "lost" "I", Cond.methodLink RX1 28 arraycopyName, Cond.methodLink RX3 40 yX2_changeSetting, Cond.instanceMethod yX2_changeSetting, Cond.selects RX2 yX2_changeSetting yX2_changeSetting, Cond.code yX2_changeSetting cX2_changeSetting 4 (some .int)]
def wsL_law_r5 : List Cond := [Cond.methodLink RX3 44 yX3_recorded, Cond.instanceMethod yX3_recorded, Cond.selects RX3 yX3_recorded yX3_recorded, Cond.code yX3_recorded cX3_recorded 2 (some .int), Cond.fieldLink RX3 94 "ClerkVotes" "undoable" "I", Cond.methodLink RX3 151 Lib.Math.min.name, Cond.static Lib.Math.min.name, Cond.initialized "java/lang/Math", Cond.code Lib.Math.min.name Lib.Math.min.code 2 (some .int), Cond.methodLink RL 17 yX4_set, Cond.instanceMethod yX4_set, Cond.selects RX4 yX4_set yX4_set, Cond.code yX4_set cX4_set 4 (some .int), Cond.methodLink RX4 95 yX4_in, Cond.static yX4_in, Cond.code yX4_in cX4_in 3 (some .boolean), Cond.methodLink RX4 99 yX4_record, Cond.instanceMethod yX4_record, Cond.selects RX4 yX4_record yX4_record, Cond.code yX4_record cX4_record 2 none, Cond.fieldLink RX4 32 "ClerkVotesModel" "isInText" "Z", Cond.fieldLink RX4 36 "ClerkVotesModel" "undos" "I", Cond.methodLink RL 18 yX3_willing, Cond.instanceMethod yX3_willing]
def wsL_law_r6 : List Cond := [Cond.selects RX3 yX3_willing yX3_willing, Cond.code yX3_willing cX3_willing 3 (some .int), Cond.methodLink RX3 48 yX2_makeWilling, Cond.instanceMethod yX2_makeWilling, Cond.selects RX2 yX2_makeWilling yX2_makeWilling, Cond.code yX2_makeWilling cX2_makeWilling 4 (some .int), Cond.methodLink RX2 83 yX2_isClerk, Cond.static yX2_isClerk, Cond.code yX2_isClerk cX2_isClerk 1 (some .boolean), Cond.static yX3_isIn, Cond.code yX3_isIn cX3_isIn 2 (some .boolean), Cond.methodLink RL 21 yX4_willing, Cond.instanceMethod yX4_willing, Cond.selects RX4 yX4_willing yX4_willing, Cond.code yX4_willing cX4_willing 4 (some .int), Cond.methodLink RL 22 yX3_open, Cond.instanceMethod yX3_open, Cond.selects RX3 yX3_open yX3_open, Cond.code yX3_open cX3_open 2 (some .int), Cond.methodLink RX3 51 yX2_openDeal, Cond.instanceMethod yX2_openDeal, Cond.selects RX2 yX2_openDeal yX2_openDeal, Cond.code yX2_openDeal cX2_openDeal 3 (some .int), Cond.methodLink RX2 87 yX2_isIll]
def wsL_law_r7 : List Cond := [Cond.instanceMethod yX2_isIll, Cond.selects RX2 yX2_isIll yX2_isIll, Cond.code yX2_isIll cX2_isIll 2 (some .boolean), Cond.methodLink RX2 90 yX2_sendToClerks, Cond.instanceMethod yX2_sendToClerks, Cond.selects RX2 yX2_sendToClerks yX2_sendToClerks, Cond.code yX2_sendToClerks cX2_sendToClerks 6 none, Cond.methodLink RX2 130 yX1_send, Cond.instanceMethod yX1_send, Cond.selects RX1 yX1_send yX1_send, Cond.code yX1_send cX1_send 6 none, Cond.methodLink RL 26 yX4_open, Cond.instanceMethod yX4_open, Cond.selects RX4 yX4_open yX4_open, Cond.code yX4_open cX4_open 3 (some .int), Cond.methodLink RX4 73 yX4_isIll, Cond.instanceMethod yX4_isIll, Cond.selects RX4 yX4_isIll yX4_isIll, Cond.code yX4_isIll cX4_isIll 2 (some .boolean), Cond.methodLink RX4 52 yX4_book, Cond.instanceMethod yX4_book, Cond.selects RX4 yX4_book yX4_book, Cond.code yX4_book cX4_book 4 none, Cond.methodLink RX4 56 yX4_sendAll]
def wsL_law_r8 : List Cond := [Cond.instanceMethod yX4_sendAll, Cond.selects RX4 yX4_sendAll yX4_sendAll, Cond.code yX4_sendAll cX4_sendAll 6 none, Cond.methodLink RX4 44 yX4_has, Cond.static yX4_has, Cond.code yX4_has cX4_has 2 (some .boolean), Cond.methodLink RX4 48 yX4_send, Cond.instanceMethod yX4_send, Cond.selects RX4 yX4_send yX4_send, Cond.code yX4_send cX4_send 6 none, Cond.methodLink RL 27 yX3_deliver, Cond.instanceMethod yX3_deliver, Cond.selects RX3 yX3_deliver yX3_deliver, Cond.code yX3_deliver cX3_deliver 2 (some .int), Cond.methodLink RX3 54 yX2_handOver, Cond.instanceMethod yX2_handOver, Cond.selects RX2 yX2_handOver yX2_handOver, Cond.code yX2_handOver cX2_handOver 6 (some .int), Cond.fieldLink RX2 101 "ClerkVotes$Row" "lost" "I", Cond.fieldLink RX2 104 "ClerkVotes$Row" "length" "I", Cond.fieldLink RX2 136 "ClerkVotes$Row" "deliveredTo" "[I", Cond.methodLink RX2 94 yX1_has, Cond.instanceMethod yX1_has, Cond.selects RX1 yX1_has yX1_has]
def wsL_law_r9 : List Cond := [Cond.code yX1_has cX1_has 2 (some .boolean), Cond.methodLink RX2 133 yX1_part, Cond.instanceMethod yX1_part, Cond.selects RX1 yX1_part yX1_part, Cond.code yX1_part cX1_part 3 (some .int), Cond.methodLink RX2 97 yX1_remove, Cond.instanceMethod yX1_remove, Cond.selects RX1 yX1_remove yX1_remove, Cond.code yX1_remove cX1_remove 3 none, Cond.methodLink RX2 139 yX2_vote, Cond.instanceMethod yX2_vote, Cond.selects RX2 yX2_vote yX2_vote, Cond.code yX2_vote cX2_vote 3 none, Cond.methodLink RX2 123 yX2_stands, Cond.instanceMethod yX2_stands, Cond.selects RX2 yX2_stands yX2_stands, Cond.code yX2_stands cX2_stands 4 (some .boolean), Cond.methodLink RX2 73 yX2_whoStand, Cond.instanceMethod yX2_whoStand, Cond.selects RX2 yX2_whoStand yX2_whoStand, Cond.code yX2_whoStand cX2_whoStand 3 (some .int), Cond.methodLink RX2 127 yX2_move, Cond.instanceMethod yX2_move, Cond.selects RX2 yX2_move yX2_move]
def wsL_law_r10 : List Cond := [Cond.code yX2_move cX2_move 5 none, Cond.methodLink RX2 142 yX2_takeYes, Cond.instanceMethod yX2_takeYes, Cond.selects RX2 yX2_takeYes yX2_takeYes, Cond.code yX2_takeYes cX2_takeYes 3 none, Cond.methodLink RX2 157 yX2_answerAsBetween, Cond.instanceMethod yX2_answerAsBetween, Cond.selects RX2 yX2_answerAsBetween yX2_answerAsBetween, Cond.code yX2_answerAsBetween cX2_answerAsBetween 3 none, Cond.methodLink RX2 145 yX2_takeNo, Cond.instanceMethod yX2_takeNo, Cond.selects RX2 yX2_takeNo yX2_takeNo, Cond.code yX2_takeNo cX2_takeNo 3 none, Cond.methodLink RX2 148 yX2_postFor, Cond.instanceMethod yX2_postFor, Cond.selects RX2 yX2_postFor yX2_postFor, Cond.code yX2_postFor cX2_postFor 3 none, Cond.methodLink RX2 151 yX2_tearFor, Cond.instanceMethod yX2_tearFor, Cond.selects RX2 yX2_tearFor yX2_tearFor, Cond.code yX2_tearFor cX2_tearFor 3 none, Cond.methodLink RX2 154 yX2_takeReceipt, Cond.instanceMethod yX2_takeReceipt, Cond.selects RX2 yX2_takeReceipt yX2_takeReceipt]
def wsL_law_r11 : List Cond := [Cond.code yX2_takeReceipt cX2_takeReceipt 3 none, Cond.methodLink RX2 160 yX2_answerAsElder, Cond.instanceMethod yX2_answerAsElder, Cond.selects RX2 yX2_answerAsElder yX2_answerAsElder, Cond.code yX2_answerAsElder cX2_answerAsElder 4 none, Cond.methodLink RL 30 yX4_deliver, Cond.instanceMethod yX4_deliver, Cond.selects RX4 yX4_deliver yX4_deliver, Cond.code yX4_deliver cX4_deliver 2 (some .int), Cond.methodLink RX4 102 yX4_isMessage, Cond.instanceMethod yX4_isMessage, Cond.selects RX4 yX4_isMessage yX4_isMessage, Cond.code yX4_isMessage cX4_isMessage 2 (some .boolean), Cond.methodLink RX4 105 yX4_deliverNow, Cond.instanceMethod yX4_deliverNow, Cond.selects RX4 yX4_deliverNow yX4_deliverNow, Cond.code yX4_deliverNow cX4_deliverNow 7 none, Cond.methodLink RX4 69 yX4_drop, Cond.instanceMethod yX4_drop, Cond.selects RX4 yX4_drop yX4_drop, Cond.code yX4_drop cX4_drop 3 none, Cond.methodLink RX4 77 yX4_get, Cond.instanceMethod yX4_get, Cond.selects RX4 yX4_get yX4_get]
def wsL_law_r12 : List Cond := [Cond.code yX4_get cX4_get 6 none, Cond.methodLink RX4 40 yX4_of, Cond.instanceMethod yX4_of, Cond.selects RX4 yX4_of yX4_of, Cond.code yX4_of cX4_of 3 (some .int), Cond.methodLink RX4 59 yX4_answer, Cond.instanceMethod yX4_answer, Cond.selects RX4 yX4_answer yX4_answer, Cond.code yX4_answer cX4_answer 4 none, Cond.methodLink RX4 63 yX4_tear, Cond.instanceMethod yX4_tear, Cond.selects RX4 yX4_tear yX4_tear, Cond.code yX4_tear cX4_tear 3 none, Cond.methodLink RX4 80 yX4_getBy, Cond.instanceMethod yX4_getBy, Cond.selects RX4 yX4_getBy yX4_getBy, Cond.code yX4_getBy cX4_getBy 6 none, Cond.methodLink RX4 66 yX4_become, Cond.instanceMethod yX4_become, Cond.selects RX4 yX4_become yX4_become, Cond.code yX4_become cX4_become 4 none, Cond.methodLink RL 31 yX3_lose, Cond.instanceMethod yX3_lose, Cond.selects RX3 yX3_lose yX3_lose]
def wsL_law_r13 : List Cond := [Cond.code yX3_lose cX3_lose 2 (some .int), Cond.methodLink RX3 57 yX2_dropMessage, Cond.instanceMethod yX2_dropMessage, Cond.selects RX2 yX2_dropMessage yX2_dropMessage, Cond.code yX2_dropMessage cX2_dropMessage 2 (some .int), Cond.methodLink RL 34 yX4_lose, Cond.instanceMethod yX4_lose, Cond.selects RX4 yX4_lose yX4_lose, Cond.code yX4_lose cX4_lose 2 (some .int), Cond.methodLink RX4 108 yX4_loseNow, Cond.instanceMethod yX4_loseNow, Cond.selects RX4 yX4_loseNow yX4_loseNow, Cond.code yX4_loseNow cX4_loseNow 2 none, Cond.methodLink RL 35 yX3_twice, Cond.instanceMethod yX3_twice, Cond.selects RX3 yX3_twice yX3_twice, Cond.code yX3_twice cX3_twice 2 (some .int), Cond.methodLink RX3 60 yX2_repeatMessage, Cond.instanceMethod yX2_repeatMessage, Cond.selects RX2 yX2_repeatMessage yX2_repeatMessage, Cond.code yX2_repeatMessage cX2_repeatMessage 2 (some .int), Cond.methodLink RX2 107 yX1_repeat, Cond.instanceMethod yX1_repeat, Cond.selects RX1 yX1_repeat yX1_repeat]
def wsL_law_r14 : List Cond := [Cond.code yX1_repeat cX1_repeat 2 none, Cond.methodLink RL 38 yX4_twice, Cond.instanceMethod yX4_twice, Cond.selects RX4 yX4_twice yX4_twice, Cond.code yX4_twice cX4_twice 3 (some .int), Cond.methodLink RL 39 yX3_fall, Cond.instanceMethod yX3_fall, Cond.selects RX3 yX3_fall yX3_fall, Cond.code yX3_fall cX3_fall 2 (some .int), Cond.methodLink RX3 63 yX2_fallIll, Cond.instanceMethod yX2_fallIll, Cond.selects RX2 yX2_fallIll yX2_fallIll, Cond.code yX2_fallIll cX2_fallIll 3 (some .int), Cond.methodLink RX2 110 yX2_isSomebody, Cond.static yX2_isSomebody, Cond.code yX2_isSomebody cX2_isSomebody 1 (some .boolean), Cond.methodLink RX2 113 yX2_forget, Cond.instanceMethod yX2_forget, Cond.selects RX2 yX2_forget yX2_forget, Cond.code yX2_forget cX2_forget 3 none, Cond.methodLink RX2 117 yJ6_bitCount_0f7a4, Cond.static yJ6_bitCount_0f7a4, Cond.initialized RJ6, Cond.code yJ6_bitCount_0f7a4 cJ6_bitCount_0f7a4 1 (some .int)]
def wsL_law_r15 : List Cond := [Cond.constant RJ6 265 (1431655765), Cond.constant RJ6 266 (858993459), Cond.constant RJ6 267 (252645135), Cond.methodLink RL 42 yX4_fall, Cond.instanceMethod yX4_fall, Cond.selects RX4 yX4_fall yX4_fall, Cond.code yX4_fall cX4_fall 3 (some .int), Cond.methodLink RX4 86 yX4_isPart, Cond.instanceMethod yX4_isPart, Cond.selects RX4 yX4_isPart yX4_isPart, Cond.code yX4_isPart cX4_isPart 3 (some .boolean), Cond.methodLink RX4 111 yX4_ill, Cond.instanceMethod yX4_ill, Cond.selects RX4 yX4_ill yX4_ill, Cond.code yX4_ill cX4_ill 3 (some .int), Cond.methodLink RL 43 yX3_rise, Cond.instanceMethod yX3_rise, Cond.selects RX3 yX3_rise yX3_rise, Cond.code yX3_rise cX3_rise 2 (some .int), Cond.methodLink RX3 66 yX2_getWell, Cond.instanceMethod yX2_getWell, Cond.selects RX2 yX2_getWell yX2_getWell, Cond.code yX2_getWell cX2_getWell 2 (some .int), Cond.methodLink RL 46 yX4_rise]
def wsL_law_r16 : List Cond := [Cond.instanceMethod yX4_rise, Cond.selects RX4 yX4_rise yX4_rise, Cond.code yX4_rise cX4_rise 2 (some .int), Cond.methodLink RL 47 yX3_ticks, Cond.instanceMethod yX3_ticks, Cond.selects RX3 yX3_ticks yX3_ticks, Cond.code yX3_ticks cX3_ticks 2 (some .int), Cond.methodLink RX3 69 yX2_passTicks, Cond.instanceMethod yX2_passTicks, Cond.selects RX2 yX2_passTicks yX2_passTicks, Cond.code yX2_passTicks cX2_passTicks 3 (some .int), Cond.methodLink RX2 164 yX2_passTick, Cond.instanceMethod yX2_passTick, Cond.selects RX2 yX2_passTick yX2_passTick, Cond.code yX2_passTick cX2_passTick 2 none, Cond.methodLink RX2 167 yX2_pressOn, Cond.instanceMethod yX2_pressOn, Cond.selects RX2 yX2_pressOn yX2_pressOn, Cond.code yX2_pressOn cX2_pressOn 2 none, Cond.methodLink RX2 173 yX2_isTimeAgain, Cond.instanceMethod yX2_isTimeAgain, Cond.selects RX2 yX2_isTimeAgain yX2_isTimeAgain, Cond.code yX2_isTimeAgain cX2_isTimeAgain 4 (some .boolean), Cond.methodLink RX2 170 yX2_askInDoubt]
def wsL_law_r17 : List Cond := [Cond.instanceMethod yX2_askInDoubt, Cond.selects RX2 yX2_askInDoubt yX2_askInDoubt, Cond.code yX2_askInDoubt cX2_askInDoubt 3 none, Cond.methodLink RL 50 yX4_ticks, Cond.instanceMethod yX4_ticks, Cond.selects RX4 yX4_ticks yX4_ticks, Cond.code yX4_ticks cX4_ticks 3 (some .int), Cond.methodLink RX4 115 yX4_pass, Cond.instanceMethod yX4_pass, Cond.selects RX4 yX4_pass yX4_pass, Cond.code yX4_pass cX4_pass 3 none, Cond.methodLink RX4 89 yX4_passBetween, Cond.instanceMethod yX4_passBetween, Cond.selects RX4 yX4_passBetween yX4_passBetween, Cond.code yX4_passBetween cX4_passBetween 3 none, Cond.methodLink RX4 83 yX4_isTime, Cond.static yX4_isTime, Cond.code yX4_isTime cX4_isTime 2 (some .boolean), Cond.methodLink RX4 92 yX4_passClerk, Cond.instanceMethod yX4_passClerk, Cond.selects RX4 yX4_passClerk yX4_passClerk, Cond.code yX4_passClerk cX4_passClerk 4 none, Cond.methodLink RL 51 yX3_ofDeal, Cond.instanceMethod yX3_ofDeal]
def wsL_law_r18 : List Cond := [Cond.selects RX3 yX3_ofDeal yX3_ofDeal, Cond.code yX3_ofDeal cX3_ofDeal 3 (some .int), Cond.methodLink RX3 72 yX2_numberOfDeal, Cond.instanceMethod yX2_numberOfDeal, Cond.selects RX2 yX2_numberOfDeal yX2_numberOfDeal, Cond.code yX2_numberOfDeal cX2_numberOfDeal 3 (some .int), Cond.methodLink RX2 185 yX2_isDeal, Cond.instanceMethod yX2_isDeal, Cond.selects RX2 yX2_isDeal yX2_isDeal, Cond.code yX2_isDeal cX2_isDeal 2 (some .boolean), Cond.methodLink RL 54 yX4_ofDeal, Cond.instanceMethod yX4_ofDeal, Cond.selects RX4 yX4_ofDeal yX4_ofDeal, Cond.code yX4_ofDeal cX4_ofDeal 3 (some .int), Cond.methodLink RX4 118 yX4_isDeal, Cond.instanceMethod yX4_isDeal, Cond.selects RX4 yX4_isDeal yX4_isDeal, Cond.code yX4_isDeal cX4_isDeal 2 (some .boolean), Cond.methodLink RX4 121 yX4_clerksOf, Cond.instanceMethod yX4_clerksOf, Cond.selects RX4 yX4_clerksOf yX4_clerksOf, Cond.code yX4_clerksOf cX4_clerksOf 5 (some .int), Cond.methodLink RL 55 yX3_at, Cond.instanceMethod yX3_at]
def wsL_law_r19 : List Cond := [Cond.selects RX3 yX3_at yX3_at, Cond.code yX3_at cX3_at 3 (some .int), Cond.methodLink RX3 75 yX2_standingFor, Cond.instanceMethod yX2_standingFor, Cond.selects RX2 yX2_standingFor yX2_standingFor, Cond.code yX2_standingFor cX2_standingFor 4 (some .int), Cond.methodLink RL 58 yX4_at, Cond.instanceMethod yX4_at, Cond.selects RX4 yX4_at yX4_at, Cond.code yX4_at cX4_at 3 (some .int), Cond.methodLink RL 59 yX3_message, Cond.instanceMethod yX3_message, Cond.selects RX3 yX3_message yX3_message, Cond.code yX3_message cX3_message 3 (some .int), Cond.fieldLink RX3 78 "ClerkVotes$State" "row" "LClerkVotes$Row;", Cond.methodLink RX3 82 yX1_numberOfMessage, Cond.instanceMethod yX1_numberOfMessage, Cond.selects RX1 yX1_numberOfMessage yX1_numberOfMessage, Cond.code yX1_numberOfMessage cX1_numberOfMessage 3 (some .int), Cond.methodLink RX1 34 yX1_has, Cond.methodLink RX1 38 yX1_part, Cond.methodLink RL 62 yX4_message, Cond.instanceMethod yX4_message, Cond.selects RX4 yX4_message yX4_message]
def wsL_law_r20 : List Cond := [Cond.code yX4_message cX4_message 3 (some .int), Cond.methodLink RL 63 yX3_who, Cond.instanceMethod yX3_who, Cond.selects RX3 yX3_who yX3_who, Cond.code yX3_who cX3_who 3 (some .int), Cond.methodLink RX3 87 yX2_numberOfSomebody, Cond.instanceMethod yX2_numberOfSomebody, Cond.selects RX2 yX2_numberOfSomebody yX2_numberOfSomebody, Cond.code yX2_numberOfSomebody cX2_numberOfSomebody 3 (some .int), Cond.fieldLink RX2 191 "ClerkVotes$Row" "sentBy" "[I", Cond.methodLink RX2 188 yX1_onTheirWayTo, Cond.instanceMethod yX1_onTheirWayTo, Cond.selects RX1 yX1_onTheirWayTo yX1_onTheirWayTo, Cond.code yX1_onTheirWayTo cX1_onTheirWayTo 4 (some .int), Cond.methodLink RL 66 yX4_who, Cond.instanceMethod yX4_who, Cond.selects RX4 yX4_who yX4_who, Cond.code yX4_who cX4_who 3 (some .int), Cond.methodLink RX4 124 yX4_underwayTo, Cond.instanceMethod yX4_underwayTo, Cond.selects RX4 yX4_underwayTo yX4_underwayTo, Cond.code yX4_underwayTo cX4_underwayTo 4 (some .int), Cond.methodLink RL 67 yX3_count, Cond.instanceMethod yX3_count]
def wsL_law_r21 : List Cond := [Cond.selects RX3 yX3_count yX3_count, Cond.code yX3_count cX3_count 2 (some .int), Cond.fieldLink RX3 90 "ClerkVotes" "padLength" "I", Cond.methodLink RX3 97 yX2_numberOfAll, Cond.instanceMethod yX2_numberOfAll, Cond.selects RX2 yX2_numberOfAll yX2_numberOfAll, Cond.code yX2_numberOfAll cX2_numberOfAll 2 (some .int), Cond.methodLink RX2 194 yX1_delivered, Cond.instanceMethod yX1_delivered, Cond.selects RX1 yX1_delivered yX1_delivered, Cond.code yX1_delivered cX1_delivered 3 (some .int), Cond.methodLink RX2 198 yX2_dealsWithBoth, Cond.instanceMethod yX2_dealsWithBoth, Cond.selects RX2 yX2_dealsWithBoth yX2_dealsWithBoth, Cond.code yX2_dealsWithBoth cX2_dealsWithBoth 5 (some .int), Cond.methodLink RL 70 yX4_count, Cond.instanceMethod yX4_count, Cond.selects RX4 yX4_count yX4_count, Cond.code yX4_count cX4_count 2 (some .int), Cond.fieldLink RX4 131 "ClerkVotesModel" "signs" "I", Cond.methodLink RX4 128 yX4_dealsWith, Cond.instanceMethod yX4_dealsWith, Cond.selects RX4 yX4_dealsWith yX4_dealsWith, Cond.code yX4_dealsWith cX4_dealsWith 6 (some .int)]
def wsL_law_r22 : List Cond := [Cond.methodLink RL 71 yX3_sure, Cond.instanceMethod yX3_sure, Cond.selects RX3 yX3_sure yX3_sure, Cond.code yX3_sure cX3_sure 2 (some .int), Cond.methodLink RX3 100 yX2_whatIsSure, Cond.instanceMethod yX2_whatIsSure, Cond.selects RX2 yX2_whatIsSure yX2_whatIsSure, Cond.code yX2_whatIsSure cX2_whatIsSure 2 (some .int), Cond.methodLink RL 74 yX4_sure, Cond.instanceMethod yX4_sure, Cond.selects RX4 yX4_sure yX4_sure, Cond.code yX4_sure cX4_sure 3 (some .int), Cond.methodLink RL 75 yX3_couldAsk, Cond.instanceMethod yX3_couldAsk, Cond.selects RX3 yX3_couldAsk yX3_couldAsk, Cond.code yX3_couldAsk cX3_couldAsk 2 (some .int), Cond.methodLink RX3 103 yX2_whoFindsOut, Cond.instanceMethod yX2_whoFindsOut, Cond.selects RX2 yX2_whoFindsOut yX2_whoFindsOut, Cond.code yX2_whoFindsOut cX2_whoFindsOut 6 (some .int), Cond.methodLink RL 78 yX4_couldAsk, Cond.instanceMethod yX4_couldAsk, Cond.selects RX4 yX4_couldAsk yX4_couldAsk, Cond.code yX4_couldAsk cX4_couldAsk 4 (some .int)]
def wsL_law_r23 : List Cond := [Cond.methodLink RX4 134 yX4_canAsk, Cond.instanceMethod yX4_canAsk, Cond.selects RX4 yX4_canAsk yX4_canAsk, Cond.code yX4_canAsk cX4_canAsk 5 (some .boolean), Cond.methodLink RL 79 yX3_settledIn, Cond.instanceMethod yX3_settledIn, Cond.selects RX3 yX3_settledIn yX3_settledIn, Cond.code yX3_settledIn cX3_settledIn 3 (some .int), Cond.methodLink RX3 106 yX2_isDeal, Cond.methodLink RX3 114 yX2_roundsUntilSettled, Cond.instanceMethod yX2_roundsUntilSettled, Cond.selects RX2 yX2_roundsUntilSettled yX2_roundsUntilSettled, Cond.code yX2_roundsUntilSettled cX2_roundsUntilSettled 3 (some .int), Cond.methodLink RX2 179 yX2_isSettled, Cond.instanceMethod yX2_isSettled, Cond.selects RX2 yX2_isSettled yX2_isSettled, Cond.code yX2_isSettled cX2_isSettled 2 (some .boolean), Cond.methodLink RX2 182 yX2_passRound, Cond.instanceMethod yX2_passRound, Cond.selects RX2 yX2_passRound yX2_passRound, Cond.code yX2_passRound cX2_passRound 3 none, Cond.methodLink RX2 176 yX2_handOver, Cond.methodLink RL 82 yX4_settledIn, Cond.instanceMethod yX4_settledIn]
def wsL_law_r24 : List Cond := [Cond.selects RX4 yX4_settledIn yX4_settledIn, Cond.code yX4_settledIn cX4_settledIn 3 (some .int), Cond.methodLink RX4 143 yX4_keep, Cond.instanceMethod yX4_keep, Cond.selects RX4 yX4_keep yX4_keep, Cond.code yX4_keep cX4_keep 2 none, Cond.methodLink RX4 146 yX4_roundsTo, Cond.instanceMethod yX4_roundsTo, Cond.selects RX4 yX4_roundsTo yX4_roundsTo, Cond.code yX4_roundsTo cX4_roundsTo 3 (some .int), Cond.methodLink RX4 137 yX4_isSettled, Cond.instanceMethod yX4_isSettled, Cond.selects RX4 yX4_isSettled yX4_isSettled, Cond.code yX4_isSettled cX4_isSettled 2 (some .boolean), Cond.methodLink RX4 140 yX4_goRound, Cond.instanceMethod yX4_goRound, Cond.selects RX4 yX4_goRound yX4_goRound, Cond.code yX4_goRound cX4_goRound 3 none, Cond.methodLink RX4 149 yX4_comeBack, Cond.instanceMethod yX4_comeBack, Cond.selects RX4 yX4_comeBack yX4_comeBack, Cond.code yX4_comeBack cX4_comeBack 2 none, Cond.methodLink RL 83 yX3_underwayIn, Cond.instanceMethod yX3_underwayIn]
def wsL_law_r25 : List Cond := [Cond.selects RX3 yX3_underwayIn yX3_underwayIn, Cond.code yX3_underwayIn cX3_underwayIn 3 (some .int), Cond.fieldLink RX3 120 "ClerkVotes$Row" "length" "I", Cond.methodLink RX3 117 yX2_passRound, Cond.methodLink RL 86 yX4_underwayIn, Cond.instanceMethod yX4_underwayIn, Cond.selects RX4 yX4_underwayIn yX4_underwayIn, Cond.code yX4_underwayIn cX4_underwayIn 3 (some .int), Cond.methodLink RL 87 yX3_worstLoss, Cond.instanceMethod yX3_worstLoss, Cond.selects RX3 yX3_worstLoss yX3_worstLoss, Cond.code yX3_worstLoss cX3_worstLoss 7 (some .int), Cond.methodLink RL 90 yX4_worstLoss, Cond.instanceMethod yX4_worstLoss, Cond.selects RX4 yX4_worstLoss yX4_worstLoss, Cond.code yX4_worstLoss cX4_worstLoss 8 (some .int), Cond.methodLink RL 93 yX3_put, Cond.instanceMethod yX3_put, Cond.selects RX3 yX3_put yX3_put, Cond.code yX3_put cX3_put 5 (some .int), Cond.methodLink RX3 123 yX3_charactersIn, Cond.static yX3_charactersIn, Cond.code yX3_charactersIn cX3_charactersIn 4 (some .int), Cond.methodLink RX3 127 yX3_codeAt]
def wsL_law_r26 : List Cond := [Cond.static yX3_codeAt, Cond.code yX3_codeAt cX3_codeAt 3 (some .int), Cond.constantLong RX3 156 (255), Cond.methodLink RL 97 yX4_put, Cond.instanceMethod yX4_put, Cond.selects RX4 yX4_put yX4_put, Cond.code yX4_put cX4_put 7 (some .int), Cond.constantLong RX4 179 (255), Cond.methodLink RL 98 yX3_wipe, Cond.instanceMethod yX3_wipe, Cond.selects RX3 yX3_wipe yX3_wipe, Cond.code yX3_wipe cX3_wipe 2 (some .int), Cond.methodLink RL 102 yX4_wipe, Cond.instanceMethod yX4_wipe, Cond.selects RX4 yX4_wipe yX4_wipe, Cond.code yX4_wipe cX4_wipe 2 (some .int), Cond.methodLink RL 103 yX3_fault, Cond.instanceMethod yX3_fault, Cond.selects RX3 yX3_fault yX3_fault, Cond.code yX3_fault cX3_fault 1 (some .int), Cond.methodLink RX3 131 yX3_faultOfPad, Cond.instanceMethod yX3_faultOfPad, Cond.selects RX3 yX3_faultOfPad yX3_faultOfPad, Cond.code yX3_faultOfPad cX3_faultOfPad 2 (some .int)]
def wsL_law_r27 : List Cond := [Cond.methodLink RX3 158 yX0_begin, Cond.instanceMethod yX0_begin, Cond.selects RX0 yX0_begin yX0_begin, Cond.code yX0_begin cX0_begin 1 none, Cond.fieldLink RX0 9 "ClerkVotes$OrderReader" "expected" "I", Cond.methodLink RX3 161 yX0_takes, Cond.instanceMethod yX0_takes, Cond.selects RX0 yX0_takes yX0_takes, Cond.code yX0_takes cX0_takes 2 (some .boolean), Cond.methodLink RX0 18 yX0_takesOrderEnd, Cond.instanceMethod yX0_takesOrderEnd, Cond.selects RX0 yX0_takesOrderEnd yX0_takesOrderEnd, Cond.code yX0_takesOrderEnd cX0_takesOrderEnd 1 (some .boolean), Cond.methodLink RX0 38 yX0_mayEnd, Cond.instanceMethod yX0_mayEnd, Cond.selects RX0 yX0_mayEnd yX0_mayEnd, Cond.code yX0_mayEnd cX0_mayEnd 1 (some .boolean), Cond.fieldLink RX0 15 "ClerkVotes$OrderReader" "value" "I", Cond.methodLink RX0 22 yX0_takesLetter, Cond.instanceMethod yX0_takesLetter, Cond.selects RX0 yX0_takesLetter yX0_takesLetter, Cond.code yX0_takesLetter cX0_takesLetter 2 (some .boolean), Cond.fieldLink RX0 41 "ClerkVotes$OrderReader" "letter" "I", Cond.methodLink RX0 26 yX0_takesRisingClerk]
def wsL_law_r28 : List Cond := [Cond.instanceMethod yX0_takesRisingClerk, Cond.selects RX0 yX0_takesRisingClerk yX0_takesRisingClerk, Cond.code yX0_takesRisingClerk cX0_takesRisingClerk 3 (some .boolean), Cond.methodLink RX0 29 yX0_takesDigit, Cond.instanceMethod yX0_takesDigit, Cond.selects RX0 yX0_takesDigit yX0_takesDigit, Cond.code yX0_takesDigit cX0_takesDigit 3 (some .boolean), Cond.methodLink RX0 32 yX0_takesSomebody, Cond.instanceMethod yX0_takesSomebody, Cond.selects RX0 yX0_takesSomebody yX0_takesSomebody, Cond.code yX0_takesSomebody cX0_takesSomebody 4 (some .boolean), Cond.methodLink RX0 35 yX0_takesSign, Cond.instanceMethod yX0_takesSign, Cond.selects RX0 yX0_takesSign yX0_takesSign, Cond.code yX0_takesSign cX0_takesSign 2 (some .boolean), Cond.fieldLink RX0 44 "ClerkVotes$OrderReader" "willingness" "I", Cond.methodLink RX3 164 yX0_mayEnd, Cond.methodLink RL 106 yX4_fault, Cond.instanceMethod yX4_fault, Cond.selects RX4 yX4_fault yX4_fault, Cond.code yX4_fault cX4_fault 1 (some .int), Cond.methodLink RX4 181 yX4_faultOf, Cond.instanceMethod yX4_faultOf, Cond.selects RX4 yX4_faultOf yX4_faultOf]
def wsL_law_r29 : List Cond := [Cond.code yX4_faultOf cX4_faultOf 1 (some .int), Cond.fieldLink RX4 152 "ClerkVotesModel" "place" "I", Cond.fieldLink RX4 164 "ClerkVotesModel" "read" "I", Cond.fieldLink RX4 158 "ClerkVotesModel" "isWrong" "Z", Cond.methodLink RX4 176 yX4_readOne, Cond.instanceMethod yX4_readOne, Cond.selects RX4 yX4_readOne yX4_readOne, Cond.code yX4_readOne cX4_readOne 3 none, Cond.methodLink RX4 155 yX4_sign, Cond.instanceMethod yX4_sign, Cond.selects RX4 yX4_sign yX4_sign, Cond.code yX4_sign cX4_sign 1 (some .int), Cond.methodLink RX4 167 yX4_clerks, Cond.instanceMethod yX4_clerks, Cond.selects RX4 yX4_clerks yX4_clerks, Cond.code yX4_clerks cX4_clerks 3 (some .int), Cond.methodLink RX4 161 yX4_one, Cond.instanceMethod yX4_one, Cond.selects RX4 yX4_one yX4_one, Cond.code yX4_one cX4_one 4 (some .int), Cond.methodLink RX4 170 yX4_number, Cond.instanceMethod yX4_number, Cond.selects RX4 yX4_number yX4_number, Cond.code yX4_number cX4_number 2 (some .int)]
def wsL_law_r30 : List Cond := [Cond.methodLink RX4 173 yX4_plus, Cond.instanceMethod yX4_plus, Cond.selects RX4 yX4_plus yX4_plus, Cond.code yX4_plus cX4_plus 2 (some .int), Cond.methodLink RL 107 yX3_carryOut, Cond.instanceMethod yX3_carryOut, Cond.selects RX3 yX3_carryOut yX3_carryOut, Cond.code yX3_carryOut cX3_carryOut 2 (some .int), Cond.methodLink RX3 135 yX3_carryOutOrders, Cond.instanceMethod yX3_carryOutOrders, Cond.selects RX3 yX3_carryOutOrders yX3_carryOutOrders, Cond.code yX3_carryOutOrders cX3_carryOutOrders 4 (some .int), Cond.methodLink RX3 168 yX3_carryOutOrder, Cond.instanceMethod yX3_carryOutOrder, Cond.selects RX3 yX3_carryOutOrder yX3_carryOutOrder, Cond.code yX3_carryOutOrder cX3_carryOutOrder 2 (some .int), Cond.fieldLink RX3 171 "ClerkVotes$OrderReader" "value" "I", Cond.fieldLink RX3 174 "ClerkVotes$OrderReader" "letter" "I", Cond.fieldLink RX3 177 "ClerkVotes$OrderReader" "willingness" "I", Cond.methodLink RL 110 yX4_carryOut, Cond.instanceMethod yX4_carryOut, Cond.selects RX4 yX4_carryOut yX4_carryOut, Cond.code yX4_carryOut cX4_carryOut 2 (some .int), Cond.methodLink RX4 205 yX4_carry]
def wsL_law_r31 : List Cond := [Cond.instanceMethod yX4_carry, Cond.selects RX4 yX4_carry yX4_carry, Cond.code yX4_carry cX4_carry 3 (some .int), Cond.methodLink RX4 184 yX4_open, Cond.methodLink RX4 187 yX4_deliver, Cond.methodLink RX4 190 yX4_lose, Cond.methodLink RX4 193 yX4_fall, Cond.methodLink RX4 196 yX4_rise, Cond.methodLink RX4 199 yX4_willing, Cond.methodLink RX4 202 yX4_ticks, Cond.methodLink RL 111 yX3_undo, Cond.instanceMethod yX3_undo, Cond.selects RX3 yX3_undo yX3_undo, Cond.code yX3_undo cX3_undo 1 (some .int), Cond.methodLink RL 114 yX4_undo, Cond.instanceMethod yX4_undo, Cond.selects RX4 yX4_undo yX4_undo, Cond.code yX4_undo cX4_undo 2 (some .int), Cond.methodLink RL 115 yX3_save, Cond.instanceMethod yX3_save, Cond.selects RX3 yX3_save yX3_save, Cond.code yX3_save cX3_save 2 (some .int), Cond.fieldLink RX3 141 "ClerkVotes" "savedSlots" "I", Cond.fieldLink RX3 144 "ClerkVotes$State" "tick" "I"]
def wsL_law_r32 : List Cond := [Cond.methodLink RL 118 yX4_save, Cond.instanceMethod yX4_save, Cond.selects RX4 yX4_save yX4_save, Cond.code yX4_save cX4_save 3 (some .int), Cond.methodLink RL 119 yX3_restore, Cond.instanceMethod yX3_restore, Cond.selects RX3 yX3_restore yX3_restore, Cond.code yX3_restore cX3_restore 2 (some .int), Cond.methodLink RX3 147 yX3_isIn, Cond.methodLink RL 122 yX4_restore, Cond.instanceMethod yX4_restore, Cond.selects RX4 yX4_restore yX4_restore, Cond.code yX4_restore cX4_restore 3 (some .int)]
def wsL_law : List Cond := (wsL_law_r1 ++ (wsL_law_r2 ++ (wsL_law_r3 ++ (wsL_law_r4 ++ (wsL_law_r5 ++ (wsL_law_r6 ++ (wsL_law_r7 ++ (wsL_law_r8 ++ (wsL_law_r9 ++ (wsL_law_r10 ++ (wsL_law_r11 ++ (wsL_law_r12 ++ (wsL_law_r13 ++ (wsL_law_r14 ++ (wsL_law_r15 ++ (wsL_law_r16 ++ (wsL_law_r17 ++ (wsL_law_r18 ++ (wsL_law_r19 ++ (wsL_law_r20 ++ (wsL_law_r21 ++ (wsL_law_r22 ++ (wsL_law_r23 ++ (wsL_law_r24 ++ (wsL_law_r25 ++ (wsL_law_r26 ++ (wsL_law_r27 ++ (wsL_law_r28 ++ (wsL_law_r29 ++ (wsL_law_r30 ++ (wsL_law_r31 ++ wsL_law_r32))))))))))))))))))))))))))))))) ++ wsX30 ++ wsX40 ++ wsX20 ++ wsX00 ++ wsX10 ++ ([] : List Cond)
theorem inlX0 : ∀ w ∈ wsX00, w ∈ wsL_law := fun _ h => List.mem_append_left _ (List.mem_append_left _ (List.mem_append_right _ h))
theorem inlX1 : ∀ w ∈ wsX10, w ∈ wsL_law := fun _ h => List.mem_append_left _ (List.mem_append_right _ h)
theorem inlX2 : ∀ w ∈ wsX20, w ∈ wsL_law := fun _ h => List.mem_append_left _ (List.mem_append_left _ (List.mem_append_left _ (List.mem_append_right _ h)))
theorem inlX3 : ∀ w ∈ wsX30, w ∈ wsL_law := fun _ h => List.mem_append_left _ (List.mem_append_left _ (List.mem_append_left _ (List.mem_append_left _ (List.mem_append_left _ (List.mem_append_right _ h)))))
theorem inlX4 : ∀ w ∈ wsX40, w ∈ wsL_law := fun _ h => List.mem_append_left _ (List.mem_append_left _ (List.mem_append_left _ (List.mem_append_left _ (List.mem_append_right _ h))))
abbrev vwCl : List vw_C := [(RX0, TX0, 4), (RX1, TX1, 5), (RX2, TX2, 14), (RX3, TX3, 10), (RX4, TX4, 13)]
theorem mem_pl {big ws : List Cond} (ps : List Nat) (h : ws.map some = ps.map (fun i => big[i]?)) : ∀ w ∈ ws, w ∈ big := by
  intro w hw
  have h1 : some w ∈ ws.map some := List.mem_map.mpr ⟨w, hw, rfl⟩
  rw [h] at h1
  obtain ⟨i, -, hi⟩ := List.mem_map.mp h1
  exact List.mem_of_getElem? hi
set_option maxRecDepth 20000 in
theorem tin_r1 : ∀ w ∈ wsL_law_r1, w ∈ lw_tbl := mem_pl [78, 79, 70, 612, 613, 74, 932, 80, 81, 82, 83, 84, 85, 86, 87, 71, 189, 190, 191, 194, 188, 196, 166, 167] (by decide +kernel)
set_option maxRecDepth 20000 in
theorem tgd_r1 : wsL_law_r1.all goodWord = true := by decide +kernel
set_option maxRecDepth 20000 in
theorem tin_r2 : ∀ w ∈ wsL_law_r2, w ∈ lw_tbl := mem_pl [73, 198, 89, 90, 91, 119, 125, 92, 93, 72, 126, 128, 129, 130, 131, 132, 133, 134, 135, 95, 96, 97, 103, 104] (by decide +kernel)
set_option maxRecDepth 20000 in
theorem tgd_r2 : wsL_law_r2.all goodWord = true := by decide +kernel
set_option maxRecDepth 20000 in
theorem tin_r3 : ∀ w ∈ wsL_law_r3, w ∈ lw_tbl := mem_pl [106, 169, 170, 171, 614, 615, 616, 617, 618, 619, 620, 622, 658, 623, 624, 627, 220, 221, 222, 223, 224, 226, 0, 227] (by decide +kernel)
set_option maxRecDepth 20000 in
theorem tgd_r3 : wsL_law_r3.all goodWord = true := by decide +kernel
set_option maxRecDepth 20000 in
theorem tin_r4 : ∀ w ∈ wsL_law_r4, w ∈ lw_tbl := mem_pl [192, 228, 229, 230, 231, 120, 122, 123, 124, 232, 234, 233, 75, 235, 236, 237, 238, 98, 101, 239, 240, 241, 242, 243] (by decide +kernel)
set_option maxRecDepth 20000 in
theorem tgd_r4 : wsL_law_r4.all goodWord = true := by decide +kernel
set_option maxRecDepth 20000 in
theorem tin_r5 : ∀ w ∈ wsL_law_r5, w ∈ lw_tbl := mem_pl [248, 250, 1, 251, 193, 252, 253, 76, 254, 659, 660, 661, 662, 663, 664, 665, 666, 668, 31, 669, 626, 621, 255, 256] (by decide +kernel)
set_option maxRecDepth 20000 in
theorem tgd_r5 : wsL_law_r5.all goodWord = true := by decide +kernel
set_option maxRecDepth 20000 in
theorem tin_r6 : ∀ w ∈ wsL_law_r6, w ∈ lw_tbl := mem_pl [257, 258, 259, 260, 261, 262, 263, 264, 265, 267, 268, 670, 671, 672, 673, 269, 270, 271, 272, 273, 274, 275, 276, 277] (by decide +kernel)
set_option maxRecDepth 20000 in
theorem tgd_r6 : wsL_law_r6.all goodWord = true := by decide +kernel
set_option maxRecDepth 20000 in
theorem tin_r7 : ∀ w ∈ wsL_law_r7, w ∈ lw_tbl := mem_pl [279, 2, 280, 281, 283, 3, 284, 285, 286, 287, 288, 674, 675, 676, 677, 678, 680, 32, 681, 682, 684, 33, 685, 686] (by decide +kernel)
set_option maxRecDepth 20000 in
theorem tgd_r7 : wsL_law_r7.all goodWord = true := by decide +kernel
set_option maxRecDepth 20000 in
theorem tin_r8 : ∀ w ∈ wsL_law_r8, w ∈ lw_tbl := mem_pl [688, 34, 689, 690, 691, 692, 693, 695, 35, 696, 289, 290, 291, 292, 293, 294, 295, 296, 102, 99, 105, 297, 298, 299] (by decide +kernel)
set_option maxRecDepth 20000 in
theorem tgd_r8 : wsL_law_r8.all goodWord = true := by decide +kernel
set_option maxRecDepth 20000 in
theorem tin_r9 : ∀ w ∈ wsL_law_r9, w ∈ lw_tbl := mem_pl [300, 301, 302, 303, 304, 305, 306, 307, 308, 309, 311, 4, 312, 313, 315, 5, 316, 317, 319, 6, 320, 321, 323, 7] (by decide +kernel)
set_option maxRecDepth 20000 in
theorem tgd_r9 : wsL_law_r9.all goodWord = true := by decide +kernel
set_option maxRecDepth 20000 in
theorem tin_r10 : ∀ w ∈ wsL_law_r10, w ∈ lw_tbl := mem_pl [324, 325, 327, 8, 328, 329, 331, 9, 332, 333, 335, 10, 336, 337, 339, 11, 340, 341, 343, 12, 344, 345, 347, 13] (by decide +kernel)
set_option maxRecDepth 20000 in
theorem tgd_r10 : wsL_law_r10.all goodWord = true := by decide +kernel
set_option maxRecDepth 20000 in
theorem tin_r11 : ∀ w ∈ wsL_law_r11, w ∈ lw_tbl := mem_pl [348, 349, 351, 14, 352, 697, 698, 699, 700, 701, 703, 36, 704, 705, 707, 37, 708, 709, 711, 38, 712, 713, 715, 39] (by decide +kernel)
set_option maxRecDepth 20000 in
theorem tgd_r11 : wsL_law_r11.all goodWord = true := by decide +kernel
set_option maxRecDepth 20000 in
theorem tin_r12 : ∀ w ∈ wsL_law_r12, w ∈ lw_tbl := mem_pl [716, 717, 719, 40, 720, 721, 723, 41, 724, 725, 727, 42, 728, 729, 731, 43, 732, 733, 735, 44, 736, 353, 354, 355] (by decide +kernel)
set_option maxRecDepth 20000 in
theorem tgd_r12 : wsL_law_r12.all goodWord = true := by decide +kernel
set_option maxRecDepth 20000 in
theorem tin_r13 : ∀ w ∈ wsL_law_r13, w ∈ lw_tbl := mem_pl [356, 357, 358, 359, 360, 737, 738, 739, 740, 741, 743, 45, 744, 361, 362, 363, 364, 365, 366, 367, 368, 369, 370, 371] (by decide +kernel)
set_option maxRecDepth 20000 in
theorem tgd_r13 : wsL_law_r13.all goodWord = true := by decide +kernel
set_option maxRecDepth 20000 in
theorem tin_r14 : ∀ w ∈ wsL_law_r14, w ∈ lw_tbl := mem_pl [372, 745, 746, 747, 748, 373, 374, 375, 376, 377, 378, 379, 380, 381, 382, 383, 384, 386, 15, 387, 388, 389, 77, 390] (by decide +kernel)
set_option maxRecDepth 20000 in
theorem tgd_r14 : wsL_law_r14.all goodWord = true := by decide +kernel
set_option maxRecDepth 20000 in
theorem tin_r15 : ∀ w ∈ wsL_law_r15, w ∈ lw_tbl := mem_pl [391, 392, 393, 749, 750, 751, 752, 753, 755, 46, 756, 757, 759, 47, 760, 394, 395, 396, 397, 398, 399, 400, 401, 761] (by decide +kernel)
set_option maxRecDepth 20000 in
theorem tgd_r15 : wsL_law_r15.all goodWord = true := by decide +kernel
set_option maxRecDepth 20000 in
theorem tin_r16 : ∀ w ∈ wsL_law_r16, w ∈ lw_tbl := mem_pl [762, 763, 764, 402, 403, 404, 405, 406, 407, 408, 409, 410, 412, 16, 413, 414, 416, 17, 417, 418, 420, 18, 421, 422] (by decide +kernel)
set_option maxRecDepth 20000 in
theorem tgd_r16 : wsL_law_r16.all goodWord = true := by decide +kernel
set_option maxRecDepth 20000 in
theorem tin_r17 : ∀ w ∈ wsL_law_r17, w ∈ lw_tbl := mem_pl [424, 19, 425, 765, 766, 767, 768, 769, 771, 48, 772, 773, 775, 49, 776, 777, 778, 779, 780, 782, 50, 783, 426, 427] (by decide +kernel)
set_option maxRecDepth 20000 in
theorem tgd_r17 : wsL_law_r17.all goodWord = true := by decide +kernel
set_option maxRecDepth 20000 in
theorem tin_r18 : ∀ w ∈ wsL_law_r18, w ∈ lw_tbl := mem_pl [428, 429, 430, 431, 432, 433, 434, 435, 436, 437, 784, 785, 786, 787, 788, 790, 51, 791, 792, 794, 52, 795, 438, 439] (by decide +kernel)
set_option maxRecDepth 20000 in
theorem tgd_r18 : wsL_law_r18.all goodWord = true := by decide +kernel
set_option maxRecDepth 20000 in
theorem tin_r19 : ∀ w ∈ wsL_law_r19, w ∈ lw_tbl := mem_pl [440, 441, 442, 443, 444, 445, 796, 797, 798, 799, 446, 447, 448, 449, 127, 450, 451, 452, 453, 454, 455, 800, 801, 802] (by decide +kernel)
set_option maxRecDepth 20000 in
theorem tgd_r19 : wsL_law_r19.all goodWord = true := by decide +kernel
set_option maxRecDepth 20000 in
theorem tin_r20 : ∀ w ∈ wsL_law_r20, w ∈ lw_tbl := mem_pl [803, 456, 457, 458, 459, 460, 461, 462, 463, 107, 464, 465, 466, 467, 804, 805, 806, 807, 808, 810, 53, 811, 468, 469] (by decide +kernel)
set_option maxRecDepth 20000 in
theorem tgd_r20 : wsL_law_r20.all goodWord = true := by decide +kernel
set_option maxRecDepth 20000 in
theorem tin_r21 : ∀ w ∈ wsL_law_r21, w ∈ lw_tbl := mem_pl [470, 471, 197, 472, 473, 474, 475, 476, 477, 478, 479, 480, 482, 20, 483, 812, 813, 814, 815, 625, 816, 818, 54, 819] (by decide +kernel)
set_option maxRecDepth 20000 in
theorem tgd_r21 : wsL_law_r21.all goodWord = true := by decide +kernel
set_option maxRecDepth 20000 in
theorem tin_r22 : ∀ w ∈ wsL_law_r22, w ∈ lw_tbl := mem_pl [484, 485, 486, 487, 488, 489, 490, 491, 820, 821, 822, 823, 492, 493, 494, 495, 496, 497, 498, 499, 824, 825, 826, 827] (by decide +kernel)
set_option maxRecDepth 20000 in
theorem tgd_r22 : wsL_law_r22.all goodWord = true := by decide +kernel
set_option maxRecDepth 20000 in
theorem tin_r23 : ∀ w ∈ wsL_law_r23, w ∈ lw_tbl := mem_pl [828, 830, 55, 831, 500, 501, 502, 503, 504, 505, 506, 507, 508, 509, 511, 21, 512, 513, 514, 515, 516, 517, 832, 833] (by decide +kernel)
set_option maxRecDepth 20000 in
theorem tgd_r23 : wsL_law_r23.all goodWord = true := by decide +kernel
set_option maxRecDepth 20000 in
theorem tin_r24 : ∀ w ∈ wsL_law_r24, w ∈ lw_tbl := mem_pl [834, 835, 836, 838, 56, 839, 840, 842, 57, 843, 844, 846, 58, 847, 848, 850, 59, 851, 852, 854, 60, 855, 518, 519] (by decide +kernel)
set_option maxRecDepth 20000 in
theorem tgd_r24 : wsL_law_r24.all goodWord = true := by decide +kernel
set_option maxRecDepth 20000 in
theorem tin_r25 : ∀ w ∈ wsL_law_r25, w ∈ lw_tbl := mem_pl [520, 521, 100, 522, 856, 857, 858, 859, 523, 524, 525, 526, 860, 861, 862, 863, 527, 528, 529, 530, 531, 532, 533, 534] (by decide +kernel)
set_option maxRecDepth 20000 in
theorem tgd_r25 : wsL_law_r25.all goodWord = true := by decide +kernel
set_option maxRecDepth 20000 in
theorem tin_r26 : ∀ w ∈ wsL_law_r26, w ∈ lw_tbl := mem_pl [535, 536, 537, 864, 865, 866, 867, 868, 538, 539, 540, 541, 869, 870, 871, 872, 542, 543, 544, 545, 546, 548, 22, 549] (by decide +kernel)
set_option maxRecDepth 20000 in
theorem tgd_r26 : wsL_law_r26.all goodWord = true := by decide +kernel
set_option maxRecDepth 20000 in
theorem tin_r27 : ∀ w ∈ wsL_law_r27, w ∈ lw_tbl := mem_pl [550, 551, 552, 553, 172, 554, 555, 556, 557, 558, 560, 23, 561, 562, 563, 564, 565, 175, 566, 568, 24, 569, 173, 570] (by decide +kernel)
set_option maxRecDepth 20000 in
theorem tgd_r27 : wsL_law_r27.all goodWord = true := by decide +kernel
set_option maxRecDepth 20000 in
theorem tin_r28 : ∀ w ∈ wsL_law_r28, w ∈ lw_tbl := mem_pl [572, 25, 573, 574, 576, 26, 577, 578, 580, 27, 581, 582, 584, 28, 585, 177, 586, 873, 874, 875, 876, 877, 879, 61] (by decide +kernel)
set_option maxRecDepth 20000 in
theorem tgd_r28 : wsL_law_r28.all goodWord = true := by decide +kernel
set_option maxRecDepth 20000 in
theorem tin_r29 : ∀ w ∈ wsL_law_r29, w ∈ lw_tbl := mem_pl [880, 629, 628, 630, 881, 883, 62, 884, 885, 887, 63, 888, 889, 891, 64, 892, 893, 895, 65, 896, 897, 899, 66, 900] (by decide +kernel)
set_option maxRecDepth 20000 in
theorem tgd_r29 : wsL_law_r29.all goodWord = true := by decide +kernel
set_option maxRecDepth 20000 in
theorem tin_r30 : ∀ w ∈ wsL_law_r30, w ∈ lw_tbl := mem_pl [901, 903, 67, 904, 587, 588, 589, 590, 591, 593, 29, 594, 595, 597, 30, 598, 176, 174, 178, 905, 906, 907, 908, 909] (by decide +kernel)
set_option maxRecDepth 20000 in
theorem tgd_r30 : wsL_law_r30.all goodWord = true := by decide +kernel
set_option maxRecDepth 20000 in
theorem tin_r31 : ∀ w ∈ wsL_law_r31, w ∈ lw_tbl := mem_pl [911, 68, 912, 913, 914, 915, 916, 917, 918, 919, 599, 600, 601, 602, 920, 921, 922, 923, 603, 604, 605, 606, 195, 121] (by decide +kernel)
set_option maxRecDepth 20000 in
theorem tgd_r31 : wsL_law_r31.all goodWord = true := by decide +kernel
set_option maxRecDepth 20000 in
theorem tin_r32 : ∀ w ∈ wsL_law_r32, w ∈ lw_tbl := mem_pl [924, 925, 926, 927, 607, 608, 609, 610, 611, 928, 929, 930, 931] (by decide +kernel)
set_option maxRecDepth 20000 in
theorem tgd_r32 : wsL_law_r32.all goodWord = true := by decide +kernel
set_option maxRecDepth 20000 in
theorem tin_wsX30 : ∀ w ∈ wsX30, w ∈ lw_tbl := mem_pl [199, 201, 203, 205, 207, 209, 211, 213, 215, 217] (by decide +kernel)
set_option maxRecDepth 20000 in
theorem tgd_wsX30 : wsX30.all goodWord = true := by decide +kernel
set_option maxRecDepth 20000 in
theorem tin_wsX40 : ∀ w ∈ wsX40, w ∈ lw_tbl := mem_pl [631, 633, 635, 637, 639, 641, 643, 645, 647, 649, 651, 653, 655] (by decide +kernel)
set_option maxRecDepth 20000 in
theorem tgd_wsX40 : wsX40.all goodWord = true := by decide +kernel
set_option maxRecDepth 20000 in
theorem tin_wsX20 : ∀ w ∈ wsX20, w ∈ lw_tbl := mem_pl [136, 138, 140, 142, 144, 146, 148, 150, 152, 154, 156, 158, 160, 162] (by decide +kernel)
set_option maxRecDepth 20000 in
theorem tgd_wsX20 : wsX20.all goodWord = true := by decide +kernel
set_option maxRecDepth 20000 in
theorem tin_wsX00 : ∀ w ∈ wsX00, w ∈ lw_tbl := mem_pl [179, 181, 183, 185] (by decide +kernel)
set_option maxRecDepth 20000 in
theorem tgd_wsX00 : wsX00.all goodWord = true := by decide +kernel
set_option maxRecDepth 20000 in
theorem tin_wsX10 : ∀ w ∈ wsX10, w ∈ lw_tbl := mem_pl [108, 110, 112, 114, 116] (by decide +kernel)
set_option maxRecDepth 20000 in
theorem tgd_wsX10 : wsX10.all goodWord = true := by decide +kernel
abbrev GW : List Cond := wsL_law
theorem GW_in : ∀ w ∈ GW, w ∈ lw_tbl := List.forall_mem_append.mpr ⟨List.forall_mem_append.mpr ⟨List.forall_mem_append.mpr ⟨List.forall_mem_append.mpr ⟨List.forall_mem_append.mpr ⟨List.forall_mem_append.mpr ⟨List.forall_mem_append.mpr ⟨tin_r1, List.forall_mem_append.mpr ⟨tin_r2, List.forall_mem_append.mpr ⟨tin_r3, List.forall_mem_append.mpr ⟨tin_r4, List.forall_mem_append.mpr ⟨tin_r5, List.forall_mem_append.mpr ⟨tin_r6, List.forall_mem_append.mpr ⟨tin_r7, List.forall_mem_append.mpr ⟨tin_r8, List.forall_mem_append.mpr ⟨tin_r9, List.forall_mem_append.mpr ⟨tin_r10, List.forall_mem_append.mpr ⟨tin_r11, List.forall_mem_append.mpr ⟨tin_r12, List.forall_mem_append.mpr ⟨tin_r13, List.forall_mem_append.mpr ⟨tin_r14, List.forall_mem_append.mpr ⟨tin_r15, List.forall_mem_append.mpr ⟨tin_r16, List.forall_mem_append.mpr ⟨tin_r17, List.forall_mem_append.mpr ⟨tin_r18, List.forall_mem_append.mpr ⟨tin_r19, List.forall_mem_append.mpr ⟨tin_r20, List.forall_mem_append.mpr ⟨tin_r21, List.forall_mem_append.mpr ⟨tin_r22, List.forall_mem_append.mpr ⟨tin_r23, List.forall_mem_append.mpr ⟨tin_r24, List.forall_mem_append.mpr ⟨tin_r25, List.forall_mem_append.mpr ⟨tin_r26, List.forall_mem_append.mpr ⟨tin_r27, List.forall_mem_append.mpr ⟨tin_r28, List.forall_mem_append.mpr ⟨tin_r29, List.forall_mem_append.mpr ⟨tin_r30, List.forall_mem_append.mpr ⟨tin_r31, tin_r32⟩⟩⟩⟩⟩⟩⟩⟩⟩⟩⟩⟩⟩⟩⟩⟩⟩⟩⟩⟩⟩⟩⟩⟩⟩⟩⟩⟩⟩⟩⟩, tin_wsX30⟩, tin_wsX40⟩, tin_wsX20⟩, tin_wsX00⟩, tin_wsX10⟩, fun _ h => absurd h List.not_mem_nil⟩
theorem all_app {a b : List Cond} (ha : a.all goodWord = true) (hb : b.all goodWord = true) : (a ++ b).all goodWord = true := by rw [List.all_append, ha, hb]; rfl
theorem GW_gd : GW.all goodWord = true := all_app (all_app (all_app (all_app (all_app (all_app (all_app (tgd_r1) (all_app (tgd_r2) (all_app (tgd_r3) (all_app (tgd_r4) (all_app (tgd_r5) (all_app (tgd_r6) (all_app (tgd_r7) (all_app (tgd_r8) (all_app (tgd_r9) (all_app (tgd_r10) (all_app (tgd_r11) (all_app (tgd_r12) (all_app (tgd_r13) (all_app (tgd_r14) (all_app (tgd_r15) (all_app (tgd_r16) (all_app (tgd_r17) (all_app (tgd_r18) (all_app (tgd_r19) (all_app (tgd_r20) (all_app (tgd_r21) (all_app (tgd_r22) (all_app (tgd_r23) (all_app (tgd_r24) (all_app (tgd_r25) (all_app (tgd_r26) (all_app (tgd_r27) (all_app (tgd_r28) (all_app (tgd_r29) (all_app (tgd_r30) (all_app (tgd_r31) (tgd_r32)))))))))))))))))))))))))))))))) (tgd_wsX30)) (tgd_wsX40)) (tgd_wsX20)) (tgd_wsX00)) (tgd_wsX10)) rfl
theorem inG_r1 : ∀ w ∈ wsL_law_r1, w ∈ GW := fun _ h => List.mem_append_left _ (List.mem_append_left _ (List.mem_append_left _ (List.mem_append_left _ (List.mem_append_left _ (List.mem_append_left _ (List.mem_append_left _ h))))))
theorem inG_r2 : ∀ w ∈ wsL_law_r2, w ∈ GW := fun _ h => List.mem_append_left _ (List.mem_append_left _ (List.mem_append_left _ (List.mem_append_left _ (List.mem_append_left _ (List.mem_append_left _ (List.mem_append_right _ (List.mem_append_left _ h)))))))
theorem inG_r3 : ∀ w ∈ wsL_law_r3, w ∈ GW := fun _ h => List.mem_append_left _ (List.mem_append_left _ (List.mem_append_left _ (List.mem_append_left _ (List.mem_append_left _ (List.mem_append_left _ (List.mem_append_right _ (List.mem_append_right _ (List.mem_append_left _ h))))))))
theorem inG_r4 : ∀ w ∈ wsL_law_r4, w ∈ GW := fun _ h => List.mem_append_left _ (List.mem_append_left _ (List.mem_append_left _ (List.mem_append_left _ (List.mem_append_left _ (List.mem_append_left _ (List.mem_append_right _ (List.mem_append_right _ (List.mem_append_right _ (List.mem_append_left _ h)))))))))
theorem inG_r5 : ∀ w ∈ wsL_law_r5, w ∈ GW := fun _ h => List.mem_append_left _ (List.mem_append_left _ (List.mem_append_left _ (List.mem_append_left _ (List.mem_append_left _ (List.mem_append_left _ (List.mem_append_right _ (List.mem_append_right _ (List.mem_append_right _ (List.mem_append_right _ (List.mem_append_left _ h))))))))))
theorem inG_r6 : ∀ w ∈ wsL_law_r6, w ∈ GW := fun _ h => List.mem_append_left _ (List.mem_append_left _ (List.mem_append_left _ (List.mem_append_left _ (List.mem_append_left _ (List.mem_append_left _ (List.mem_append_right _ (List.mem_append_right _ (List.mem_append_right _ (List.mem_append_right _ (List.mem_append_right _ (List.mem_append_left _ h)))))))))))
theorem inG_r7 : ∀ w ∈ wsL_law_r7, w ∈ GW := fun _ h => List.mem_append_left _ (List.mem_append_left _ (List.mem_append_left _ (List.mem_append_left _ (List.mem_append_left _ (List.mem_append_left _ (List.mem_append_right _ (List.mem_append_right _ (List.mem_append_right _ (List.mem_append_right _ (List.mem_append_right _ (List.mem_append_right _ (List.mem_append_left _ h))))))))))))
theorem inG_r8 : ∀ w ∈ wsL_law_r8, w ∈ GW := fun _ h => List.mem_append_left _ (List.mem_append_left _ (List.mem_append_left _ (List.mem_append_left _ (List.mem_append_left _ (List.mem_append_left _ (List.mem_append_right _ (List.mem_append_right _ (List.mem_append_right _ (List.mem_append_right _ (List.mem_append_right _ (List.mem_append_right _ (List.mem_append_right _ (List.mem_append_left _ h)))))))))))))
theorem inG_r9 : ∀ w ∈ wsL_law_r9, w ∈ GW := fun _ h => List.mem_append_left _ (List.mem_append_left _ (List.mem_append_left _ (List.mem_append_left _ (List.mem_append_left _ (List.mem_append_left _ (List.mem_append_right _ (List.mem_append_right _ (List.mem_append_right _ (List.mem_append_right _ (List.mem_append_right _ (List.mem_append_right _ (List.mem_append_right _ (List.mem_append_right _ (List.mem_append_left _ h))))))))))))))
theorem inG_r10 : ∀ w ∈ wsL_law_r10, w ∈ GW := fun _ h => List.mem_append_left _ (List.mem_append_left _ (List.mem_append_left _ (List.mem_append_left _ (List.mem_append_left _ (List.mem_append_left _ (List.mem_append_right _ (List.mem_append_right _ (List.mem_append_right _ (List.mem_append_right _ (List.mem_append_right _ (List.mem_append_right _ (List.mem_append_right _ (List.mem_append_right _ (List.mem_append_right _ (List.mem_append_left _ h)))))))))))))))
theorem inG_r11 : ∀ w ∈ wsL_law_r11, w ∈ GW := fun _ h => List.mem_append_left _ (List.mem_append_left _ (List.mem_append_left _ (List.mem_append_left _ (List.mem_append_left _ (List.mem_append_left _ (List.mem_append_right _ (List.mem_append_right _ (List.mem_append_right _ (List.mem_append_right _ (List.mem_append_right _ (List.mem_append_right _ (List.mem_append_right _ (List.mem_append_right _ (List.mem_append_right _ (List.mem_append_right _ (List.mem_append_left _ h))))))))))))))))
theorem inG_r12 : ∀ w ∈ wsL_law_r12, w ∈ GW := fun _ h => List.mem_append_left _ (List.mem_append_left _ (List.mem_append_left _ (List.mem_append_left _ (List.mem_append_left _ (List.mem_append_left _ (List.mem_append_right _ (List.mem_append_right _ (List.mem_append_right _ (List.mem_append_right _ (List.mem_append_right _ (List.mem_append_right _ (List.mem_append_right _ (List.mem_append_right _ (List.mem_append_right _ (List.mem_append_right _ (List.mem_append_right _ (List.mem_append_left _ h)))))))))))))))))
theorem inG_r13 : ∀ w ∈ wsL_law_r13, w ∈ GW := fun _ h => List.mem_append_left _ (List.mem_append_left _ (List.mem_append_left _ (List.mem_append_left _ (List.mem_append_left _ (List.mem_append_left _ (List.mem_append_right _ (List.mem_append_right _ (List.mem_append_right _ (List.mem_append_right _ (List.mem_append_right _ (List.mem_append_right _ (List.mem_append_right _ (List.mem_append_right _ (List.mem_append_right _ (List.mem_append_right _ (List.mem_append_right _ (List.mem_append_right _ (List.mem_append_left _ h))))))))))))))))))
theorem inG_r14 : ∀ w ∈ wsL_law_r14, w ∈ GW := fun _ h => List.mem_append_left _ (List.mem_append_left _ (List.mem_append_left _ (List.mem_append_left _ (List.mem_append_left _ (List.mem_append_left _ (List.mem_append_right _ (List.mem_append_right _ (List.mem_append_right _ (List.mem_append_right _ (List.mem_append_right _ (List.mem_append_right _ (List.mem_append_right _ (List.mem_append_right _ (List.mem_append_right _ (List.mem_append_right _ (List.mem_append_right _ (List.mem_append_right _ (List.mem_append_right _ (List.mem_append_left _ h)))))))))))))))))))
theorem inG_r15 : ∀ w ∈ wsL_law_r15, w ∈ GW := fun _ h => List.mem_append_left _ (List.mem_append_left _ (List.mem_append_left _ (List.mem_append_left _ (List.mem_append_left _ (List.mem_append_left _ (List.mem_append_right _ (List.mem_append_right _ (List.mem_append_right _ (List.mem_append_right _ (List.mem_append_right _ (List.mem_append_right _ (List.mem_append_right _ (List.mem_append_right _ (List.mem_append_right _ (List.mem_append_right _ (List.mem_append_right _ (List.mem_append_right _ (List.mem_append_right _ (List.mem_append_right _ (List.mem_append_left _ h))))))))))))))))))))
theorem inG_r16 : ∀ w ∈ wsL_law_r16, w ∈ GW := fun _ h => List.mem_append_left _ (List.mem_append_left _ (List.mem_append_left _ (List.mem_append_left _ (List.mem_append_left _ (List.mem_append_left _ (List.mem_append_right _ (List.mem_append_right _ (List.mem_append_right _ (List.mem_append_right _ (List.mem_append_right _ (List.mem_append_right _ (List.mem_append_right _ (List.mem_append_right _ (List.mem_append_right _ (List.mem_append_right _ (List.mem_append_right _ (List.mem_append_right _ (List.mem_append_right _ (List.mem_append_right _ (List.mem_append_right _ (List.mem_append_left _ h)))))))))))))))))))))
theorem inG_r17 : ∀ w ∈ wsL_law_r17, w ∈ GW := fun _ h => List.mem_append_left _ (List.mem_append_left _ (List.mem_append_left _ (List.mem_append_left _ (List.mem_append_left _ (List.mem_append_left _ (List.mem_append_right _ (List.mem_append_right _ (List.mem_append_right _ (List.mem_append_right _ (List.mem_append_right _ (List.mem_append_right _ (List.mem_append_right _ (List.mem_append_right _ (List.mem_append_right _ (List.mem_append_right _ (List.mem_append_right _ (List.mem_append_right _ (List.mem_append_right _ (List.mem_append_right _ (List.mem_append_right _ (List.mem_append_right _ (List.mem_append_left _ h))))))))))))))))))))))
theorem inG_r18 : ∀ w ∈ wsL_law_r18, w ∈ GW := fun _ h => List.mem_append_left _ (List.mem_append_left _ (List.mem_append_left _ (List.mem_append_left _ (List.mem_append_left _ (List.mem_append_left _ (List.mem_append_right _ (List.mem_append_right _ (List.mem_append_right _ (List.mem_append_right _ (List.mem_append_right _ (List.mem_append_right _ (List.mem_append_right _ (List.mem_append_right _ (List.mem_append_right _ (List.mem_append_right _ (List.mem_append_right _ (List.mem_append_right _ (List.mem_append_right _ (List.mem_append_right _ (List.mem_append_right _ (List.mem_append_right _ (List.mem_append_right _ (List.mem_append_left _ h)))))))))))))))))))))))
theorem inG_r19 : ∀ w ∈ wsL_law_r19, w ∈ GW := fun _ h => List.mem_append_left _ (List.mem_append_left _ (List.mem_append_left _ (List.mem_append_left _ (List.mem_append_left _ (List.mem_append_left _ (List.mem_append_right _ (List.mem_append_right _ (List.mem_append_right _ (List.mem_append_right _ (List.mem_append_right _ (List.mem_append_right _ (List.mem_append_right _ (List.mem_append_right _ (List.mem_append_right _ (List.mem_append_right _ (List.mem_append_right _ (List.mem_append_right _ (List.mem_append_right _ (List.mem_append_right _ (List.mem_append_right _ (List.mem_append_right _ (List.mem_append_right _ (List.mem_append_right _ (List.mem_append_left _ h))))))))))))))))))))))))
theorem inG_r20 : ∀ w ∈ wsL_law_r20, w ∈ GW := fun _ h => List.mem_append_left _ (List.mem_append_left _ (List.mem_append_left _ (List.mem_append_left _ (List.mem_append_left _ (List.mem_append_left _ (List.mem_append_right _ (List.mem_append_right _ (List.mem_append_right _ (List.mem_append_right _ (List.mem_append_right _ (List.mem_append_right _ (List.mem_append_right _ (List.mem_append_right _ (List.mem_append_right _ (List.mem_append_right _ (List.mem_append_right _ (List.mem_append_right _ (List.mem_append_right _ (List.mem_append_right _ (List.mem_append_right _ (List.mem_append_right _ (List.mem_append_right _ (List.mem_append_right _ (List.mem_append_right _ (List.mem_append_left _ h)))))))))))))))))))))))))
theorem inG_r21 : ∀ w ∈ wsL_law_r21, w ∈ GW := fun _ h => List.mem_append_left _ (List.mem_append_left _ (List.mem_append_left _ (List.mem_append_left _ (List.mem_append_left _ (List.mem_append_left _ (List.mem_append_right _ (List.mem_append_right _ (List.mem_append_right _ (List.mem_append_right _ (List.mem_append_right _ (List.mem_append_right _ (List.mem_append_right _ (List.mem_append_right _ (List.mem_append_right _ (List.mem_append_right _ (List.mem_append_right _ (List.mem_append_right _ (List.mem_append_right _ (List.mem_append_right _ (List.mem_append_right _ (List.mem_append_right _ (List.mem_append_right _ (List.mem_append_right _ (List.mem_append_right _ (List.mem_append_right _ (List.mem_append_left _ h))))))))))))))))))))))))))
theorem inG_r22 : ∀ w ∈ wsL_law_r22, w ∈ GW := fun _ h => List.mem_append_left _ (List.mem_append_left _ (List.mem_append_left _ (List.mem_append_left _ (List.mem_append_left _ (List.mem_append_left _ (List.mem_append_right _ (List.mem_append_right _ (List.mem_append_right _ (List.mem_append_right _ (List.mem_append_right _ (List.mem_append_right _ (List.mem_append_right _ (List.mem_append_right _ (List.mem_append_right _ (List.mem_append_right _ (List.mem_append_right _ (List.mem_append_right _ (List.mem_append_right _ (List.mem_append_right _ (List.mem_append_right _ (List.mem_append_right _ (List.mem_append_right _ (List.mem_append_right _ (List.mem_append_right _ (List.mem_append_right _ (List.mem_append_right _ (List.mem_append_left _ h)))))))))))))))))))))))))))
theorem inG_r23 : ∀ w ∈ wsL_law_r23, w ∈ GW := fun _ h => List.mem_append_left _ (List.mem_append_left _ (List.mem_append_left _ (List.mem_append_left _ (List.mem_append_left _ (List.mem_append_left _ (List.mem_append_right _ (List.mem_append_right _ (List.mem_append_right _ (List.mem_append_right _ (List.mem_append_right _ (List.mem_append_right _ (List.mem_append_right _ (List.mem_append_right _ (List.mem_append_right _ (List.mem_append_right _ (List.mem_append_right _ (List.mem_append_right _ (List.mem_append_right _ (List.mem_append_right _ (List.mem_append_right _ (List.mem_append_right _ (List.mem_append_right _ (List.mem_append_right _ (List.mem_append_right _ (List.mem_append_right _ (List.mem_append_right _ (List.mem_append_right _ (List.mem_append_left _ h))))))))))))))))))))))))))))
theorem inG_r24 : ∀ w ∈ wsL_law_r24, w ∈ GW := fun _ h => List.mem_append_left _ (List.mem_append_left _ (List.mem_append_left _ (List.mem_append_left _ (List.mem_append_left _ (List.mem_append_left _ (List.mem_append_right _ (List.mem_append_right _ (List.mem_append_right _ (List.mem_append_right _ (List.mem_append_right _ (List.mem_append_right _ (List.mem_append_right _ (List.mem_append_right _ (List.mem_append_right _ (List.mem_append_right _ (List.mem_append_right _ (List.mem_append_right _ (List.mem_append_right _ (List.mem_append_right _ (List.mem_append_right _ (List.mem_append_right _ (List.mem_append_right _ (List.mem_append_right _ (List.mem_append_right _ (List.mem_append_right _ (List.mem_append_right _ (List.mem_append_right _ (List.mem_append_right _ (List.mem_append_left _ h)))))))))))))))))))))))))))))
theorem inG_r25 : ∀ w ∈ wsL_law_r25, w ∈ GW := fun _ h => List.mem_append_left _ (List.mem_append_left _ (List.mem_append_left _ (List.mem_append_left _ (List.mem_append_left _ (List.mem_append_left _ (List.mem_append_right _ (List.mem_append_right _ (List.mem_append_right _ (List.mem_append_right _ (List.mem_append_right _ (List.mem_append_right _ (List.mem_append_right _ (List.mem_append_right _ (List.mem_append_right _ (List.mem_append_right _ (List.mem_append_right _ (List.mem_append_right _ (List.mem_append_right _ (List.mem_append_right _ (List.mem_append_right _ (List.mem_append_right _ (List.mem_append_right _ (List.mem_append_right _ (List.mem_append_right _ (List.mem_append_right _ (List.mem_append_right _ (List.mem_append_right _ (List.mem_append_right _ (List.mem_append_right _ (List.mem_append_left _ h))))))))))))))))))))))))))))))
theorem inG_r26 : ∀ w ∈ wsL_law_r26, w ∈ GW := fun _ h => List.mem_append_left _ (List.mem_append_left _ (List.mem_append_left _ (List.mem_append_left _ (List.mem_append_left _ (List.mem_append_left _ (List.mem_append_right _ (List.mem_append_right _ (List.mem_append_right _ (List.mem_append_right _ (List.mem_append_right _ (List.mem_append_right _ (List.mem_append_right _ (List.mem_append_right _ (List.mem_append_right _ (List.mem_append_right _ (List.mem_append_right _ (List.mem_append_right _ (List.mem_append_right _ (List.mem_append_right _ (List.mem_append_right _ (List.mem_append_right _ (List.mem_append_right _ (List.mem_append_right _ (List.mem_append_right _ (List.mem_append_right _ (List.mem_append_right _ (List.mem_append_right _ (List.mem_append_right _ (List.mem_append_right _ (List.mem_append_right _ (List.mem_append_left _ h)))))))))))))))))))))))))))))))
theorem inG_r27 : ∀ w ∈ wsL_law_r27, w ∈ GW := fun _ h => List.mem_append_left _ (List.mem_append_left _ (List.mem_append_left _ (List.mem_append_left _ (List.mem_append_left _ (List.mem_append_left _ (List.mem_append_right _ (List.mem_append_right _ (List.mem_append_right _ (List.mem_append_right _ (List.mem_append_right _ (List.mem_append_right _ (List.mem_append_right _ (List.mem_append_right _ (List.mem_append_right _ (List.mem_append_right _ (List.mem_append_right _ (List.mem_append_right _ (List.mem_append_right _ (List.mem_append_right _ (List.mem_append_right _ (List.mem_append_right _ (List.mem_append_right _ (List.mem_append_right _ (List.mem_append_right _ (List.mem_append_right _ (List.mem_append_right _ (List.mem_append_right _ (List.mem_append_right _ (List.mem_append_right _ (List.mem_append_right _ (List.mem_append_right _ (List.mem_append_left _ h))))))))))))))))))))))))))))))))
theorem inG_r28 : ∀ w ∈ wsL_law_r28, w ∈ GW := fun _ h => List.mem_append_left _ (List.mem_append_left _ (List.mem_append_left _ (List.mem_append_left _ (List.mem_append_left _ (List.mem_append_left _ (List.mem_append_right _ (List.mem_append_right _ (List.mem_append_right _ (List.mem_append_right _ (List.mem_append_right _ (List.mem_append_right _ (List.mem_append_right _ (List.mem_append_right _ (List.mem_append_right _ (List.mem_append_right _ (List.mem_append_right _ (List.mem_append_right _ (List.mem_append_right _ (List.mem_append_right _ (List.mem_append_right _ (List.mem_append_right _ (List.mem_append_right _ (List.mem_append_right _ (List.mem_append_right _ (List.mem_append_right _ (List.mem_append_right _ (List.mem_append_right _ (List.mem_append_right _ (List.mem_append_right _ (List.mem_append_right _ (List.mem_append_right _ (List.mem_append_right _ (List.mem_append_left _ h)))))))))))))))))))))))))))))))))
theorem inG_r29 : ∀ w ∈ wsL_law_r29, w ∈ GW := fun _ h => List.mem_append_left _ (List.mem_append_left _ (List.mem_append_left _ (List.mem_append_left _ (List.mem_append_left _ (List.mem_append_left _ (List.mem_append_right _ (List.mem_append_right _ (List.mem_append_right _ (List.mem_append_right _ (List.mem_append_right _ (List.mem_append_right _ (List.mem_append_right _ (List.mem_append_right _ (List.mem_append_right _ (List.mem_append_right _ (List.mem_append_right _ (List.mem_append_right _ (List.mem_append_right _ (List.mem_append_right _ (List.mem_append_right _ (List.mem_append_right _ (List.mem_append_right _ (List.mem_append_right _ (List.mem_append_right _ (List.mem_append_right _ (List.mem_append_right _ (List.mem_append_right _ (List.mem_append_right _ (List.mem_append_right _ (List.mem_append_right _ (List.mem_append_right _ (List.mem_append_right _ (List.mem_append_right _ (List.mem_append_left _ h))))))))))))))))))))))))))))))))))
theorem inG_r30 : ∀ w ∈ wsL_law_r30, w ∈ GW := fun _ h => List.mem_append_left _ (List.mem_append_left _ (List.mem_append_left _ (List.mem_append_left _ (List.mem_append_left _ (List.mem_append_left _ (List.mem_append_right _ (List.mem_append_right _ (List.mem_append_right _ (List.mem_append_right _ (List.mem_append_right _ (List.mem_append_right _ (List.mem_append_right _ (List.mem_append_right _ (List.mem_append_right _ (List.mem_append_right _ (List.mem_append_right _ (List.mem_append_right _ (List.mem_append_right _ (List.mem_append_right _ (List.mem_append_right _ (List.mem_append_right _ (List.mem_append_right _ (List.mem_append_right _ (List.mem_append_right _ (List.mem_append_right _ (List.mem_append_right _ (List.mem_append_right _ (List.mem_append_right _ (List.mem_append_right _ (List.mem_append_right _ (List.mem_append_right _ (List.mem_append_right _ (List.mem_append_right _ (List.mem_append_right _ (List.mem_append_left _ h)))))))))))))))))))))))))))))))))))
theorem inG_r31 : ∀ w ∈ wsL_law_r31, w ∈ GW := fun _ h => List.mem_append_left _ (List.mem_append_left _ (List.mem_append_left _ (List.mem_append_left _ (List.mem_append_left _ (List.mem_append_left _ (List.mem_append_right _ (List.mem_append_right _ (List.mem_append_right _ (List.mem_append_right _ (List.mem_append_right _ (List.mem_append_right _ (List.mem_append_right _ (List.mem_append_right _ (List.mem_append_right _ (List.mem_append_right _ (List.mem_append_right _ (List.mem_append_right _ (List.mem_append_right _ (List.mem_append_right _ (List.mem_append_right _ (List.mem_append_right _ (List.mem_append_right _ (List.mem_append_right _ (List.mem_append_right _ (List.mem_append_right _ (List.mem_append_right _ (List.mem_append_right _ (List.mem_append_right _ (List.mem_append_right _ (List.mem_append_right _ (List.mem_append_right _ (List.mem_append_right _ (List.mem_append_right _ (List.mem_append_right _ (List.mem_append_right _ (List.mem_append_left _ h))))))))))))))))))))))))))))))))))))
theorem inG_r32 : ∀ w ∈ wsL_law_r32, w ∈ GW := fun _ h => List.mem_append_left _ (List.mem_append_left _ (List.mem_append_left _ (List.mem_append_left _ (List.mem_append_left _ (List.mem_append_left _ (List.mem_append_right _ (List.mem_append_right _ (List.mem_append_right _ (List.mem_append_right _ (List.mem_append_right _ (List.mem_append_right _ (List.mem_append_right _ (List.mem_append_right _ (List.mem_append_right _ (List.mem_append_right _ (List.mem_append_right _ (List.mem_append_right _ (List.mem_append_right _ (List.mem_append_right _ (List.mem_append_right _ (List.mem_append_right _ (List.mem_append_right _ (List.mem_append_right _ (List.mem_append_right _ (List.mem_append_right _ (List.mem_append_right _ (List.mem_append_right _ (List.mem_append_right _ (List.mem_append_right _ (List.mem_append_right _ (List.mem_append_right _ (List.mem_append_right _ (List.mem_append_right _ (List.mem_append_right _ (List.mem_append_right _ (List.mem_append_right _ h))))))))))))))))))))))))))))))))))))
theorem mw_1_0 : Cond.classLink RL 7 RX3 ∈ GW := inG_r1 _ (List.mem_of_getElem? (i := 0) rfl)
theorem mw_1_1 : Cond.instantiable RX3 10 ∈ GW := inG_r1 _ (List.mem_of_getElem? (i := 1) rfl)
theorem mw_1_2 : Cond.initialized RX3 ∈ GW := inG_r1 _ (List.mem_of_getElem? (i := 2) rfl)
theorem mw_1_3 : Cond.classLink RL 10 RX4 ∈ GW := inG_r1 _ (List.mem_of_getElem? (i := 3) rfl)
theorem mw_1_4 : Cond.instantiable RX4 13 ∈ GW := inG_r1 _ (List.mem_of_getElem? (i := 4) rfl)
theorem mw_1_5 : Cond.initialized RX4 ∈ GW := inG_r1 _ (List.mem_of_getElem? (i := 5) rfl)
theorem mw_1_6 : Cond.constantLong RL 91 (4294967295) ∈ GW := inG_r1 _ (List.mem_of_getElem? (i := 6) rfl)
theorem mw_1_7 : Cond.methodLink RL 9 yX3_init ∈ GW := inG_r1 _ (List.mem_of_getElem? (i := 7) rfl)
theorem mw_1_8 : Cond.instanceMethod yX3_init ∈ GW := inG_r1 _ (List.mem_of_getElem? (i := 8) rfl)
theorem mw_1_9 : Cond.code yX3_init cX3_init 2 none ∈ GW := inG_r1 _ (List.mem_of_getElem? (i := 9) rfl)
theorem mw_1_10 : Cond.methodLink RX3 1 objectInit ∈ GW := inG_r1 _ (List.mem_of_getElem? (i := 10) rfl)
theorem mw_1_11 : Cond.instanceMethod objectInit ∈ GW := inG_r1 _ (List.mem_of_getElem? (i := 11) rfl)
theorem mw_1_12 : Cond.code objectInit ⟨#[0xb1]⟩ 1 none ∈ GW := inG_r1 _ (List.mem_of_getElem? (i := 12) rfl)
theorem mw_1_13 : Cond.classLink RX3 7 RX2 ∈ GW := inG_r1 _ (List.mem_of_getElem? (i := 13) rfl)
theorem mw_1_14 : Cond.instantiable RX2 14 ∈ GW := inG_r1 _ (List.mem_of_getElem? (i := 14) rfl)
theorem mw_1_15 : Cond.initialized RX2 ∈ GW := inG_r1 _ (List.mem_of_getElem? (i := 15) rfl)
theorem mw_1_16 : Cond.fieldLink RX3 10 "ClerkVotes" "now" "LClerkVotes$State;" ∈ GW := inG_r1 _ (List.mem_of_getElem? (i := 16) rfl)
theorem mw_1_17 : Cond.fieldLink RX3 16 "ClerkVotes" "trial" "LClerkVotes$State;" ∈ GW := inG_r1 _ (List.mem_of_getElem? (i := 17) rfl)
theorem mw_1_18 : Cond.fieldLink RX3 19 "ClerkVotes" "history" "[LClerkVotes$State;" ∈ GW := inG_r1 _ (List.mem_of_getElem? (i := 18) rfl)
theorem mw_1_19 : Cond.fieldLink RX3 23 "ClerkVotes" "slots" "[LClerkVotes$State;" ∈ GW := inG_r1 _ (List.mem_of_getElem? (i := 19) rfl)
theorem mw_1_20 : Cond.arrayClass .char ∈ GW := inG_r1 _ (List.mem_of_getElem? (i := 20) rfl)
theorem mw_1_21 : Cond.fieldLink RX3 26 "ClerkVotes" "pad" "[C" ∈ GW := inG_r1 _ (List.mem_of_getElem? (i := 21) rfl)
theorem mw_1_22 : Cond.classLink RX3 30 RX0 ∈ GW := inG_r1 _ (List.mem_of_getElem? (i := 22) rfl)
theorem mw_1_23 : Cond.instantiable RX0 4 ∈ GW := inG_r1 _ (List.mem_of_getElem? (i := 23) rfl)
theorem mw_2_0 : Cond.initialized RX0 ∈ GW := inG_r2 _ (List.mem_of_getElem? (i := 0) rfl)
theorem mw_2_1 : Cond.fieldLink RX3 33 "ClerkVotes" "reader" "LClerkVotes$OrderReader;" ∈ GW := inG_r2 _ (List.mem_of_getElem? (i := 1) rfl)
theorem mw_2_2 : Cond.instanceMethod yX2_init ∈ GW := inG_r2 _ (List.mem_of_getElem? (i := 2) rfl)
theorem mw_2_3 : Cond.code yX2_init cX2_init 1 none ∈ GW := inG_r2 _ (List.mem_of_getElem? (i := 3) rfl)
theorem mw_2_4 : Cond.methodLink RX2 3 objectInit ∈ GW := inG_r2 _ (List.mem_of_getElem? (i := 4) rfl)
theorem mw_2_5 : Cond.arrayClass .int ∈ GW := inG_r2 _ (List.mem_of_getElem? (i := 5) rfl)
theorem mw_2_6 : Cond.fieldLink RX2 9 "ClerkVotes$State" "settings" "[I" ∈ GW := inG_r2 _ (List.mem_of_getElem? (i := 6) rfl)
theorem mw_2_7 : Cond.classLink RX2 15 RX1 ∈ GW := inG_r2 _ (List.mem_of_getElem? (i := 7) rfl)
theorem mw_2_8 : Cond.instantiable RX1 5 ∈ GW := inG_r2 _ (List.mem_of_getElem? (i := 8) rfl)
theorem mw_2_9 : Cond.initialized RX1 ∈ GW := inG_r2 _ (List.mem_of_getElem? (i := 9) rfl)
theorem mw_2_10 : Cond.fieldLink RX2 18 "ClerkVotes$State" "row" "LClerkVotes$Row;" ∈ GW := inG_r2 _ (List.mem_of_getElem? (i := 10) rfl)
theorem mw_2_11 : Cond.fieldLink RX2 22 "ClerkVotes$State" "clerksOf" "[I" ∈ GW := inG_r2 _ (List.mem_of_getElem? (i := 11) rfl)
theorem mw_2_12 : Cond.fieldLink RX2 25 "ClerkVotes$State" "forBetween" "[I" ∈ GW := inG_r2 _ (List.mem_of_getElem? (i := 12) rfl)
theorem mw_2_13 : Cond.fieldLink RX2 28 "ClerkVotes$State" "openedIn" "[I" ∈ GW := inG_r2 _ (List.mem_of_getElem? (i := 13) rfl)
theorem mw_2_14 : Cond.fieldLink RX2 31 "ClerkVotes$State" "postSince" "[I" ∈ GW := inG_r2 _ (List.mem_of_getElem? (i := 14) rfl)
theorem mw_2_15 : Cond.fieldLink RX2 34 "ClerkVotes$State" "votes" "[I" ∈ GW := inG_r2 _ (List.mem_of_getElem? (i := 15) rfl)
theorem mw_2_16 : Cond.fieldLink RX2 37 "ClerkVotes$State" "receipts" "[I" ∈ GW := inG_r2 _ (List.mem_of_getElem? (i := 16) rfl)
theorem mw_2_17 : Cond.fieldLink RX2 40 "ClerkVotes$State" "standing" "[I" ∈ GW := inG_r2 _ (List.mem_of_getElem? (i := 17) rfl)
theorem mw_2_18 : Cond.fieldLink RX2 43 "ClerkVotes$State" "readySince" "[I" ∈ GW := inG_r2 _ (List.mem_of_getElem? (i := 18) rfl)
theorem mw_2_19 : Cond.instanceMethod yX1_init ∈ GW := inG_r2 _ (List.mem_of_getElem? (i := 19) rfl)
theorem mw_2_20 : Cond.code yX1_init cX1_init 1 none ∈ GW := inG_r2 _ (List.mem_of_getElem? (i := 20) rfl)
theorem mw_2_21 : Cond.methodLink RX1 3 objectInit ∈ GW := inG_r2 _ (List.mem_of_getElem? (i := 21) rfl)
theorem mw_2_22 : Cond.fieldLink RX1 9 "ClerkVotes$Row" "parts" "[I" ∈ GW := inG_r2 _ (List.mem_of_getElem? (i := 22) rfl)
theorem mw_2_23 : Cond.fieldLink RX1 15 "ClerkVotes$Row" "deliveredTo" "[I" ∈ GW := inG_r2 _ (List.mem_of_getElem? (i := 23) rfl)
theorem mw_3_0 : Cond.fieldLink RX1 18 "ClerkVotes$Row" "sentBy" "[I" ∈ GW := inG_r3 _ (List.mem_of_getElem? (i := 0) rfl)
theorem mw_3_1 : Cond.instanceMethod yX0_init ∈ GW := inG_r3 _ (List.mem_of_getElem? (i := 1) rfl)
theorem mw_3_2 : Cond.code yX0_init cX0_init 1 none ∈ GW := inG_r3 _ (List.mem_of_getElem? (i := 2) rfl)
theorem mw_3_3 : Cond.methodLink RX0 3 objectInit ∈ GW := inG_r3 _ (List.mem_of_getElem? (i := 3) rfl)
theorem mw_3_4 : Cond.methodLink RL 12 yX4_init ∈ GW := inG_r3 _ (List.mem_of_getElem? (i := 4) rfl)
theorem mw_3_5 : Cond.instanceMethod yX4_init ∈ GW := inG_r3 _ (List.mem_of_getElem? (i := 5) rfl)
theorem mw_3_6 : Cond.code yX4_init cX4_init 2 none ∈ GW := inG_r3 _ (List.mem_of_getElem? (i := 6) rfl)
theorem mw_3_7 : Cond.methodLink RX4 1 objectInit ∈ GW := inG_r3 _ (List.mem_of_getElem? (i := 7) rfl)
theorem mw_3_8 : Cond.fieldLink RX4 7 "ClerkVotesModel" "now" "[I" ∈ GW := inG_r3 _ (List.mem_of_getElem? (i := 8) rfl)
theorem mw_3_9 : Cond.fieldLink RX4 13 "ClerkVotesModel" "kept" "[I" ∈ GW := inG_r3 _ (List.mem_of_getElem? (i := 9) rfl)
theorem mw_3_10 : Cond.fieldLink RX4 16 "ClerkVotesModel" "history" "[I" ∈ GW := inG_r3 _ (List.mem_of_getElem? (i := 10) rfl)
theorem mw_3_11 : Cond.fieldLink RX4 19 "ClerkVotesModel" "saved" "[I" ∈ GW := inG_r3 _ (List.mem_of_getElem? (i := 11) rfl)
theorem mw_3_12 : Cond.arrayClass .boolean ∈ GW := inG_r3 _ (List.mem_of_getElem? (i := 12) rfl)
theorem mw_3_13 : Cond.fieldLink RX4 22 "ClerkVotesModel" "isSaved" "[Z" ∈ GW := inG_r3 _ (List.mem_of_getElem? (i := 13) rfl)
theorem mw_3_14 : Cond.fieldLink RX4 26 "ClerkVotesModel" "pad" "[I" ∈ GW := inG_r3 _ (List.mem_of_getElem? (i := 14) rfl)
theorem mw_3_15 : Cond.fieldLink RX4 29 "ClerkVotesModel" "orders" "[I" ∈ GW := inG_r3 _ (List.mem_of_getElem? (i := 15) rfl)
theorem mw_3_16 : Cond.methodLink RL 13 yX3_set ∈ GW := inG_r3 _ (List.mem_of_getElem? (i := 16) rfl)
theorem mw_3_17 : Cond.instanceMethod yX3_set ∈ GW := inG_r3 _ (List.mem_of_getElem? (i := 17) rfl)
theorem mw_3_18 : Cond.selects RX3 yX3_set yX3_set ∈ GW := inG_r3 _ (List.mem_of_getElem? (i := 18) rfl)
theorem mw_3_19 : Cond.code yX3_set cX3_set 3 (some .int) ∈ GW := inG_r3 _ (List.mem_of_getElem? (i := 19) rfl)
theorem mw_3_20 : Cond.methodLink RX3 37 yX3_noteStateBefore ∈ GW := inG_r3 _ (List.mem_of_getElem? (i := 20) rfl)
theorem mw_3_21 : Cond.instanceMethod yX3_noteStateBefore ∈ GW := inG_r3 _ (List.mem_of_getElem? (i := 21) rfl)
theorem mw_3_22 : Cond.selects RX3 yX3_noteStateBefore yX3_noteStateBefore ∈ GW := inG_r3 _ (List.mem_of_getElem? (i := 22) rfl)
theorem mw_3_23 : Cond.code yX3_noteStateBefore cX3_noteStateBefore 1 none ∈ GW := inG_r3 _ (List.mem_of_getElem? (i := 23) rfl)
theorem mw_4_0 : Cond.fieldLink RX3 138 "ClerkVotes" "nextInHistory" "I" ∈ GW := inG_r4 _ (List.mem_of_getElem? (i := 0) rfl)
theorem mw_4_1 : Cond.methodLink RX3 110 yX2_copyFrom ∈ GW := inG_r4 _ (List.mem_of_getElem? (i := 1) rfl)
theorem mw_4_2 : Cond.instanceMethod yX2_copyFrom ∈ GW := inG_r4 _ (List.mem_of_getElem? (i := 2) rfl)
theorem mw_4_3 : Cond.selects RX2 yX2_copyFrom yX2_copyFrom ∈ GW := inG_r4 _ (List.mem_of_getElem? (i := 3) rfl)
theorem mw_4_4 : Cond.code yX2_copyFrom cX2_copyFrom 2 none ∈ GW := inG_r4 _ (List.mem_of_getElem? (i := 4) rfl)
theorem mw_4_5 : Cond.fieldLink RX2 46 "ClerkVotes$State" "tick" "I" ∈ GW := inG_r4 _ (List.mem_of_getElem? (i := 5) rfl)
theorem mw_4_6 : Cond.fieldLink RX2 50 "ClerkVotes$State" "illOnes" "I" ∈ GW := inG_r4 _ (List.mem_of_getElem? (i := 6) rfl)
theorem mw_4_7 : Cond.fieldLink RX2 53 "ClerkVotes$State" "unwillingOnes" "I" ∈ GW := inG_r4 _ (List.mem_of_getElem? (i := 7) rfl)
theorem mw_4_8 : Cond.fieldLink RX2 56 "ClerkVotes$State" "deals" "I" ∈ GW := inG_r4 _ (List.mem_of_getElem? (i := 8) rfl)
theorem mw_4_9 : Cond.methodLink RX2 59 arraycopyName ∈ GW := inG_r4 _ (List.mem_of_getElem? (i := 9) rfl)
theorem mw_4_10 : Cond.native arraycopyName ∈ GW := inG_r4 _ (List.mem_of_getElem? (i := 10) rfl)
theorem mw_4_11 : Cond.static arraycopyName ∈ GW := inG_r4 _ (List.mem_of_getElem? (i := 11) rfl)
theorem mw_4_12 : Cond.initialized "java/lang/System" ∈ GW := inG_r4 _ (List.mem_of_getElem? (i := 12) rfl)
theorem mw_4_13 : Cond.methodLink RX2 65 yX1_copyFrom ∈ GW := inG_r4 _ (List.mem_of_getElem? (i := 13) rfl)
theorem mw_4_14 : Cond.instanceMethod yX1_copyFrom ∈ GW := inG_r4 _ (List.mem_of_getElem? (i := 14) rfl)
theorem mw_4_15 : Cond.selects RX1 yX1_copyFrom yX1_copyFrom ∈ GW := inG_r4 _ (List.mem_of_getElem? (i := 15) rfl)
theorem mw_4_16 : Cond.code yX1_copyFrom cX1_copyFrom 2 none ∈ GW := inG_r4 _ (List.mem_of_getElem? (i := 16) rfl)
theorem mw_4_17 : Cond.fieldLink RX1 21 "ClerkVotes$Row" "length" "I" ∈ GW := inG_r4 _ (List.mem_of_getElem? (i := 17) rfl)
theorem mw_4_18 : Cond.fieldLink RX1 25 "ClerkVotes$Row" "lost" "I" ∈ GW := inG_r4 _ (List.mem_of_getElem? (i := 18) rfl)
theorem mw_4_19 : Cond.methodLink RX1 28 arraycopyName ∈ GW := inG_r4 _ (List.mem_of_getElem? (i := 19) rfl)
theorem mw_4_20 : Cond.methodLink RX3 40 yX2_changeSetting ∈ GW := inG_r4 _ (List.mem_of_getElem? (i := 20) rfl)
theorem mw_4_21 : Cond.instanceMethod yX2_changeSetting ∈ GW := inG_r4 _ (List.mem_of_getElem? (i := 21) rfl)
theorem mw_4_22 : Cond.selects RX2 yX2_changeSetting yX2_changeSetting ∈ GW := inG_r4 _ (List.mem_of_getElem? (i := 22) rfl)
theorem mw_4_23 : Cond.code yX2_changeSetting cX2_changeSetting 4 (some .int) ∈ GW := inG_r4 _ (List.mem_of_getElem? (i := 23) rfl)
theorem mw_5_0 : Cond.methodLink RX3 44 yX3_recorded ∈ GW := inG_r5 _ (List.mem_of_getElem? (i := 0) rfl)
theorem mw_5_1 : Cond.instanceMethod yX3_recorded ∈ GW := inG_r5 _ (List.mem_of_getElem? (i := 1) rfl)
theorem mw_5_2 : Cond.selects RX3 yX3_recorded yX3_recorded ∈ GW := inG_r5 _ (List.mem_of_getElem? (i := 2) rfl)
theorem mw_5_3 : Cond.code yX3_recorded cX3_recorded 2 (some .int) ∈ GW := inG_r5 _ (List.mem_of_getElem? (i := 3) rfl)
theorem mw_5_4 : Cond.fieldLink RX3 94 "ClerkVotes" "undoable" "I" ∈ GW := inG_r5 _ (List.mem_of_getElem? (i := 4) rfl)
theorem mw_5_5 : Cond.methodLink RX3 151 Lib.Math.min.name ∈ GW := inG_r5 _ (List.mem_of_getElem? (i := 5) rfl)
theorem mw_5_6 : Cond.static Lib.Math.min.name ∈ GW := inG_r5 _ (List.mem_of_getElem? (i := 6) rfl)
theorem mw_5_7 : Cond.initialized "java/lang/Math" ∈ GW := inG_r5 _ (List.mem_of_getElem? (i := 7) rfl)
theorem mw_5_8 : Cond.code Lib.Math.min.name Lib.Math.min.code 2 (some .int) ∈ GW := inG_r5 _ (List.mem_of_getElem? (i := 8) rfl)
theorem mw_5_9 : Cond.methodLink RL 17 yX4_set ∈ GW := inG_r5 _ (List.mem_of_getElem? (i := 9) rfl)
theorem mw_5_10 : Cond.instanceMethod yX4_set ∈ GW := inG_r5 _ (List.mem_of_getElem? (i := 10) rfl)
theorem mw_5_11 : Cond.selects RX4 yX4_set yX4_set ∈ GW := inG_r5 _ (List.mem_of_getElem? (i := 11) rfl)
theorem mw_5_12 : Cond.code yX4_set cX4_set 4 (some .int) ∈ GW := inG_r5 _ (List.mem_of_getElem? (i := 12) rfl)
theorem mw_5_13 : Cond.methodLink RX4 95 yX4_in ∈ GW := inG_r5 _ (List.mem_of_getElem? (i := 13) rfl)
theorem mw_5_14 : Cond.static yX4_in ∈ GW := inG_r5 _ (List.mem_of_getElem? (i := 14) rfl)
theorem mw_5_15 : Cond.code yX4_in cX4_in 3 (some .boolean) ∈ GW := inG_r5 _ (List.mem_of_getElem? (i := 15) rfl)
theorem mw_5_16 : Cond.methodLink RX4 99 yX4_record ∈ GW := inG_r5 _ (List.mem_of_getElem? (i := 16) rfl)
theorem mw_5_17 : Cond.instanceMethod yX4_record ∈ GW := inG_r5 _ (List.mem_of_getElem? (i := 17) rfl)
theorem mw_5_18 : Cond.selects RX4 yX4_record yX4_record ∈ GW := inG_r5 _ (List.mem_of_getElem? (i := 18) rfl)
theorem mw_5_19 : Cond.code yX4_record cX4_record 2 none ∈ GW := inG_r5 _ (List.mem_of_getElem? (i := 19) rfl)
theorem mw_5_20 : Cond.fieldLink RX4 32 "ClerkVotesModel" "isInText" "Z" ∈ GW := inG_r5 _ (List.mem_of_getElem? (i := 20) rfl)
theorem mw_5_21 : Cond.fieldLink RX4 36 "ClerkVotesModel" "undos" "I" ∈ GW := inG_r5 _ (List.mem_of_getElem? (i := 21) rfl)
theorem mw_5_22 : Cond.methodLink RL 18 yX3_willing ∈ GW := inG_r5 _ (List.mem_of_getElem? (i := 22) rfl)
theorem mw_5_23 : Cond.instanceMethod yX3_willing ∈ GW := inG_r5 _ (List.mem_of_getElem? (i := 23) rfl)
theorem mw_6_0 : Cond.selects RX3 yX3_willing yX3_willing ∈ GW := inG_r6 _ (List.mem_of_getElem? (i := 0) rfl)
theorem mw_6_1 : Cond.code yX3_willing cX3_willing 3 (some .int) ∈ GW := inG_r6 _ (List.mem_of_getElem? (i := 1) rfl)
theorem mw_6_2 : Cond.methodLink RX3 48 yX2_makeWilling ∈ GW := inG_r6 _ (List.mem_of_getElem? (i := 2) rfl)
theorem mw_6_3 : Cond.instanceMethod yX2_makeWilling ∈ GW := inG_r6 _ (List.mem_of_getElem? (i := 3) rfl)
theorem mw_6_4 : Cond.selects RX2 yX2_makeWilling yX2_makeWilling ∈ GW := inG_r6 _ (List.mem_of_getElem? (i := 4) rfl)
theorem mw_6_5 : Cond.code yX2_makeWilling cX2_makeWilling 4 (some .int) ∈ GW := inG_r6 _ (List.mem_of_getElem? (i := 5) rfl)
theorem mw_6_6 : Cond.methodLink RX2 83 yX2_isClerk ∈ GW := inG_r6 _ (List.mem_of_getElem? (i := 6) rfl)
theorem mw_6_7 : Cond.static yX2_isClerk ∈ GW := inG_r6 _ (List.mem_of_getElem? (i := 7) rfl)
theorem mw_6_8 : Cond.code yX2_isClerk cX2_isClerk 1 (some .boolean) ∈ GW := inG_r6 _ (List.mem_of_getElem? (i := 8) rfl)
theorem mw_6_9 : Cond.static yX3_isIn ∈ GW := inG_r6 _ (List.mem_of_getElem? (i := 9) rfl)
theorem mw_6_10 : Cond.code yX3_isIn cX3_isIn 2 (some .boolean) ∈ GW := inG_r6 _ (List.mem_of_getElem? (i := 10) rfl)
theorem mw_6_11 : Cond.methodLink RL 21 yX4_willing ∈ GW := inG_r6 _ (List.mem_of_getElem? (i := 11) rfl)
theorem mw_6_12 : Cond.instanceMethod yX4_willing ∈ GW := inG_r6 _ (List.mem_of_getElem? (i := 12) rfl)
theorem mw_6_13 : Cond.selects RX4 yX4_willing yX4_willing ∈ GW := inG_r6 _ (List.mem_of_getElem? (i := 13) rfl)
theorem mw_6_14 : Cond.code yX4_willing cX4_willing 4 (some .int) ∈ GW := inG_r6 _ (List.mem_of_getElem? (i := 14) rfl)
theorem mw_6_15 : Cond.methodLink RL 22 yX3_open ∈ GW := inG_r6 _ (List.mem_of_getElem? (i := 15) rfl)
theorem mw_6_16 : Cond.instanceMethod yX3_open ∈ GW := inG_r6 _ (List.mem_of_getElem? (i := 16) rfl)
theorem mw_6_17 : Cond.selects RX3 yX3_open yX3_open ∈ GW := inG_r6 _ (List.mem_of_getElem? (i := 17) rfl)
theorem mw_6_18 : Cond.code yX3_open cX3_open 2 (some .int) ∈ GW := inG_r6 _ (List.mem_of_getElem? (i := 18) rfl)
theorem mw_6_19 : Cond.methodLink RX3 51 yX2_openDeal ∈ GW := inG_r6 _ (List.mem_of_getElem? (i := 19) rfl)
theorem mw_6_20 : Cond.instanceMethod yX2_openDeal ∈ GW := inG_r6 _ (List.mem_of_getElem? (i := 20) rfl)
theorem mw_6_21 : Cond.selects RX2 yX2_openDeal yX2_openDeal ∈ GW := inG_r6 _ (List.mem_of_getElem? (i := 21) rfl)
theorem mw_6_22 : Cond.code yX2_openDeal cX2_openDeal 3 (some .int) ∈ GW := inG_r6 _ (List.mem_of_getElem? (i := 22) rfl)
theorem mw_6_23 : Cond.methodLink RX2 87 yX2_isIll ∈ GW := inG_r6 _ (List.mem_of_getElem? (i := 23) rfl)
theorem mw_7_0 : Cond.instanceMethod yX2_isIll ∈ GW := inG_r7 _ (List.mem_of_getElem? (i := 0) rfl)
theorem mw_7_1 : Cond.selects RX2 yX2_isIll yX2_isIll ∈ GW := inG_r7 _ (List.mem_of_getElem? (i := 1) rfl)
theorem mw_7_2 : Cond.code yX2_isIll cX2_isIll 2 (some .boolean) ∈ GW := inG_r7 _ (List.mem_of_getElem? (i := 2) rfl)
theorem mw_7_3 : Cond.methodLink RX2 90 yX2_sendToClerks ∈ GW := inG_r7 _ (List.mem_of_getElem? (i := 3) rfl)
theorem mw_7_4 : Cond.instanceMethod yX2_sendToClerks ∈ GW := inG_r7 _ (List.mem_of_getElem? (i := 4) rfl)
theorem mw_7_5 : Cond.selects RX2 yX2_sendToClerks yX2_sendToClerks ∈ GW := inG_r7 _ (List.mem_of_getElem? (i := 5) rfl)
theorem mw_7_6 : Cond.code yX2_sendToClerks cX2_sendToClerks 6 none ∈ GW := inG_r7 _ (List.mem_of_getElem? (i := 6) rfl)
theorem mw_7_7 : Cond.methodLink RX2 130 yX1_send ∈ GW := inG_r7 _ (List.mem_of_getElem? (i := 7) rfl)
theorem mw_7_8 : Cond.instanceMethod yX1_send ∈ GW := inG_r7 _ (List.mem_of_getElem? (i := 8) rfl)
theorem mw_7_9 : Cond.selects RX1 yX1_send yX1_send ∈ GW := inG_r7 _ (List.mem_of_getElem? (i := 9) rfl)
theorem mw_7_10 : Cond.code yX1_send cX1_send 6 none ∈ GW := inG_r7 _ (List.mem_of_getElem? (i := 10) rfl)
theorem mw_7_11 : Cond.methodLink RL 26 yX4_open ∈ GW := inG_r7 _ (List.mem_of_getElem? (i := 11) rfl)
theorem mw_7_12 : Cond.instanceMethod yX4_open ∈ GW := inG_r7 _ (List.mem_of_getElem? (i := 12) rfl)
theorem mw_7_13 : Cond.selects RX4 yX4_open yX4_open ∈ GW := inG_r7 _ (List.mem_of_getElem? (i := 13) rfl)
theorem mw_7_14 : Cond.code yX4_open cX4_open 3 (some .int) ∈ GW := inG_r7 _ (List.mem_of_getElem? (i := 14) rfl)
theorem mw_7_15 : Cond.methodLink RX4 73 yX4_isIll ∈ GW := inG_r7 _ (List.mem_of_getElem? (i := 15) rfl)
theorem mw_7_16 : Cond.instanceMethod yX4_isIll ∈ GW := inG_r7 _ (List.mem_of_getElem? (i := 16) rfl)
theorem mw_7_17 : Cond.selects RX4 yX4_isIll yX4_isIll ∈ GW := inG_r7 _ (List.mem_of_getElem? (i := 17) rfl)
theorem mw_7_18 : Cond.code yX4_isIll cX4_isIll 2 (some .boolean) ∈ GW := inG_r7 _ (List.mem_of_getElem? (i := 18) rfl)
theorem mw_7_19 : Cond.methodLink RX4 52 yX4_book ∈ GW := inG_r7 _ (List.mem_of_getElem? (i := 19) rfl)
theorem mw_7_20 : Cond.instanceMethod yX4_book ∈ GW := inG_r7 _ (List.mem_of_getElem? (i := 20) rfl)
theorem mw_7_21 : Cond.selects RX4 yX4_book yX4_book ∈ GW := inG_r7 _ (List.mem_of_getElem? (i := 21) rfl)
theorem mw_7_22 : Cond.code yX4_book cX4_book 4 none ∈ GW := inG_r7 _ (List.mem_of_getElem? (i := 22) rfl)
theorem mw_7_23 : Cond.methodLink RX4 56 yX4_sendAll ∈ GW := inG_r7 _ (List.mem_of_getElem? (i := 23) rfl)
theorem mw_8_0 : Cond.instanceMethod yX4_sendAll ∈ GW := inG_r8 _ (List.mem_of_getElem? (i := 0) rfl)
theorem mw_8_1 : Cond.selects RX4 yX4_sendAll yX4_sendAll ∈ GW := inG_r8 _ (List.mem_of_getElem? (i := 1) rfl)
theorem mw_8_2 : Cond.code yX4_sendAll cX4_sendAll 6 none ∈ GW := inG_r8 _ (List.mem_of_getElem? (i := 2) rfl)
theorem mw_8_3 : Cond.methodLink RX4 44 yX4_has ∈ GW := inG_r8 _ (List.mem_of_getElem? (i := 3) rfl)
theorem mw_8_4 : Cond.static yX4_has ∈ GW := inG_r8 _ (List.mem_of_getElem? (i := 4) rfl)
theorem mw_8_5 : Cond.code yX4_has cX4_has 2 (some .boolean) ∈ GW := inG_r8 _ (List.mem_of_getElem? (i := 5) rfl)
theorem mw_8_6 : Cond.methodLink RX4 48 yX4_send ∈ GW := inG_r8 _ (List.mem_of_getElem? (i := 6) rfl)
theorem mw_8_7 : Cond.instanceMethod yX4_send ∈ GW := inG_r8 _ (List.mem_of_getElem? (i := 7) rfl)
theorem mw_8_8 : Cond.selects RX4 yX4_send yX4_send ∈ GW := inG_r8 _ (List.mem_of_getElem? (i := 8) rfl)
theorem mw_8_9 : Cond.code yX4_send cX4_send 6 none ∈ GW := inG_r8 _ (List.mem_of_getElem? (i := 9) rfl)
theorem mw_8_10 : Cond.methodLink RL 27 yX3_deliver ∈ GW := inG_r8 _ (List.mem_of_getElem? (i := 10) rfl)
theorem mw_8_11 : Cond.instanceMethod yX3_deliver ∈ GW := inG_r8 _ (List.mem_of_getElem? (i := 11) rfl)
theorem mw_8_12 : Cond.selects RX3 yX3_deliver yX3_deliver ∈ GW := inG_r8 _ (List.mem_of_getElem? (i := 12) rfl)
theorem mw_8_13 : Cond.code yX3_deliver cX3_deliver 2 (some .int) ∈ GW := inG_r8 _ (List.mem_of_getElem? (i := 13) rfl)
theorem mw_8_14 : Cond.methodLink RX3 54 yX2_handOver ∈ GW := inG_r8 _ (List.mem_of_getElem? (i := 14) rfl)
theorem mw_8_15 : Cond.instanceMethod yX2_handOver ∈ GW := inG_r8 _ (List.mem_of_getElem? (i := 15) rfl)
theorem mw_8_16 : Cond.selects RX2 yX2_handOver yX2_handOver ∈ GW := inG_r8 _ (List.mem_of_getElem? (i := 16) rfl)
theorem mw_8_17 : Cond.code yX2_handOver cX2_handOver 6 (some .int) ∈ GW := inG_r8 _ (List.mem_of_getElem? (i := 17) rfl)
theorem mw_8_18 : Cond.fieldLink RX2 101 "ClerkVotes$Row" "lost" "I" ∈ GW := inG_r8 _ (List.mem_of_getElem? (i := 18) rfl)
theorem mw_8_19 : Cond.fieldLink RX2 104 "ClerkVotes$Row" "length" "I" ∈ GW := inG_r8 _ (List.mem_of_getElem? (i := 19) rfl)
theorem mw_8_20 : Cond.fieldLink RX2 136 "ClerkVotes$Row" "deliveredTo" "[I" ∈ GW := inG_r8 _ (List.mem_of_getElem? (i := 20) rfl)
theorem mw_8_21 : Cond.methodLink RX2 94 yX1_has ∈ GW := inG_r8 _ (List.mem_of_getElem? (i := 21) rfl)
theorem mw_8_22 : Cond.instanceMethod yX1_has ∈ GW := inG_r8 _ (List.mem_of_getElem? (i := 22) rfl)
theorem mw_8_23 : Cond.selects RX1 yX1_has yX1_has ∈ GW := inG_r8 _ (List.mem_of_getElem? (i := 23) rfl)
theorem mw_9_0 : Cond.code yX1_has cX1_has 2 (some .boolean) ∈ GW := inG_r9 _ (List.mem_of_getElem? (i := 0) rfl)
theorem mw_9_1 : Cond.methodLink RX2 133 yX1_part ∈ GW := inG_r9 _ (List.mem_of_getElem? (i := 1) rfl)
theorem mw_9_2 : Cond.instanceMethod yX1_part ∈ GW := inG_r9 _ (List.mem_of_getElem? (i := 2) rfl)
theorem mw_9_3 : Cond.selects RX1 yX1_part yX1_part ∈ GW := inG_r9 _ (List.mem_of_getElem? (i := 3) rfl)
theorem mw_9_4 : Cond.code yX1_part cX1_part 3 (some .int) ∈ GW := inG_r9 _ (List.mem_of_getElem? (i := 4) rfl)
theorem mw_9_5 : Cond.methodLink RX2 97 yX1_remove ∈ GW := inG_r9 _ (List.mem_of_getElem? (i := 5) rfl)
theorem mw_9_6 : Cond.instanceMethod yX1_remove ∈ GW := inG_r9 _ (List.mem_of_getElem? (i := 6) rfl)
theorem mw_9_7 : Cond.selects RX1 yX1_remove yX1_remove ∈ GW := inG_r9 _ (List.mem_of_getElem? (i := 7) rfl)
theorem mw_9_8 : Cond.code yX1_remove cX1_remove 3 none ∈ GW := inG_r9 _ (List.mem_of_getElem? (i := 8) rfl)
theorem mw_9_9 : Cond.methodLink RX2 139 yX2_vote ∈ GW := inG_r9 _ (List.mem_of_getElem? (i := 9) rfl)
theorem mw_9_10 : Cond.instanceMethod yX2_vote ∈ GW := inG_r9 _ (List.mem_of_getElem? (i := 10) rfl)
theorem mw_9_11 : Cond.selects RX2 yX2_vote yX2_vote ∈ GW := inG_r9 _ (List.mem_of_getElem? (i := 11) rfl)
theorem mw_9_12 : Cond.code yX2_vote cX2_vote 3 none ∈ GW := inG_r9 _ (List.mem_of_getElem? (i := 12) rfl)
theorem mw_9_13 : Cond.methodLink RX2 123 yX2_stands ∈ GW := inG_r9 _ (List.mem_of_getElem? (i := 13) rfl)
theorem mw_9_14 : Cond.instanceMethod yX2_stands ∈ GW := inG_r9 _ (List.mem_of_getElem? (i := 14) rfl)
theorem mw_9_15 : Cond.selects RX2 yX2_stands yX2_stands ∈ GW := inG_r9 _ (List.mem_of_getElem? (i := 15) rfl)
theorem mw_9_16 : Cond.code yX2_stands cX2_stands 4 (some .boolean) ∈ GW := inG_r9 _ (List.mem_of_getElem? (i := 16) rfl)
theorem mw_9_17 : Cond.methodLink RX2 73 yX2_whoStand ∈ GW := inG_r9 _ (List.mem_of_getElem? (i := 17) rfl)
theorem mw_9_18 : Cond.instanceMethod yX2_whoStand ∈ GW := inG_r9 _ (List.mem_of_getElem? (i := 18) rfl)
theorem mw_9_19 : Cond.selects RX2 yX2_whoStand yX2_whoStand ∈ GW := inG_r9 _ (List.mem_of_getElem? (i := 19) rfl)
theorem mw_9_20 : Cond.code yX2_whoStand cX2_whoStand 3 (some .int) ∈ GW := inG_r9 _ (List.mem_of_getElem? (i := 20) rfl)
theorem mw_9_21 : Cond.methodLink RX2 127 yX2_move ∈ GW := inG_r9 _ (List.mem_of_getElem? (i := 21) rfl)
theorem mw_9_22 : Cond.instanceMethod yX2_move ∈ GW := inG_r9 _ (List.mem_of_getElem? (i := 22) rfl)
theorem mw_9_23 : Cond.selects RX2 yX2_move yX2_move ∈ GW := inG_r9 _ (List.mem_of_getElem? (i := 23) rfl)
theorem mw_10_0 : Cond.code yX2_move cX2_move 5 none ∈ GW := inG_r10 _ (List.mem_of_getElem? (i := 0) rfl)
theorem mw_10_1 : Cond.methodLink RX2 142 yX2_takeYes ∈ GW := inG_r10 _ (List.mem_of_getElem? (i := 1) rfl)
theorem mw_10_2 : Cond.instanceMethod yX2_takeYes ∈ GW := inG_r10 _ (List.mem_of_getElem? (i := 2) rfl)
theorem mw_10_3 : Cond.selects RX2 yX2_takeYes yX2_takeYes ∈ GW := inG_r10 _ (List.mem_of_getElem? (i := 3) rfl)
theorem mw_10_4 : Cond.code yX2_takeYes cX2_takeYes 3 none ∈ GW := inG_r10 _ (List.mem_of_getElem? (i := 4) rfl)
theorem mw_10_5 : Cond.methodLink RX2 157 yX2_answerAsBetween ∈ GW := inG_r10 _ (List.mem_of_getElem? (i := 5) rfl)
theorem mw_10_6 : Cond.instanceMethod yX2_answerAsBetween ∈ GW := inG_r10 _ (List.mem_of_getElem? (i := 6) rfl)
theorem mw_10_7 : Cond.selects RX2 yX2_answerAsBetween yX2_answerAsBetween ∈ GW := inG_r10 _ (List.mem_of_getElem? (i := 7) rfl)
theorem mw_10_8 : Cond.code yX2_answerAsBetween cX2_answerAsBetween 3 none ∈ GW := inG_r10 _ (List.mem_of_getElem? (i := 8) rfl)
theorem mw_10_9 : Cond.methodLink RX2 145 yX2_takeNo ∈ GW := inG_r10 _ (List.mem_of_getElem? (i := 9) rfl)
theorem mw_10_10 : Cond.instanceMethod yX2_takeNo ∈ GW := inG_r10 _ (List.mem_of_getElem? (i := 10) rfl)
theorem mw_10_11 : Cond.selects RX2 yX2_takeNo yX2_takeNo ∈ GW := inG_r10 _ (List.mem_of_getElem? (i := 11) rfl)
theorem mw_10_12 : Cond.code yX2_takeNo cX2_takeNo 3 none ∈ GW := inG_r10 _ (List.mem_of_getElem? (i := 12) rfl)
theorem mw_10_13 : Cond.methodLink RX2 148 yX2_postFor ∈ GW := inG_r10 _ (List.mem_of_getElem? (i := 13) rfl)
theorem mw_10_14 : Cond.instanceMethod yX2_postFor ∈ GW := inG_r10 _ (List.mem_of_getElem? (i := 14) rfl)
theorem mw_10_15 : Cond.selects RX2 yX2_postFor yX2_postFor ∈ GW := inG_r10 _ (List.mem_of_getElem? (i := 15) rfl)
theorem mw_10_16 : Cond.code yX2_postFor cX2_postFor 3 none ∈ GW := inG_r10 _ (List.mem_of_getElem? (i := 16) rfl)
theorem mw_10_17 : Cond.methodLink RX2 151 yX2_tearFor ∈ GW := inG_r10 _ (List.mem_of_getElem? (i := 17) rfl)
theorem mw_10_18 : Cond.instanceMethod yX2_tearFor ∈ GW := inG_r10 _ (List.mem_of_getElem? (i := 18) rfl)
theorem mw_10_19 : Cond.selects RX2 yX2_tearFor yX2_tearFor ∈ GW := inG_r10 _ (List.mem_of_getElem? (i := 19) rfl)
theorem mw_10_20 : Cond.code yX2_tearFor cX2_tearFor 3 none ∈ GW := inG_r10 _ (List.mem_of_getElem? (i := 20) rfl)
theorem mw_10_21 : Cond.methodLink RX2 154 yX2_takeReceipt ∈ GW := inG_r10 _ (List.mem_of_getElem? (i := 21) rfl)
theorem mw_10_22 : Cond.instanceMethod yX2_takeReceipt ∈ GW := inG_r10 _ (List.mem_of_getElem? (i := 22) rfl)
theorem mw_10_23 : Cond.selects RX2 yX2_takeReceipt yX2_takeReceipt ∈ GW := inG_r10 _ (List.mem_of_getElem? (i := 23) rfl)
theorem mw_11_0 : Cond.code yX2_takeReceipt cX2_takeReceipt 3 none ∈ GW := inG_r11 _ (List.mem_of_getElem? (i := 0) rfl)
theorem mw_11_1 : Cond.methodLink RX2 160 yX2_answerAsElder ∈ GW := inG_r11 _ (List.mem_of_getElem? (i := 1) rfl)
theorem mw_11_2 : Cond.instanceMethod yX2_answerAsElder ∈ GW := inG_r11 _ (List.mem_of_getElem? (i := 2) rfl)
theorem mw_11_3 : Cond.selects RX2 yX2_answerAsElder yX2_answerAsElder ∈ GW := inG_r11 _ (List.mem_of_getElem? (i := 3) rfl)
theorem mw_11_4 : Cond.code yX2_answerAsElder cX2_answerAsElder 4 none ∈ GW := inG_r11 _ (List.mem_of_getElem? (i := 4) rfl)
theorem mw_11_5 : Cond.methodLink RL 30 yX4_deliver ∈ GW := inG_r11 _ (List.mem_of_getElem? (i := 5) rfl)
theorem mw_11_6 : Cond.instanceMethod yX4_deliver ∈ GW := inG_r11 _ (List.mem_of_getElem? (i := 6) rfl)
theorem mw_11_7 : Cond.selects RX4 yX4_deliver yX4_deliver ∈ GW := inG_r11 _ (List.mem_of_getElem? (i := 7) rfl)
theorem mw_11_8 : Cond.code yX4_deliver cX4_deliver 2 (some .int) ∈ GW := inG_r11 _ (List.mem_of_getElem? (i := 8) rfl)
theorem mw_11_9 : Cond.methodLink RX4 102 yX4_isMessage ∈ GW := inG_r11 _ (List.mem_of_getElem? (i := 9) rfl)
theorem mw_11_10 : Cond.instanceMethod yX4_isMessage ∈ GW := inG_r11 _ (List.mem_of_getElem? (i := 10) rfl)
theorem mw_11_11 : Cond.selects RX4 yX4_isMessage yX4_isMessage ∈ GW := inG_r11 _ (List.mem_of_getElem? (i := 11) rfl)
theorem mw_11_12 : Cond.code yX4_isMessage cX4_isMessage 2 (some .boolean) ∈ GW := inG_r11 _ (List.mem_of_getElem? (i := 12) rfl)
theorem mw_11_13 : Cond.methodLink RX4 105 yX4_deliverNow ∈ GW := inG_r11 _ (List.mem_of_getElem? (i := 13) rfl)
theorem mw_11_14 : Cond.instanceMethod yX4_deliverNow ∈ GW := inG_r11 _ (List.mem_of_getElem? (i := 14) rfl)
theorem mw_11_15 : Cond.selects RX4 yX4_deliverNow yX4_deliverNow ∈ GW := inG_r11 _ (List.mem_of_getElem? (i := 15) rfl)
theorem mw_11_16 : Cond.code yX4_deliverNow cX4_deliverNow 7 none ∈ GW := inG_r11 _ (List.mem_of_getElem? (i := 16) rfl)
theorem mw_11_17 : Cond.methodLink RX4 69 yX4_drop ∈ GW := inG_r11 _ (List.mem_of_getElem? (i := 17) rfl)
theorem mw_11_18 : Cond.instanceMethod yX4_drop ∈ GW := inG_r11 _ (List.mem_of_getElem? (i := 18) rfl)
theorem mw_11_19 : Cond.selects RX4 yX4_drop yX4_drop ∈ GW := inG_r11 _ (List.mem_of_getElem? (i := 19) rfl)
theorem mw_11_20 : Cond.code yX4_drop cX4_drop 3 none ∈ GW := inG_r11 _ (List.mem_of_getElem? (i := 20) rfl)
theorem mw_11_21 : Cond.methodLink RX4 77 yX4_get ∈ GW := inG_r11 _ (List.mem_of_getElem? (i := 21) rfl)
theorem mw_11_22 : Cond.instanceMethod yX4_get ∈ GW := inG_r11 _ (List.mem_of_getElem? (i := 22) rfl)
theorem mw_11_23 : Cond.selects RX4 yX4_get yX4_get ∈ GW := inG_r11 _ (List.mem_of_getElem? (i := 23) rfl)
theorem mw_12_0 : Cond.code yX4_get cX4_get 6 none ∈ GW := inG_r12 _ (List.mem_of_getElem? (i := 0) rfl)
theorem mw_12_1 : Cond.methodLink RX4 40 yX4_of ∈ GW := inG_r12 _ (List.mem_of_getElem? (i := 1) rfl)
theorem mw_12_2 : Cond.instanceMethod yX4_of ∈ GW := inG_r12 _ (List.mem_of_getElem? (i := 2) rfl)
theorem mw_12_3 : Cond.selects RX4 yX4_of yX4_of ∈ GW := inG_r12 _ (List.mem_of_getElem? (i := 3) rfl)
theorem mw_12_4 : Cond.code yX4_of cX4_of 3 (some .int) ∈ GW := inG_r12 _ (List.mem_of_getElem? (i := 4) rfl)
theorem mw_12_5 : Cond.methodLink RX4 59 yX4_answer ∈ GW := inG_r12 _ (List.mem_of_getElem? (i := 5) rfl)
theorem mw_12_6 : Cond.instanceMethod yX4_answer ∈ GW := inG_r12 _ (List.mem_of_getElem? (i := 6) rfl)
theorem mw_12_7 : Cond.selects RX4 yX4_answer yX4_answer ∈ GW := inG_r12 _ (List.mem_of_getElem? (i := 7) rfl)
theorem mw_12_8 : Cond.code yX4_answer cX4_answer 4 none ∈ GW := inG_r12 _ (List.mem_of_getElem? (i := 8) rfl)
theorem mw_12_9 : Cond.methodLink RX4 63 yX4_tear ∈ GW := inG_r12 _ (List.mem_of_getElem? (i := 9) rfl)
theorem mw_12_10 : Cond.instanceMethod yX4_tear ∈ GW := inG_r12 _ (List.mem_of_getElem? (i := 10) rfl)
theorem mw_12_11 : Cond.selects RX4 yX4_tear yX4_tear ∈ GW := inG_r12 _ (List.mem_of_getElem? (i := 11) rfl)
theorem mw_12_12 : Cond.code yX4_tear cX4_tear 3 none ∈ GW := inG_r12 _ (List.mem_of_getElem? (i := 12) rfl)
theorem mw_12_13 : Cond.methodLink RX4 80 yX4_getBy ∈ GW := inG_r12 _ (List.mem_of_getElem? (i := 13) rfl)
theorem mw_12_14 : Cond.instanceMethod yX4_getBy ∈ GW := inG_r12 _ (List.mem_of_getElem? (i := 14) rfl)
theorem mw_12_15 : Cond.selects RX4 yX4_getBy yX4_getBy ∈ GW := inG_r12 _ (List.mem_of_getElem? (i := 15) rfl)
theorem mw_12_16 : Cond.code yX4_getBy cX4_getBy 6 none ∈ GW := inG_r12 _ (List.mem_of_getElem? (i := 16) rfl)
theorem mw_12_17 : Cond.methodLink RX4 66 yX4_become ∈ GW := inG_r12 _ (List.mem_of_getElem? (i := 17) rfl)
theorem mw_12_18 : Cond.instanceMethod yX4_become ∈ GW := inG_r12 _ (List.mem_of_getElem? (i := 18) rfl)
theorem mw_12_19 : Cond.selects RX4 yX4_become yX4_become ∈ GW := inG_r12 _ (List.mem_of_getElem? (i := 19) rfl)
theorem mw_12_20 : Cond.code yX4_become cX4_become 4 none ∈ GW := inG_r12 _ (List.mem_of_getElem? (i := 20) rfl)
theorem mw_12_21 : Cond.methodLink RL 31 yX3_lose ∈ GW := inG_r12 _ (List.mem_of_getElem? (i := 21) rfl)
theorem mw_12_22 : Cond.instanceMethod yX3_lose ∈ GW := inG_r12 _ (List.mem_of_getElem? (i := 22) rfl)
theorem mw_12_23 : Cond.selects RX3 yX3_lose yX3_lose ∈ GW := inG_r12 _ (List.mem_of_getElem? (i := 23) rfl)
theorem mw_13_0 : Cond.code yX3_lose cX3_lose 2 (some .int) ∈ GW := inG_r13 _ (List.mem_of_getElem? (i := 0) rfl)
theorem mw_13_1 : Cond.methodLink RX3 57 yX2_dropMessage ∈ GW := inG_r13 _ (List.mem_of_getElem? (i := 1) rfl)
theorem mw_13_2 : Cond.instanceMethod yX2_dropMessage ∈ GW := inG_r13 _ (List.mem_of_getElem? (i := 2) rfl)
theorem mw_13_3 : Cond.selects RX2 yX2_dropMessage yX2_dropMessage ∈ GW := inG_r13 _ (List.mem_of_getElem? (i := 3) rfl)
theorem mw_13_4 : Cond.code yX2_dropMessage cX2_dropMessage 2 (some .int) ∈ GW := inG_r13 _ (List.mem_of_getElem? (i := 4) rfl)
theorem mw_13_5 : Cond.methodLink RL 34 yX4_lose ∈ GW := inG_r13 _ (List.mem_of_getElem? (i := 5) rfl)
theorem mw_13_6 : Cond.instanceMethod yX4_lose ∈ GW := inG_r13 _ (List.mem_of_getElem? (i := 6) rfl)
theorem mw_13_7 : Cond.selects RX4 yX4_lose yX4_lose ∈ GW := inG_r13 _ (List.mem_of_getElem? (i := 7) rfl)
theorem mw_13_8 : Cond.code yX4_lose cX4_lose 2 (some .int) ∈ GW := inG_r13 _ (List.mem_of_getElem? (i := 8) rfl)
theorem mw_13_9 : Cond.methodLink RX4 108 yX4_loseNow ∈ GW := inG_r13 _ (List.mem_of_getElem? (i := 9) rfl)
theorem mw_13_10 : Cond.instanceMethod yX4_loseNow ∈ GW := inG_r13 _ (List.mem_of_getElem? (i := 10) rfl)
theorem mw_13_11 : Cond.selects RX4 yX4_loseNow yX4_loseNow ∈ GW := inG_r13 _ (List.mem_of_getElem? (i := 11) rfl)
theorem mw_13_12 : Cond.code yX4_loseNow cX4_loseNow 2 none ∈ GW := inG_r13 _ (List.mem_of_getElem? (i := 12) rfl)
theorem mw_13_13 : Cond.methodLink RL 35 yX3_twice ∈ GW := inG_r13 _ (List.mem_of_getElem? (i := 13) rfl)
theorem mw_13_14 : Cond.instanceMethod yX3_twice ∈ GW := inG_r13 _ (List.mem_of_getElem? (i := 14) rfl)
theorem mw_13_15 : Cond.selects RX3 yX3_twice yX3_twice ∈ GW := inG_r13 _ (List.mem_of_getElem? (i := 15) rfl)
theorem mw_13_16 : Cond.code yX3_twice cX3_twice 2 (some .int) ∈ GW := inG_r13 _ (List.mem_of_getElem? (i := 16) rfl)
theorem mw_13_17 : Cond.methodLink RX3 60 yX2_repeatMessage ∈ GW := inG_r13 _ (List.mem_of_getElem? (i := 17) rfl)
theorem mw_13_18 : Cond.instanceMethod yX2_repeatMessage ∈ GW := inG_r13 _ (List.mem_of_getElem? (i := 18) rfl)
theorem mw_13_19 : Cond.selects RX2 yX2_repeatMessage yX2_repeatMessage ∈ GW := inG_r13 _ (List.mem_of_getElem? (i := 19) rfl)
theorem mw_13_20 : Cond.code yX2_repeatMessage cX2_repeatMessage 2 (some .int) ∈ GW := inG_r13 _ (List.mem_of_getElem? (i := 20) rfl)
theorem mw_13_21 : Cond.methodLink RX2 107 yX1_repeat ∈ GW := inG_r13 _ (List.mem_of_getElem? (i := 21) rfl)
theorem mw_13_22 : Cond.instanceMethod yX1_repeat ∈ GW := inG_r13 _ (List.mem_of_getElem? (i := 22) rfl)
theorem mw_13_23 : Cond.selects RX1 yX1_repeat yX1_repeat ∈ GW := inG_r13 _ (List.mem_of_getElem? (i := 23) rfl)
theorem mw_14_0 : Cond.code yX1_repeat cX1_repeat 2 none ∈ GW := inG_r14 _ (List.mem_of_getElem? (i := 0) rfl)
theorem mw_14_1 : Cond.methodLink RL 38 yX4_twice ∈ GW := inG_r14 _ (List.mem_of_getElem? (i := 1) rfl)
theorem mw_14_2 : Cond.instanceMethod yX4_twice ∈ GW := inG_r14 _ (List.mem_of_getElem? (i := 2) rfl)
theorem mw_14_3 : Cond.selects RX4 yX4_twice yX4_twice ∈ GW := inG_r14 _ (List.mem_of_getElem? (i := 3) rfl)
theorem mw_14_4 : Cond.code yX4_twice cX4_twice 3 (some .int) ∈ GW := inG_r14 _ (List.mem_of_getElem? (i := 4) rfl)
theorem mw_14_5 : Cond.methodLink RL 39 yX3_fall ∈ GW := inG_r14 _ (List.mem_of_getElem? (i := 5) rfl)
theorem mw_14_6 : Cond.instanceMethod yX3_fall ∈ GW := inG_r14 _ (List.mem_of_getElem? (i := 6) rfl)
theorem mw_14_7 : Cond.selects RX3 yX3_fall yX3_fall ∈ GW := inG_r14 _ (List.mem_of_getElem? (i := 7) rfl)
theorem mw_14_8 : Cond.code yX3_fall cX3_fall 2 (some .int) ∈ GW := inG_r14 _ (List.mem_of_getElem? (i := 8) rfl)
theorem mw_14_9 : Cond.methodLink RX3 63 yX2_fallIll ∈ GW := inG_r14 _ (List.mem_of_getElem? (i := 9) rfl)
theorem mw_14_10 : Cond.instanceMethod yX2_fallIll ∈ GW := inG_r14 _ (List.mem_of_getElem? (i := 10) rfl)
theorem mw_14_11 : Cond.selects RX2 yX2_fallIll yX2_fallIll ∈ GW := inG_r14 _ (List.mem_of_getElem? (i := 11) rfl)
theorem mw_14_12 : Cond.code yX2_fallIll cX2_fallIll 3 (some .int) ∈ GW := inG_r14 _ (List.mem_of_getElem? (i := 12) rfl)
theorem mw_14_13 : Cond.methodLink RX2 110 yX2_isSomebody ∈ GW := inG_r14 _ (List.mem_of_getElem? (i := 13) rfl)
theorem mw_14_14 : Cond.static yX2_isSomebody ∈ GW := inG_r14 _ (List.mem_of_getElem? (i := 14) rfl)
theorem mw_14_15 : Cond.code yX2_isSomebody cX2_isSomebody 1 (some .boolean) ∈ GW := inG_r14 _ (List.mem_of_getElem? (i := 15) rfl)
theorem mw_14_16 : Cond.methodLink RX2 113 yX2_forget ∈ GW := inG_r14 _ (List.mem_of_getElem? (i := 16) rfl)
theorem mw_14_17 : Cond.instanceMethod yX2_forget ∈ GW := inG_r14 _ (List.mem_of_getElem? (i := 17) rfl)
theorem mw_14_18 : Cond.selects RX2 yX2_forget yX2_forget ∈ GW := inG_r14 _ (List.mem_of_getElem? (i := 18) rfl)
theorem mw_14_19 : Cond.code yX2_forget cX2_forget 3 none ∈ GW := inG_r14 _ (List.mem_of_getElem? (i := 19) rfl)
theorem mw_14_20 : Cond.methodLink RX2 117 yJ6_bitCount_0f7a4 ∈ GW := inG_r14 _ (List.mem_of_getElem? (i := 20) rfl)
theorem mw_14_21 : Cond.static yJ6_bitCount_0f7a4 ∈ GW := inG_r14 _ (List.mem_of_getElem? (i := 21) rfl)
theorem mw_14_22 : Cond.initialized RJ6 ∈ GW := inG_r14 _ (List.mem_of_getElem? (i := 22) rfl)
theorem mw_14_23 : Cond.code yJ6_bitCount_0f7a4 cJ6_bitCount_0f7a4 1 (some .int) ∈ GW := inG_r14 _ (List.mem_of_getElem? (i := 23) rfl)
theorem mw_15_0 : Cond.constant RJ6 265 (1431655765) ∈ GW := inG_r15 _ (List.mem_of_getElem? (i := 0) rfl)
theorem mw_15_1 : Cond.constant RJ6 266 (858993459) ∈ GW := inG_r15 _ (List.mem_of_getElem? (i := 1) rfl)
theorem mw_15_2 : Cond.constant RJ6 267 (252645135) ∈ GW := inG_r15 _ (List.mem_of_getElem? (i := 2) rfl)
theorem mw_15_3 : Cond.methodLink RL 42 yX4_fall ∈ GW := inG_r15 _ (List.mem_of_getElem? (i := 3) rfl)
theorem mw_15_4 : Cond.instanceMethod yX4_fall ∈ GW := inG_r15 _ (List.mem_of_getElem? (i := 4) rfl)
theorem mw_15_5 : Cond.selects RX4 yX4_fall yX4_fall ∈ GW := inG_r15 _ (List.mem_of_getElem? (i := 5) rfl)
theorem mw_15_6 : Cond.code yX4_fall cX4_fall 3 (some .int) ∈ GW := inG_r15 _ (List.mem_of_getElem? (i := 6) rfl)
theorem mw_15_7 : Cond.methodLink RX4 86 yX4_isPart ∈ GW := inG_r15 _ (List.mem_of_getElem? (i := 7) rfl)
theorem mw_15_8 : Cond.instanceMethod yX4_isPart ∈ GW := inG_r15 _ (List.mem_of_getElem? (i := 8) rfl)
theorem mw_15_9 : Cond.selects RX4 yX4_isPart yX4_isPart ∈ GW := inG_r15 _ (List.mem_of_getElem? (i := 9) rfl)
theorem mw_15_10 : Cond.code yX4_isPart cX4_isPart 3 (some .boolean) ∈ GW := inG_r15 _ (List.mem_of_getElem? (i := 10) rfl)
theorem mw_15_11 : Cond.methodLink RX4 111 yX4_ill ∈ GW := inG_r15 _ (List.mem_of_getElem? (i := 11) rfl)
theorem mw_15_12 : Cond.instanceMethod yX4_ill ∈ GW := inG_r15 _ (List.mem_of_getElem? (i := 12) rfl)
theorem mw_15_13 : Cond.selects RX4 yX4_ill yX4_ill ∈ GW := inG_r15 _ (List.mem_of_getElem? (i := 13) rfl)
theorem mw_15_14 : Cond.code yX4_ill cX4_ill 3 (some .int) ∈ GW := inG_r15 _ (List.mem_of_getElem? (i := 14) rfl)
theorem mw_15_15 : Cond.methodLink RL 43 yX3_rise ∈ GW := inG_r15 _ (List.mem_of_getElem? (i := 15) rfl)
theorem mw_15_16 : Cond.instanceMethod yX3_rise ∈ GW := inG_r15 _ (List.mem_of_getElem? (i := 16) rfl)
theorem mw_15_17 : Cond.selects RX3 yX3_rise yX3_rise ∈ GW := inG_r15 _ (List.mem_of_getElem? (i := 17) rfl)
theorem mw_15_18 : Cond.code yX3_rise cX3_rise 2 (some .int) ∈ GW := inG_r15 _ (List.mem_of_getElem? (i := 18) rfl)
theorem mw_15_19 : Cond.methodLink RX3 66 yX2_getWell ∈ GW := inG_r15 _ (List.mem_of_getElem? (i := 19) rfl)
theorem mw_15_20 : Cond.instanceMethod yX2_getWell ∈ GW := inG_r15 _ (List.mem_of_getElem? (i := 20) rfl)
theorem mw_15_21 : Cond.selects RX2 yX2_getWell yX2_getWell ∈ GW := inG_r15 _ (List.mem_of_getElem? (i := 21) rfl)
theorem mw_15_22 : Cond.code yX2_getWell cX2_getWell 2 (some .int) ∈ GW := inG_r15 _ (List.mem_of_getElem? (i := 22) rfl)
theorem mw_15_23 : Cond.methodLink RL 46 yX4_rise ∈ GW := inG_r15 _ (List.mem_of_getElem? (i := 23) rfl)
theorem mw_16_0 : Cond.instanceMethod yX4_rise ∈ GW := inG_r16 _ (List.mem_of_getElem? (i := 0) rfl)
theorem mw_16_1 : Cond.selects RX4 yX4_rise yX4_rise ∈ GW := inG_r16 _ (List.mem_of_getElem? (i := 1) rfl)
theorem mw_16_2 : Cond.code yX4_rise cX4_rise 2 (some .int) ∈ GW := inG_r16 _ (List.mem_of_getElem? (i := 2) rfl)
theorem mw_16_3 : Cond.methodLink RL 47 yX3_ticks ∈ GW := inG_r16 _ (List.mem_of_getElem? (i := 3) rfl)
theorem mw_16_4 : Cond.instanceMethod yX3_ticks ∈ GW := inG_r16 _ (List.mem_of_getElem? (i := 4) rfl)
theorem mw_16_5 : Cond.selects RX3 yX3_ticks yX3_ticks ∈ GW := inG_r16 _ (List.mem_of_getElem? (i := 5) rfl)
theorem mw_16_6 : Cond.code yX3_ticks cX3_ticks 2 (some .int) ∈ GW := inG_r16 _ (List.mem_of_getElem? (i := 6) rfl)
theorem mw_16_7 : Cond.methodLink RX3 69 yX2_passTicks ∈ GW := inG_r16 _ (List.mem_of_getElem? (i := 7) rfl)
theorem mw_16_8 : Cond.instanceMethod yX2_passTicks ∈ GW := inG_r16 _ (List.mem_of_getElem? (i := 8) rfl)
theorem mw_16_9 : Cond.selects RX2 yX2_passTicks yX2_passTicks ∈ GW := inG_r16 _ (List.mem_of_getElem? (i := 9) rfl)
theorem mw_16_10 : Cond.code yX2_passTicks cX2_passTicks 3 (some .int) ∈ GW := inG_r16 _ (List.mem_of_getElem? (i := 10) rfl)
theorem mw_16_11 : Cond.methodLink RX2 164 yX2_passTick ∈ GW := inG_r16 _ (List.mem_of_getElem? (i := 11) rfl)
theorem mw_16_12 : Cond.instanceMethod yX2_passTick ∈ GW := inG_r16 _ (List.mem_of_getElem? (i := 12) rfl)
theorem mw_16_13 : Cond.selects RX2 yX2_passTick yX2_passTick ∈ GW := inG_r16 _ (List.mem_of_getElem? (i := 13) rfl)
theorem mw_16_14 : Cond.code yX2_passTick cX2_passTick 2 none ∈ GW := inG_r16 _ (List.mem_of_getElem? (i := 14) rfl)
theorem mw_16_15 : Cond.methodLink RX2 167 yX2_pressOn ∈ GW := inG_r16 _ (List.mem_of_getElem? (i := 15) rfl)
theorem mw_16_16 : Cond.instanceMethod yX2_pressOn ∈ GW := inG_r16 _ (List.mem_of_getElem? (i := 16) rfl)
theorem mw_16_17 : Cond.selects RX2 yX2_pressOn yX2_pressOn ∈ GW := inG_r16 _ (List.mem_of_getElem? (i := 17) rfl)
theorem mw_16_18 : Cond.code yX2_pressOn cX2_pressOn 2 none ∈ GW := inG_r16 _ (List.mem_of_getElem? (i := 18) rfl)
theorem mw_16_19 : Cond.methodLink RX2 173 yX2_isTimeAgain ∈ GW := inG_r16 _ (List.mem_of_getElem? (i := 19) rfl)
theorem mw_16_20 : Cond.instanceMethod yX2_isTimeAgain ∈ GW := inG_r16 _ (List.mem_of_getElem? (i := 20) rfl)
theorem mw_16_21 : Cond.selects RX2 yX2_isTimeAgain yX2_isTimeAgain ∈ GW := inG_r16 _ (List.mem_of_getElem? (i := 21) rfl)
theorem mw_16_22 : Cond.code yX2_isTimeAgain cX2_isTimeAgain 4 (some .boolean) ∈ GW := inG_r16 _ (List.mem_of_getElem? (i := 22) rfl)
theorem mw_16_23 : Cond.methodLink RX2 170 yX2_askInDoubt ∈ GW := inG_r16 _ (List.mem_of_getElem? (i := 23) rfl)
theorem mw_17_0 : Cond.instanceMethod yX2_askInDoubt ∈ GW := inG_r17 _ (List.mem_of_getElem? (i := 0) rfl)
theorem mw_17_1 : Cond.selects RX2 yX2_askInDoubt yX2_askInDoubt ∈ GW := inG_r17 _ (List.mem_of_getElem? (i := 1) rfl)
theorem mw_17_2 : Cond.code yX2_askInDoubt cX2_askInDoubt 3 none ∈ GW := inG_r17 _ (List.mem_of_getElem? (i := 2) rfl)
theorem mw_17_3 : Cond.methodLink RL 50 yX4_ticks ∈ GW := inG_r17 _ (List.mem_of_getElem? (i := 3) rfl)
theorem mw_17_4 : Cond.instanceMethod yX4_ticks ∈ GW := inG_r17 _ (List.mem_of_getElem? (i := 4) rfl)
theorem mw_17_5 : Cond.selects RX4 yX4_ticks yX4_ticks ∈ GW := inG_r17 _ (List.mem_of_getElem? (i := 5) rfl)
theorem mw_17_6 : Cond.code yX4_ticks cX4_ticks 3 (some .int) ∈ GW := inG_r17 _ (List.mem_of_getElem? (i := 6) rfl)
theorem mw_17_7 : Cond.methodLink RX4 115 yX4_pass ∈ GW := inG_r17 _ (List.mem_of_getElem? (i := 7) rfl)
theorem mw_17_8 : Cond.instanceMethod yX4_pass ∈ GW := inG_r17 _ (List.mem_of_getElem? (i := 8) rfl)
theorem mw_17_9 : Cond.selects RX4 yX4_pass yX4_pass ∈ GW := inG_r17 _ (List.mem_of_getElem? (i := 9) rfl)
theorem mw_17_10 : Cond.code yX4_pass cX4_pass 3 none ∈ GW := inG_r17 _ (List.mem_of_getElem? (i := 10) rfl)
theorem mw_17_11 : Cond.methodLink RX4 89 yX4_passBetween ∈ GW := inG_r17 _ (List.mem_of_getElem? (i := 11) rfl)
theorem mw_17_12 : Cond.instanceMethod yX4_passBetween ∈ GW := inG_r17 _ (List.mem_of_getElem? (i := 12) rfl)
theorem mw_17_13 : Cond.selects RX4 yX4_passBetween yX4_passBetween ∈ GW := inG_r17 _ (List.mem_of_getElem? (i := 13) rfl)
theorem mw_17_14 : Cond.code yX4_passBetween cX4_passBetween 3 none ∈ GW := inG_r17 _ (List.mem_of_getElem? (i := 14) rfl)
theorem mw_17_15 : Cond.methodLink RX4 83 yX4_isTime ∈ GW := inG_r17 _ (List.mem_of_getElem? (i := 15) rfl)
theorem mw_17_16 : Cond.static yX4_isTime ∈ GW := inG_r17 _ (List.mem_of_getElem? (i := 16) rfl)
theorem mw_17_17 : Cond.code yX4_isTime cX4_isTime 2 (some .boolean) ∈ GW := inG_r17 _ (List.mem_of_getElem? (i := 17) rfl)
theorem mw_17_18 : Cond.methodLink RX4 92 yX4_passClerk ∈ GW := inG_r17 _ (List.mem_of_getElem? (i := 18) rfl)
theorem mw_17_19 : Cond.instanceMethod yX4_passClerk ∈ GW := inG_r17 _ (List.mem_of_getElem? (i := 19) rfl)
theorem mw_17_20 : Cond.selects RX4 yX4_passClerk yX4_passClerk ∈ GW := inG_r17 _ (List.mem_of_getElem? (i := 20) rfl)
theorem mw_17_21 : Cond.code yX4_passClerk cX4_passClerk 4 none ∈ GW := inG_r17 _ (List.mem_of_getElem? (i := 21) rfl)
theorem mw_17_22 : Cond.methodLink RL 51 yX3_ofDeal ∈ GW := inG_r17 _ (List.mem_of_getElem? (i := 22) rfl)
theorem mw_17_23 : Cond.instanceMethod yX3_ofDeal ∈ GW := inG_r17 _ (List.mem_of_getElem? (i := 23) rfl)
theorem mw_18_0 : Cond.selects RX3 yX3_ofDeal yX3_ofDeal ∈ GW := inG_r18 _ (List.mem_of_getElem? (i := 0) rfl)
theorem mw_18_1 : Cond.code yX3_ofDeal cX3_ofDeal 3 (some .int) ∈ GW := inG_r18 _ (List.mem_of_getElem? (i := 1) rfl)
theorem mw_18_2 : Cond.methodLink RX3 72 yX2_numberOfDeal ∈ GW := inG_r18 _ (List.mem_of_getElem? (i := 2) rfl)
theorem mw_18_3 : Cond.instanceMethod yX2_numberOfDeal ∈ GW := inG_r18 _ (List.mem_of_getElem? (i := 3) rfl)
theorem mw_18_4 : Cond.selects RX2 yX2_numberOfDeal yX2_numberOfDeal ∈ GW := inG_r18 _ (List.mem_of_getElem? (i := 4) rfl)
theorem mw_18_5 : Cond.code yX2_numberOfDeal cX2_numberOfDeal 3 (some .int) ∈ GW := inG_r18 _ (List.mem_of_getElem? (i := 5) rfl)
theorem mw_18_6 : Cond.methodLink RX2 185 yX2_isDeal ∈ GW := inG_r18 _ (List.mem_of_getElem? (i := 6) rfl)
theorem mw_18_7 : Cond.instanceMethod yX2_isDeal ∈ GW := inG_r18 _ (List.mem_of_getElem? (i := 7) rfl)
theorem mw_18_8 : Cond.selects RX2 yX2_isDeal yX2_isDeal ∈ GW := inG_r18 _ (List.mem_of_getElem? (i := 8) rfl)
theorem mw_18_9 : Cond.code yX2_isDeal cX2_isDeal 2 (some .boolean) ∈ GW := inG_r18 _ (List.mem_of_getElem? (i := 9) rfl)
theorem mw_18_10 : Cond.methodLink RL 54 yX4_ofDeal ∈ GW := inG_r18 _ (List.mem_of_getElem? (i := 10) rfl)
theorem mw_18_11 : Cond.instanceMethod yX4_ofDeal ∈ GW := inG_r18 _ (List.mem_of_getElem? (i := 11) rfl)
theorem mw_18_12 : Cond.selects RX4 yX4_ofDeal yX4_ofDeal ∈ GW := inG_r18 _ (List.mem_of_getElem? (i := 12) rfl)
theorem mw_18_13 : Cond.code yX4_ofDeal cX4_ofDeal 3 (some .int) ∈ GW := inG_r18 _ (List.mem_of_getElem? (i := 13) rfl)
theorem mw_18_14 : Cond.methodLink RX4 118 yX4_isDeal ∈ GW := inG_r18 _ (List.mem_of_getElem? (i := 14) rfl)
theorem mw_18_15 : Cond.instanceMethod yX4_isDeal ∈ GW := inG_r18 _ (List.mem_of_getElem? (i := 15) rfl)
theorem mw_18_16 : Cond.selects RX4 yX4_isDeal yX4_isDeal ∈ GW := inG_r18 _ (List.mem_of_getElem? (i := 16) rfl)
theorem mw_18_17 : Cond.code yX4_isDeal cX4_isDeal 2 (some .boolean) ∈ GW := inG_r18 _ (List.mem_of_getElem? (i := 17) rfl)
theorem mw_18_18 : Cond.methodLink RX4 121 yX4_clerksOf ∈ GW := inG_r18 _ (List.mem_of_getElem? (i := 18) rfl)
theorem mw_18_19 : Cond.instanceMethod yX4_clerksOf ∈ GW := inG_r18 _ (List.mem_of_getElem? (i := 19) rfl)
theorem mw_18_20 : Cond.selects RX4 yX4_clerksOf yX4_clerksOf ∈ GW := inG_r18 _ (List.mem_of_getElem? (i := 20) rfl)
theorem mw_18_21 : Cond.code yX4_clerksOf cX4_clerksOf 5 (some .int) ∈ GW := inG_r18 _ (List.mem_of_getElem? (i := 21) rfl)
theorem mw_18_22 : Cond.methodLink RL 55 yX3_at ∈ GW := inG_r18 _ (List.mem_of_getElem? (i := 22) rfl)
theorem mw_18_23 : Cond.instanceMethod yX3_at ∈ GW := inG_r18 _ (List.mem_of_getElem? (i := 23) rfl)
theorem mw_19_0 : Cond.selects RX3 yX3_at yX3_at ∈ GW := inG_r19 _ (List.mem_of_getElem? (i := 0) rfl)
theorem mw_19_1 : Cond.code yX3_at cX3_at 3 (some .int) ∈ GW := inG_r19 _ (List.mem_of_getElem? (i := 1) rfl)
theorem mw_19_2 : Cond.methodLink RX3 75 yX2_standingFor ∈ GW := inG_r19 _ (List.mem_of_getElem? (i := 2) rfl)
theorem mw_19_3 : Cond.instanceMethod yX2_standingFor ∈ GW := inG_r19 _ (List.mem_of_getElem? (i := 3) rfl)
theorem mw_19_4 : Cond.selects RX2 yX2_standingFor yX2_standingFor ∈ GW := inG_r19 _ (List.mem_of_getElem? (i := 4) rfl)
theorem mw_19_5 : Cond.code yX2_standingFor cX2_standingFor 4 (some .int) ∈ GW := inG_r19 _ (List.mem_of_getElem? (i := 5) rfl)
theorem mw_19_6 : Cond.methodLink RL 58 yX4_at ∈ GW := inG_r19 _ (List.mem_of_getElem? (i := 6) rfl)
theorem mw_19_7 : Cond.instanceMethod yX4_at ∈ GW := inG_r19 _ (List.mem_of_getElem? (i := 7) rfl)
theorem mw_19_8 : Cond.selects RX4 yX4_at yX4_at ∈ GW := inG_r19 _ (List.mem_of_getElem? (i := 8) rfl)
theorem mw_19_9 : Cond.code yX4_at cX4_at 3 (some .int) ∈ GW := inG_r19 _ (List.mem_of_getElem? (i := 9) rfl)
theorem mw_19_10 : Cond.methodLink RL 59 yX3_message ∈ GW := inG_r19 _ (List.mem_of_getElem? (i := 10) rfl)
theorem mw_19_11 : Cond.instanceMethod yX3_message ∈ GW := inG_r19 _ (List.mem_of_getElem? (i := 11) rfl)
theorem mw_19_12 : Cond.selects RX3 yX3_message yX3_message ∈ GW := inG_r19 _ (List.mem_of_getElem? (i := 12) rfl)
theorem mw_19_13 : Cond.code yX3_message cX3_message 3 (some .int) ∈ GW := inG_r19 _ (List.mem_of_getElem? (i := 13) rfl)
theorem mw_19_14 : Cond.fieldLink RX3 78 "ClerkVotes$State" "row" "LClerkVotes$Row;" ∈ GW := inG_r19 _ (List.mem_of_getElem? (i := 14) rfl)
theorem mw_19_15 : Cond.methodLink RX3 82 yX1_numberOfMessage ∈ GW := inG_r19 _ (List.mem_of_getElem? (i := 15) rfl)
theorem mw_19_16 : Cond.instanceMethod yX1_numberOfMessage ∈ GW := inG_r19 _ (List.mem_of_getElem? (i := 16) rfl)
theorem mw_19_17 : Cond.selects RX1 yX1_numberOfMessage yX1_numberOfMessage ∈ GW := inG_r19 _ (List.mem_of_getElem? (i := 17) rfl)
theorem mw_19_18 : Cond.code yX1_numberOfMessage cX1_numberOfMessage 3 (some .int) ∈ GW := inG_r19 _ (List.mem_of_getElem? (i := 18) rfl)
theorem mw_19_19 : Cond.methodLink RX1 34 yX1_has ∈ GW := inG_r19 _ (List.mem_of_getElem? (i := 19) rfl)
theorem mw_19_20 : Cond.methodLink RX1 38 yX1_part ∈ GW := inG_r19 _ (List.mem_of_getElem? (i := 20) rfl)
theorem mw_19_21 : Cond.methodLink RL 62 yX4_message ∈ GW := inG_r19 _ (List.mem_of_getElem? (i := 21) rfl)
theorem mw_19_22 : Cond.instanceMethod yX4_message ∈ GW := inG_r19 _ (List.mem_of_getElem? (i := 22) rfl)
theorem mw_19_23 : Cond.selects RX4 yX4_message yX4_message ∈ GW := inG_r19 _ (List.mem_of_getElem? (i := 23) rfl)
theorem mw_20_0 : Cond.code yX4_message cX4_message 3 (some .int) ∈ GW := inG_r20 _ (List.mem_of_getElem? (i := 0) rfl)
theorem mw_20_1 : Cond.methodLink RL 63 yX3_who ∈ GW := inG_r20 _ (List.mem_of_getElem? (i := 1) rfl)
theorem mw_20_2 : Cond.instanceMethod yX3_who ∈ GW := inG_r20 _ (List.mem_of_getElem? (i := 2) rfl)
theorem mw_20_3 : Cond.selects RX3 yX3_who yX3_who ∈ GW := inG_r20 _ (List.mem_of_getElem? (i := 3) rfl)
theorem mw_20_4 : Cond.code yX3_who cX3_who 3 (some .int) ∈ GW := inG_r20 _ (List.mem_of_getElem? (i := 4) rfl)
theorem mw_20_5 : Cond.methodLink RX3 87 yX2_numberOfSomebody ∈ GW := inG_r20 _ (List.mem_of_getElem? (i := 5) rfl)
theorem mw_20_6 : Cond.instanceMethod yX2_numberOfSomebody ∈ GW := inG_r20 _ (List.mem_of_getElem? (i := 6) rfl)
theorem mw_20_7 : Cond.selects RX2 yX2_numberOfSomebody yX2_numberOfSomebody ∈ GW := inG_r20 _ (List.mem_of_getElem? (i := 7) rfl)
theorem mw_20_8 : Cond.code yX2_numberOfSomebody cX2_numberOfSomebody 3 (some .int) ∈ GW := inG_r20 _ (List.mem_of_getElem? (i := 8) rfl)
theorem mw_20_9 : Cond.fieldLink RX2 191 "ClerkVotes$Row" "sentBy" "[I" ∈ GW := inG_r20 _ (List.mem_of_getElem? (i := 9) rfl)
theorem mw_20_10 : Cond.methodLink RX2 188 yX1_onTheirWayTo ∈ GW := inG_r20 _ (List.mem_of_getElem? (i := 10) rfl)
theorem mw_20_11 : Cond.instanceMethod yX1_onTheirWayTo ∈ GW := inG_r20 _ (List.mem_of_getElem? (i := 11) rfl)
theorem mw_20_12 : Cond.selects RX1 yX1_onTheirWayTo yX1_onTheirWayTo ∈ GW := inG_r20 _ (List.mem_of_getElem? (i := 12) rfl)
theorem mw_20_13 : Cond.code yX1_onTheirWayTo cX1_onTheirWayTo 4 (some .int) ∈ GW := inG_r20 _ (List.mem_of_getElem? (i := 13) rfl)
theorem mw_20_14 : Cond.methodLink RL 66 yX4_who ∈ GW := inG_r20 _ (List.mem_of_getElem? (i := 14) rfl)
theorem mw_20_15 : Cond.instanceMethod yX4_who ∈ GW := inG_r20 _ (List.mem_of_getElem? (i := 15) rfl)
theorem mw_20_16 : Cond.selects RX4 yX4_who yX4_who ∈ GW := inG_r20 _ (List.mem_of_getElem? (i := 16) rfl)
theorem mw_20_17 : Cond.code yX4_who cX4_who 3 (some .int) ∈ GW := inG_r20 _ (List.mem_of_getElem? (i := 17) rfl)
theorem mw_20_18 : Cond.methodLink RX4 124 yX4_underwayTo ∈ GW := inG_r20 _ (List.mem_of_getElem? (i := 18) rfl)
theorem mw_20_19 : Cond.instanceMethod yX4_underwayTo ∈ GW := inG_r20 _ (List.mem_of_getElem? (i := 19) rfl)
theorem mw_20_20 : Cond.selects RX4 yX4_underwayTo yX4_underwayTo ∈ GW := inG_r20 _ (List.mem_of_getElem? (i := 20) rfl)
theorem mw_20_21 : Cond.code yX4_underwayTo cX4_underwayTo 4 (some .int) ∈ GW := inG_r20 _ (List.mem_of_getElem? (i := 21) rfl)
theorem mw_20_22 : Cond.methodLink RL 67 yX3_count ∈ GW := inG_r20 _ (List.mem_of_getElem? (i := 22) rfl)
theorem mw_20_23 : Cond.instanceMethod yX3_count ∈ GW := inG_r20 _ (List.mem_of_getElem? (i := 23) rfl)
theorem mw_21_0 : Cond.selects RX3 yX3_count yX3_count ∈ GW := inG_r21 _ (List.mem_of_getElem? (i := 0) rfl)
theorem mw_21_1 : Cond.code yX3_count cX3_count 2 (some .int) ∈ GW := inG_r21 _ (List.mem_of_getElem? (i := 1) rfl)
theorem mw_21_2 : Cond.fieldLink RX3 90 "ClerkVotes" "padLength" "I" ∈ GW := inG_r21 _ (List.mem_of_getElem? (i := 2) rfl)
theorem mw_21_3 : Cond.methodLink RX3 97 yX2_numberOfAll ∈ GW := inG_r21 _ (List.mem_of_getElem? (i := 3) rfl)
theorem mw_21_4 : Cond.instanceMethod yX2_numberOfAll ∈ GW := inG_r21 _ (List.mem_of_getElem? (i := 4) rfl)
theorem mw_21_5 : Cond.selects RX2 yX2_numberOfAll yX2_numberOfAll ∈ GW := inG_r21 _ (List.mem_of_getElem? (i := 5) rfl)
theorem mw_21_6 : Cond.code yX2_numberOfAll cX2_numberOfAll 2 (some .int) ∈ GW := inG_r21 _ (List.mem_of_getElem? (i := 6) rfl)
theorem mw_21_7 : Cond.methodLink RX2 194 yX1_delivered ∈ GW := inG_r21 _ (List.mem_of_getElem? (i := 7) rfl)
theorem mw_21_8 : Cond.instanceMethod yX1_delivered ∈ GW := inG_r21 _ (List.mem_of_getElem? (i := 8) rfl)
theorem mw_21_9 : Cond.selects RX1 yX1_delivered yX1_delivered ∈ GW := inG_r21 _ (List.mem_of_getElem? (i := 9) rfl)
theorem mw_21_10 : Cond.code yX1_delivered cX1_delivered 3 (some .int) ∈ GW := inG_r21 _ (List.mem_of_getElem? (i := 10) rfl)
theorem mw_21_11 : Cond.methodLink RX2 198 yX2_dealsWithBoth ∈ GW := inG_r21 _ (List.mem_of_getElem? (i := 11) rfl)
theorem mw_21_12 : Cond.instanceMethod yX2_dealsWithBoth ∈ GW := inG_r21 _ (List.mem_of_getElem? (i := 12) rfl)
theorem mw_21_13 : Cond.selects RX2 yX2_dealsWithBoth yX2_dealsWithBoth ∈ GW := inG_r21 _ (List.mem_of_getElem? (i := 13) rfl)
theorem mw_21_14 : Cond.code yX2_dealsWithBoth cX2_dealsWithBoth 5 (some .int) ∈ GW := inG_r21 _ (List.mem_of_getElem? (i := 14) rfl)
theorem mw_21_15 : Cond.methodLink RL 70 yX4_count ∈ GW := inG_r21 _ (List.mem_of_getElem? (i := 15) rfl)
theorem mw_21_16 : Cond.instanceMethod yX4_count ∈ GW := inG_r21 _ (List.mem_of_getElem? (i := 16) rfl)
theorem mw_21_17 : Cond.selects RX4 yX4_count yX4_count ∈ GW := inG_r21 _ (List.mem_of_getElem? (i := 17) rfl)
theorem mw_21_18 : Cond.code yX4_count cX4_count 2 (some .int) ∈ GW := inG_r21 _ (List.mem_of_getElem? (i := 18) rfl)
theorem mw_21_19 : Cond.fieldLink RX4 131 "ClerkVotesModel" "signs" "I" ∈ GW := inG_r21 _ (List.mem_of_getElem? (i := 19) rfl)
theorem mw_21_20 : Cond.methodLink RX4 128 yX4_dealsWith ∈ GW := inG_r21 _ (List.mem_of_getElem? (i := 20) rfl)
theorem mw_21_21 : Cond.instanceMethod yX4_dealsWith ∈ GW := inG_r21 _ (List.mem_of_getElem? (i := 21) rfl)
theorem mw_21_22 : Cond.selects RX4 yX4_dealsWith yX4_dealsWith ∈ GW := inG_r21 _ (List.mem_of_getElem? (i := 22) rfl)
theorem mw_21_23 : Cond.code yX4_dealsWith cX4_dealsWith 6 (some .int) ∈ GW := inG_r21 _ (List.mem_of_getElem? (i := 23) rfl)
theorem mw_22_0 : Cond.methodLink RL 71 yX3_sure ∈ GW := inG_r22 _ (List.mem_of_getElem? (i := 0) rfl)
theorem mw_22_1 : Cond.instanceMethod yX3_sure ∈ GW := inG_r22 _ (List.mem_of_getElem? (i := 1) rfl)
theorem mw_22_2 : Cond.selects RX3 yX3_sure yX3_sure ∈ GW := inG_r22 _ (List.mem_of_getElem? (i := 2) rfl)
theorem mw_22_3 : Cond.code yX3_sure cX3_sure 2 (some .int) ∈ GW := inG_r22 _ (List.mem_of_getElem? (i := 3) rfl)
theorem mw_22_4 : Cond.methodLink RX3 100 yX2_whatIsSure ∈ GW := inG_r22 _ (List.mem_of_getElem? (i := 4) rfl)
theorem mw_22_5 : Cond.instanceMethod yX2_whatIsSure ∈ GW := inG_r22 _ (List.mem_of_getElem? (i := 5) rfl)
theorem mw_22_6 : Cond.selects RX2 yX2_whatIsSure yX2_whatIsSure ∈ GW := inG_r22 _ (List.mem_of_getElem? (i := 6) rfl)
theorem mw_22_7 : Cond.code yX2_whatIsSure cX2_whatIsSure 2 (some .int) ∈ GW := inG_r22 _ (List.mem_of_getElem? (i := 7) rfl)
theorem mw_22_8 : Cond.methodLink RL 74 yX4_sure ∈ GW := inG_r22 _ (List.mem_of_getElem? (i := 8) rfl)
theorem mw_22_9 : Cond.instanceMethod yX4_sure ∈ GW := inG_r22 _ (List.mem_of_getElem? (i := 9) rfl)
theorem mw_22_10 : Cond.selects RX4 yX4_sure yX4_sure ∈ GW := inG_r22 _ (List.mem_of_getElem? (i := 10) rfl)
theorem mw_22_11 : Cond.code yX4_sure cX4_sure 3 (some .int) ∈ GW := inG_r22 _ (List.mem_of_getElem? (i := 11) rfl)
theorem mw_22_12 : Cond.methodLink RL 75 yX3_couldAsk ∈ GW := inG_r22 _ (List.mem_of_getElem? (i := 12) rfl)
theorem mw_22_13 : Cond.instanceMethod yX3_couldAsk ∈ GW := inG_r22 _ (List.mem_of_getElem? (i := 13) rfl)
theorem mw_22_14 : Cond.selects RX3 yX3_couldAsk yX3_couldAsk ∈ GW := inG_r22 _ (List.mem_of_getElem? (i := 14) rfl)
theorem mw_22_15 : Cond.code yX3_couldAsk cX3_couldAsk 2 (some .int) ∈ GW := inG_r22 _ (List.mem_of_getElem? (i := 15) rfl)
theorem mw_22_16 : Cond.methodLink RX3 103 yX2_whoFindsOut ∈ GW := inG_r22 _ (List.mem_of_getElem? (i := 16) rfl)
theorem mw_22_17 : Cond.instanceMethod yX2_whoFindsOut ∈ GW := inG_r22 _ (List.mem_of_getElem? (i := 17) rfl)
theorem mw_22_18 : Cond.selects RX2 yX2_whoFindsOut yX2_whoFindsOut ∈ GW := inG_r22 _ (List.mem_of_getElem? (i := 18) rfl)
theorem mw_22_19 : Cond.code yX2_whoFindsOut cX2_whoFindsOut 6 (some .int) ∈ GW := inG_r22 _ (List.mem_of_getElem? (i := 19) rfl)
theorem mw_22_20 : Cond.methodLink RL 78 yX4_couldAsk ∈ GW := inG_r22 _ (List.mem_of_getElem? (i := 20) rfl)
theorem mw_22_21 : Cond.instanceMethod yX4_couldAsk ∈ GW := inG_r22 _ (List.mem_of_getElem? (i := 21) rfl)
theorem mw_22_22 : Cond.selects RX4 yX4_couldAsk yX4_couldAsk ∈ GW := inG_r22 _ (List.mem_of_getElem? (i := 22) rfl)
theorem mw_22_23 : Cond.code yX4_couldAsk cX4_couldAsk 4 (some .int) ∈ GW := inG_r22 _ (List.mem_of_getElem? (i := 23) rfl)
theorem mw_23_0 : Cond.methodLink RX4 134 yX4_canAsk ∈ GW := inG_r23 _ (List.mem_of_getElem? (i := 0) rfl)
theorem mw_23_1 : Cond.instanceMethod yX4_canAsk ∈ GW := inG_r23 _ (List.mem_of_getElem? (i := 1) rfl)
theorem mw_23_2 : Cond.selects RX4 yX4_canAsk yX4_canAsk ∈ GW := inG_r23 _ (List.mem_of_getElem? (i := 2) rfl)
theorem mw_23_3 : Cond.code yX4_canAsk cX4_canAsk 5 (some .boolean) ∈ GW := inG_r23 _ (List.mem_of_getElem? (i := 3) rfl)
theorem mw_23_4 : Cond.methodLink RL 79 yX3_settledIn ∈ GW := inG_r23 _ (List.mem_of_getElem? (i := 4) rfl)
theorem mw_23_5 : Cond.instanceMethod yX3_settledIn ∈ GW := inG_r23 _ (List.mem_of_getElem? (i := 5) rfl)
theorem mw_23_6 : Cond.selects RX3 yX3_settledIn yX3_settledIn ∈ GW := inG_r23 _ (List.mem_of_getElem? (i := 6) rfl)
theorem mw_23_7 : Cond.code yX3_settledIn cX3_settledIn 3 (some .int) ∈ GW := inG_r23 _ (List.mem_of_getElem? (i := 7) rfl)
theorem mw_23_8 : Cond.methodLink RX3 106 yX2_isDeal ∈ GW := inG_r23 _ (List.mem_of_getElem? (i := 8) rfl)
theorem mw_23_9 : Cond.methodLink RX3 114 yX2_roundsUntilSettled ∈ GW := inG_r23 _ (List.mem_of_getElem? (i := 9) rfl)
theorem mw_23_10 : Cond.instanceMethod yX2_roundsUntilSettled ∈ GW := inG_r23 _ (List.mem_of_getElem? (i := 10) rfl)
theorem mw_23_11 : Cond.selects RX2 yX2_roundsUntilSettled yX2_roundsUntilSettled ∈ GW := inG_r23 _ (List.mem_of_getElem? (i := 11) rfl)
theorem mw_23_12 : Cond.code yX2_roundsUntilSettled cX2_roundsUntilSettled 3 (some .int) ∈ GW := inG_r23 _ (List.mem_of_getElem? (i := 12) rfl)
theorem mw_23_13 : Cond.methodLink RX2 179 yX2_isSettled ∈ GW := inG_r23 _ (List.mem_of_getElem? (i := 13) rfl)
theorem mw_23_14 : Cond.instanceMethod yX2_isSettled ∈ GW := inG_r23 _ (List.mem_of_getElem? (i := 14) rfl)
theorem mw_23_15 : Cond.selects RX2 yX2_isSettled yX2_isSettled ∈ GW := inG_r23 _ (List.mem_of_getElem? (i := 15) rfl)
theorem mw_23_16 : Cond.code yX2_isSettled cX2_isSettled 2 (some .boolean) ∈ GW := inG_r23 _ (List.mem_of_getElem? (i := 16) rfl)
theorem mw_23_17 : Cond.methodLink RX2 182 yX2_passRound ∈ GW := inG_r23 _ (List.mem_of_getElem? (i := 17) rfl)
theorem mw_23_18 : Cond.instanceMethod yX2_passRound ∈ GW := inG_r23 _ (List.mem_of_getElem? (i := 18) rfl)
theorem mw_23_19 : Cond.selects RX2 yX2_passRound yX2_passRound ∈ GW := inG_r23 _ (List.mem_of_getElem? (i := 19) rfl)
theorem mw_23_20 : Cond.code yX2_passRound cX2_passRound 3 none ∈ GW := inG_r23 _ (List.mem_of_getElem? (i := 20) rfl)
theorem mw_23_21 : Cond.methodLink RX2 176 yX2_handOver ∈ GW := inG_r23 _ (List.mem_of_getElem? (i := 21) rfl)
theorem mw_23_22 : Cond.methodLink RL 82 yX4_settledIn ∈ GW := inG_r23 _ (List.mem_of_getElem? (i := 22) rfl)
theorem mw_23_23 : Cond.instanceMethod yX4_settledIn ∈ GW := inG_r23 _ (List.mem_of_getElem? (i := 23) rfl)
theorem mw_24_0 : Cond.selects RX4 yX4_settledIn yX4_settledIn ∈ GW := inG_r24 _ (List.mem_of_getElem? (i := 0) rfl)
theorem mw_24_1 : Cond.code yX4_settledIn cX4_settledIn 3 (some .int) ∈ GW := inG_r24 _ (List.mem_of_getElem? (i := 1) rfl)
theorem mw_24_2 : Cond.methodLink RX4 143 yX4_keep ∈ GW := inG_r24 _ (List.mem_of_getElem? (i := 2) rfl)
theorem mw_24_3 : Cond.instanceMethod yX4_keep ∈ GW := inG_r24 _ (List.mem_of_getElem? (i := 3) rfl)
theorem mw_24_4 : Cond.selects RX4 yX4_keep yX4_keep ∈ GW := inG_r24 _ (List.mem_of_getElem? (i := 4) rfl)
theorem mw_24_5 : Cond.code yX4_keep cX4_keep 2 none ∈ GW := inG_r24 _ (List.mem_of_getElem? (i := 5) rfl)
theorem mw_24_6 : Cond.methodLink RX4 146 yX4_roundsTo ∈ GW := inG_r24 _ (List.mem_of_getElem? (i := 6) rfl)
theorem mw_24_7 : Cond.instanceMethod yX4_roundsTo ∈ GW := inG_r24 _ (List.mem_of_getElem? (i := 7) rfl)
theorem mw_24_8 : Cond.selects RX4 yX4_roundsTo yX4_roundsTo ∈ GW := inG_r24 _ (List.mem_of_getElem? (i := 8) rfl)
theorem mw_24_9 : Cond.code yX4_roundsTo cX4_roundsTo 3 (some .int) ∈ GW := inG_r24 _ (List.mem_of_getElem? (i := 9) rfl)
theorem mw_24_10 : Cond.methodLink RX4 137 yX4_isSettled ∈ GW := inG_r24 _ (List.mem_of_getElem? (i := 10) rfl)
theorem mw_24_11 : Cond.instanceMethod yX4_isSettled ∈ GW := inG_r24 _ (List.mem_of_getElem? (i := 11) rfl)
theorem mw_24_12 : Cond.selects RX4 yX4_isSettled yX4_isSettled ∈ GW := inG_r24 _ (List.mem_of_getElem? (i := 12) rfl)
theorem mw_24_13 : Cond.code yX4_isSettled cX4_isSettled 2 (some .boolean) ∈ GW := inG_r24 _ (List.mem_of_getElem? (i := 13) rfl)
theorem mw_24_14 : Cond.methodLink RX4 140 yX4_goRound ∈ GW := inG_r24 _ (List.mem_of_getElem? (i := 14) rfl)
theorem mw_24_15 : Cond.instanceMethod yX4_goRound ∈ GW := inG_r24 _ (List.mem_of_getElem? (i := 15) rfl)
theorem mw_24_16 : Cond.selects RX4 yX4_goRound yX4_goRound ∈ GW := inG_r24 _ (List.mem_of_getElem? (i := 16) rfl)
theorem mw_24_17 : Cond.code yX4_goRound cX4_goRound 3 none ∈ GW := inG_r24 _ (List.mem_of_getElem? (i := 17) rfl)
theorem mw_24_18 : Cond.methodLink RX4 149 yX4_comeBack ∈ GW := inG_r24 _ (List.mem_of_getElem? (i := 18) rfl)
theorem mw_24_19 : Cond.instanceMethod yX4_comeBack ∈ GW := inG_r24 _ (List.mem_of_getElem? (i := 19) rfl)
theorem mw_24_20 : Cond.selects RX4 yX4_comeBack yX4_comeBack ∈ GW := inG_r24 _ (List.mem_of_getElem? (i := 20) rfl)
theorem mw_24_21 : Cond.code yX4_comeBack cX4_comeBack 2 none ∈ GW := inG_r24 _ (List.mem_of_getElem? (i := 21) rfl)
theorem mw_24_22 : Cond.methodLink RL 83 yX3_underwayIn ∈ GW := inG_r24 _ (List.mem_of_getElem? (i := 22) rfl)
theorem mw_24_23 : Cond.instanceMethod yX3_underwayIn ∈ GW := inG_r24 _ (List.mem_of_getElem? (i := 23) rfl)
theorem mw_25_0 : Cond.selects RX3 yX3_underwayIn yX3_underwayIn ∈ GW := inG_r25 _ (List.mem_of_getElem? (i := 0) rfl)
theorem mw_25_1 : Cond.code yX3_underwayIn cX3_underwayIn 3 (some .int) ∈ GW := inG_r25 _ (List.mem_of_getElem? (i := 1) rfl)
theorem mw_25_2 : Cond.fieldLink RX3 120 "ClerkVotes$Row" "length" "I" ∈ GW := inG_r25 _ (List.mem_of_getElem? (i := 2) rfl)
theorem mw_25_3 : Cond.methodLink RX3 117 yX2_passRound ∈ GW := inG_r25 _ (List.mem_of_getElem? (i := 3) rfl)
theorem mw_25_4 : Cond.methodLink RL 86 yX4_underwayIn ∈ GW := inG_r25 _ (List.mem_of_getElem? (i := 4) rfl)
theorem mw_25_5 : Cond.instanceMethod yX4_underwayIn ∈ GW := inG_r25 _ (List.mem_of_getElem? (i := 5) rfl)
theorem mw_25_6 : Cond.selects RX4 yX4_underwayIn yX4_underwayIn ∈ GW := inG_r25 _ (List.mem_of_getElem? (i := 6) rfl)
theorem mw_25_7 : Cond.code yX4_underwayIn cX4_underwayIn 3 (some .int) ∈ GW := inG_r25 _ (List.mem_of_getElem? (i := 7) rfl)
theorem mw_25_8 : Cond.methodLink RL 87 yX3_worstLoss ∈ GW := inG_r25 _ (List.mem_of_getElem? (i := 8) rfl)
theorem mw_25_9 : Cond.instanceMethod yX3_worstLoss ∈ GW := inG_r25 _ (List.mem_of_getElem? (i := 9) rfl)
theorem mw_25_10 : Cond.selects RX3 yX3_worstLoss yX3_worstLoss ∈ GW := inG_r25 _ (List.mem_of_getElem? (i := 10) rfl)
theorem mw_25_11 : Cond.code yX3_worstLoss cX3_worstLoss 7 (some .int) ∈ GW := inG_r25 _ (List.mem_of_getElem? (i := 11) rfl)
theorem mw_25_12 : Cond.methodLink RL 90 yX4_worstLoss ∈ GW := inG_r25 _ (List.mem_of_getElem? (i := 12) rfl)
theorem mw_25_13 : Cond.instanceMethod yX4_worstLoss ∈ GW := inG_r25 _ (List.mem_of_getElem? (i := 13) rfl)
theorem mw_25_14 : Cond.selects RX4 yX4_worstLoss yX4_worstLoss ∈ GW := inG_r25 _ (List.mem_of_getElem? (i := 14) rfl)
theorem mw_25_15 : Cond.code yX4_worstLoss cX4_worstLoss 8 (some .int) ∈ GW := inG_r25 _ (List.mem_of_getElem? (i := 15) rfl)
theorem mw_25_16 : Cond.methodLink RL 93 yX3_put ∈ GW := inG_r25 _ (List.mem_of_getElem? (i := 16) rfl)
theorem mw_25_17 : Cond.instanceMethod yX3_put ∈ GW := inG_r25 _ (List.mem_of_getElem? (i := 17) rfl)
theorem mw_25_18 : Cond.selects RX3 yX3_put yX3_put ∈ GW := inG_r25 _ (List.mem_of_getElem? (i := 18) rfl)
theorem mw_25_19 : Cond.code yX3_put cX3_put 5 (some .int) ∈ GW := inG_r25 _ (List.mem_of_getElem? (i := 19) rfl)
theorem mw_25_20 : Cond.methodLink RX3 123 yX3_charactersIn ∈ GW := inG_r25 _ (List.mem_of_getElem? (i := 20) rfl)
theorem mw_25_21 : Cond.static yX3_charactersIn ∈ GW := inG_r25 _ (List.mem_of_getElem? (i := 21) rfl)
theorem mw_25_22 : Cond.code yX3_charactersIn cX3_charactersIn 4 (some .int) ∈ GW := inG_r25 _ (List.mem_of_getElem? (i := 22) rfl)
theorem mw_25_23 : Cond.methodLink RX3 127 yX3_codeAt ∈ GW := inG_r25 _ (List.mem_of_getElem? (i := 23) rfl)
theorem mw_26_0 : Cond.static yX3_codeAt ∈ GW := inG_r26 _ (List.mem_of_getElem? (i := 0) rfl)
theorem mw_26_1 : Cond.code yX3_codeAt cX3_codeAt 3 (some .int) ∈ GW := inG_r26 _ (List.mem_of_getElem? (i := 1) rfl)
theorem mw_26_2 : Cond.constantLong RX3 156 (255) ∈ GW := inG_r26 _ (List.mem_of_getElem? (i := 2) rfl)
theorem mw_26_3 : Cond.methodLink RL 97 yX4_put ∈ GW := inG_r26 _ (List.mem_of_getElem? (i := 3) rfl)
theorem mw_26_4 : Cond.instanceMethod yX4_put ∈ GW := inG_r26 _ (List.mem_of_getElem? (i := 4) rfl)
theorem mw_26_5 : Cond.selects RX4 yX4_put yX4_put ∈ GW := inG_r26 _ (List.mem_of_getElem? (i := 5) rfl)
theorem mw_26_6 : Cond.code yX4_put cX4_put 7 (some .int) ∈ GW := inG_r26 _ (List.mem_of_getElem? (i := 6) rfl)
theorem mw_26_7 : Cond.constantLong RX4 179 (255) ∈ GW := inG_r26 _ (List.mem_of_getElem? (i := 7) rfl)
theorem mw_26_8 : Cond.methodLink RL 98 yX3_wipe ∈ GW := inG_r26 _ (List.mem_of_getElem? (i := 8) rfl)
theorem mw_26_9 : Cond.instanceMethod yX3_wipe ∈ GW := inG_r26 _ (List.mem_of_getElem? (i := 9) rfl)
theorem mw_26_10 : Cond.selects RX3 yX3_wipe yX3_wipe ∈ GW := inG_r26 _ (List.mem_of_getElem? (i := 10) rfl)
theorem mw_26_11 : Cond.code yX3_wipe cX3_wipe 2 (some .int) ∈ GW := inG_r26 _ (List.mem_of_getElem? (i := 11) rfl)
theorem mw_26_12 : Cond.methodLink RL 102 yX4_wipe ∈ GW := inG_r26 _ (List.mem_of_getElem? (i := 12) rfl)
theorem mw_26_13 : Cond.instanceMethod yX4_wipe ∈ GW := inG_r26 _ (List.mem_of_getElem? (i := 13) rfl)
theorem mw_26_14 : Cond.selects RX4 yX4_wipe yX4_wipe ∈ GW := inG_r26 _ (List.mem_of_getElem? (i := 14) rfl)
theorem mw_26_15 : Cond.code yX4_wipe cX4_wipe 2 (some .int) ∈ GW := inG_r26 _ (List.mem_of_getElem? (i := 15) rfl)
theorem mw_26_16 : Cond.methodLink RL 103 yX3_fault ∈ GW := inG_r26 _ (List.mem_of_getElem? (i := 16) rfl)
theorem mw_26_17 : Cond.instanceMethod yX3_fault ∈ GW := inG_r26 _ (List.mem_of_getElem? (i := 17) rfl)
theorem mw_26_18 : Cond.selects RX3 yX3_fault yX3_fault ∈ GW := inG_r26 _ (List.mem_of_getElem? (i := 18) rfl)
theorem mw_26_19 : Cond.code yX3_fault cX3_fault 1 (some .int) ∈ GW := inG_r26 _ (List.mem_of_getElem? (i := 19) rfl)
theorem mw_26_20 : Cond.methodLink RX3 131 yX3_faultOfPad ∈ GW := inG_r26 _ (List.mem_of_getElem? (i := 20) rfl)
theorem mw_26_21 : Cond.instanceMethod yX3_faultOfPad ∈ GW := inG_r26 _ (List.mem_of_getElem? (i := 21) rfl)
theorem mw_26_22 : Cond.selects RX3 yX3_faultOfPad yX3_faultOfPad ∈ GW := inG_r26 _ (List.mem_of_getElem? (i := 22) rfl)
theorem mw_26_23 : Cond.code yX3_faultOfPad cX3_faultOfPad 2 (some .int) ∈ GW := inG_r26 _ (List.mem_of_getElem? (i := 23) rfl)
theorem mw_27_0 : Cond.methodLink RX3 158 yX0_begin ∈ GW := inG_r27 _ (List.mem_of_getElem? (i := 0) rfl)
theorem mw_27_1 : Cond.instanceMethod yX0_begin ∈ GW := inG_r27 _ (List.mem_of_getElem? (i := 1) rfl)
theorem mw_27_2 : Cond.selects RX0 yX0_begin yX0_begin ∈ GW := inG_r27 _ (List.mem_of_getElem? (i := 2) rfl)
theorem mw_27_3 : Cond.code yX0_begin cX0_begin 1 none ∈ GW := inG_r27 _ (List.mem_of_getElem? (i := 3) rfl)
theorem mw_27_4 : Cond.fieldLink RX0 9 "ClerkVotes$OrderReader" "expected" "I" ∈ GW := inG_r27 _ (List.mem_of_getElem? (i := 4) rfl)
theorem mw_27_5 : Cond.methodLink RX3 161 yX0_takes ∈ GW := inG_r27 _ (List.mem_of_getElem? (i := 5) rfl)
theorem mw_27_6 : Cond.instanceMethod yX0_takes ∈ GW := inG_r27 _ (List.mem_of_getElem? (i := 6) rfl)
theorem mw_27_7 : Cond.selects RX0 yX0_takes yX0_takes ∈ GW := inG_r27 _ (List.mem_of_getElem? (i := 7) rfl)
theorem mw_27_8 : Cond.code yX0_takes cX0_takes 2 (some .boolean) ∈ GW := inG_r27 _ (List.mem_of_getElem? (i := 8) rfl)
theorem mw_27_9 : Cond.methodLink RX0 18 yX0_takesOrderEnd ∈ GW := inG_r27 _ (List.mem_of_getElem? (i := 9) rfl)
theorem mw_27_10 : Cond.instanceMethod yX0_takesOrderEnd ∈ GW := inG_r27 _ (List.mem_of_getElem? (i := 10) rfl)
theorem mw_27_11 : Cond.selects RX0 yX0_takesOrderEnd yX0_takesOrderEnd ∈ GW := inG_r27 _ (List.mem_of_getElem? (i := 11) rfl)
theorem mw_27_12 : Cond.code yX0_takesOrderEnd cX0_takesOrderEnd 1 (some .boolean) ∈ GW := inG_r27 _ (List.mem_of_getElem? (i := 12) rfl)
theorem mw_27_13 : Cond.methodLink RX0 38 yX0_mayEnd ∈ GW := inG_r27 _ (List.mem_of_getElem? (i := 13) rfl)
theorem mw_27_14 : Cond.instanceMethod yX0_mayEnd ∈ GW := inG_r27 _ (List.mem_of_getElem? (i := 14) rfl)
theorem mw_27_15 : Cond.selects RX0 yX0_mayEnd yX0_mayEnd ∈ GW := inG_r27 _ (List.mem_of_getElem? (i := 15) rfl)
theorem mw_27_16 : Cond.code yX0_mayEnd cX0_mayEnd 1 (some .boolean) ∈ GW := inG_r27 _ (List.mem_of_getElem? (i := 16) rfl)
theorem mw_27_17 : Cond.fieldLink RX0 15 "ClerkVotes$OrderReader" "value" "I" ∈ GW := inG_r27 _ (List.mem_of_getElem? (i := 17) rfl)
theorem mw_27_18 : Cond.methodLink RX0 22 yX0_takesLetter ∈ GW := inG_r27 _ (List.mem_of_getElem? (i := 18) rfl)
theorem mw_27_19 : Cond.instanceMethod yX0_takesLetter ∈ GW := inG_r27 _ (List.mem_of_getElem? (i := 19) rfl)
theorem mw_27_20 : Cond.selects RX0 yX0_takesLetter yX0_takesLetter ∈ GW := inG_r27 _ (List.mem_of_getElem? (i := 20) rfl)
theorem mw_27_21 : Cond.code yX0_takesLetter cX0_takesLetter 2 (some .boolean) ∈ GW := inG_r27 _ (List.mem_of_getElem? (i := 21) rfl)
theorem mw_27_22 : Cond.fieldLink RX0 41 "ClerkVotes$OrderReader" "letter" "I" ∈ GW := inG_r27 _ (List.mem_of_getElem? (i := 22) rfl)
theorem mw_27_23 : Cond.methodLink RX0 26 yX0_takesRisingClerk ∈ GW := inG_r27 _ (List.mem_of_getElem? (i := 23) rfl)
theorem mw_28_0 : Cond.instanceMethod yX0_takesRisingClerk ∈ GW := inG_r28 _ (List.mem_of_getElem? (i := 0) rfl)
theorem mw_28_1 : Cond.selects RX0 yX0_takesRisingClerk yX0_takesRisingClerk ∈ GW := inG_r28 _ (List.mem_of_getElem? (i := 1) rfl)
theorem mw_28_2 : Cond.code yX0_takesRisingClerk cX0_takesRisingClerk 3 (some .boolean) ∈ GW := inG_r28 _ (List.mem_of_getElem? (i := 2) rfl)
theorem mw_28_3 : Cond.methodLink RX0 29 yX0_takesDigit ∈ GW := inG_r28 _ (List.mem_of_getElem? (i := 3) rfl)
theorem mw_28_4 : Cond.instanceMethod yX0_takesDigit ∈ GW := inG_r28 _ (List.mem_of_getElem? (i := 4) rfl)
theorem mw_28_5 : Cond.selects RX0 yX0_takesDigit yX0_takesDigit ∈ GW := inG_r28 _ (List.mem_of_getElem? (i := 5) rfl)
theorem mw_28_6 : Cond.code yX0_takesDigit cX0_takesDigit 3 (some .boolean) ∈ GW := inG_r28 _ (List.mem_of_getElem? (i := 6) rfl)
theorem mw_28_7 : Cond.methodLink RX0 32 yX0_takesSomebody ∈ GW := inG_r28 _ (List.mem_of_getElem? (i := 7) rfl)
theorem mw_28_8 : Cond.instanceMethod yX0_takesSomebody ∈ GW := inG_r28 _ (List.mem_of_getElem? (i := 8) rfl)
theorem mw_28_9 : Cond.selects RX0 yX0_takesSomebody yX0_takesSomebody ∈ GW := inG_r28 _ (List.mem_of_getElem? (i := 9) rfl)
theorem mw_28_10 : Cond.code yX0_takesSomebody cX0_takesSomebody 4 (some .boolean) ∈ GW := inG_r28 _ (List.mem_of_getElem? (i := 10) rfl)
theorem mw_28_11 : Cond.methodLink RX0 35 yX0_takesSign ∈ GW := inG_r28 _ (List.mem_of_getElem? (i := 11) rfl)
theorem mw_28_12 : Cond.instanceMethod yX0_takesSign ∈ GW := inG_r28 _ (List.mem_of_getElem? (i := 12) rfl)
theorem mw_28_13 : Cond.selects RX0 yX0_takesSign yX0_takesSign ∈ GW := inG_r28 _ (List.mem_of_getElem? (i := 13) rfl)
theorem mw_28_14 : Cond.code yX0_takesSign cX0_takesSign 2 (some .boolean) ∈ GW := inG_r28 _ (List.mem_of_getElem? (i := 14) rfl)
theorem mw_28_15 : Cond.fieldLink RX0 44 "ClerkVotes$OrderReader" "willingness" "I" ∈ GW := inG_r28 _ (List.mem_of_getElem? (i := 15) rfl)
theorem mw_28_16 : Cond.methodLink RX3 164 yX0_mayEnd ∈ GW := inG_r28 _ (List.mem_of_getElem? (i := 16) rfl)
theorem mw_28_17 : Cond.methodLink RL 106 yX4_fault ∈ GW := inG_r28 _ (List.mem_of_getElem? (i := 17) rfl)
theorem mw_28_18 : Cond.instanceMethod yX4_fault ∈ GW := inG_r28 _ (List.mem_of_getElem? (i := 18) rfl)
theorem mw_28_19 : Cond.selects RX4 yX4_fault yX4_fault ∈ GW := inG_r28 _ (List.mem_of_getElem? (i := 19) rfl)
theorem mw_28_20 : Cond.code yX4_fault cX4_fault 1 (some .int) ∈ GW := inG_r28 _ (List.mem_of_getElem? (i := 20) rfl)
theorem mw_28_21 : Cond.methodLink RX4 181 yX4_faultOf ∈ GW := inG_r28 _ (List.mem_of_getElem? (i := 21) rfl)
theorem mw_28_22 : Cond.instanceMethod yX4_faultOf ∈ GW := inG_r28 _ (List.mem_of_getElem? (i := 22) rfl)
theorem mw_28_23 : Cond.selects RX4 yX4_faultOf yX4_faultOf ∈ GW := inG_r28 _ (List.mem_of_getElem? (i := 23) rfl)
theorem mw_29_0 : Cond.code yX4_faultOf cX4_faultOf 1 (some .int) ∈ GW := inG_r29 _ (List.mem_of_getElem? (i := 0) rfl)
theorem mw_29_1 : Cond.fieldLink RX4 152 "ClerkVotesModel" "place" "I" ∈ GW := inG_r29 _ (List.mem_of_getElem? (i := 1) rfl)
theorem mw_29_2 : Cond.fieldLink RX4 164 "ClerkVotesModel" "read" "I" ∈ GW := inG_r29 _ (List.mem_of_getElem? (i := 2) rfl)
theorem mw_29_3 : Cond.fieldLink RX4 158 "ClerkVotesModel" "isWrong" "Z" ∈ GW := inG_r29 _ (List.mem_of_getElem? (i := 3) rfl)
theorem mw_29_4 : Cond.methodLink RX4 176 yX4_readOne ∈ GW := inG_r29 _ (List.mem_of_getElem? (i := 4) rfl)
theorem mw_29_5 : Cond.instanceMethod yX4_readOne ∈ GW := inG_r29 _ (List.mem_of_getElem? (i := 5) rfl)
theorem mw_29_6 : Cond.selects RX4 yX4_readOne yX4_readOne ∈ GW := inG_r29 _ (List.mem_of_getElem? (i := 6) rfl)
theorem mw_29_7 : Cond.code yX4_readOne cX4_readOne 3 none ∈ GW := inG_r29 _ (List.mem_of_getElem? (i := 7) rfl)
theorem mw_29_8 : Cond.methodLink RX4 155 yX4_sign ∈ GW := inG_r29 _ (List.mem_of_getElem? (i := 8) rfl)
theorem mw_29_9 : Cond.instanceMethod yX4_sign ∈ GW := inG_r29 _ (List.mem_of_getElem? (i := 9) rfl)
theorem mw_29_10 : Cond.selects RX4 yX4_sign yX4_sign ∈ GW := inG_r29 _ (List.mem_of_getElem? (i := 10) rfl)
theorem mw_29_11 : Cond.code yX4_sign cX4_sign 1 (some .int) ∈ GW := inG_r29 _ (List.mem_of_getElem? (i := 11) rfl)
theorem mw_29_12 : Cond.methodLink RX4 167 yX4_clerks ∈ GW := inG_r29 _ (List.mem_of_getElem? (i := 12) rfl)
theorem mw_29_13 : Cond.instanceMethod yX4_clerks ∈ GW := inG_r29 _ (List.mem_of_getElem? (i := 13) rfl)
theorem mw_29_14 : Cond.selects RX4 yX4_clerks yX4_clerks ∈ GW := inG_r29 _ (List.mem_of_getElem? (i := 14) rfl)
theorem mw_29_15 : Cond.code yX4_clerks cX4_clerks 3 (some .int) ∈ GW := inG_r29 _ (List.mem_of_getElem? (i := 15) rfl)
theorem mw_29_16 : Cond.methodLink RX4 161 yX4_one ∈ GW := inG_r29 _ (List.mem_of_getElem? (i := 16) rfl)
theorem mw_29_17 : Cond.instanceMethod yX4_one ∈ GW := inG_r29 _ (List.mem_of_getElem? (i := 17) rfl)
theorem mw_29_18 : Cond.selects RX4 yX4_one yX4_one ∈ GW := inG_r29 _ (List.mem_of_getElem? (i := 18) rfl)
theorem mw_29_19 : Cond.code yX4_one cX4_one 4 (some .int) ∈ GW := inG_r29 _ (List.mem_of_getElem? (i := 19) rfl)
theorem mw_29_20 : Cond.methodLink RX4 170 yX4_number ∈ GW := inG_r29 _ (List.mem_of_getElem? (i := 20) rfl)
theorem mw_29_21 : Cond.instanceMethod yX4_number ∈ GW := inG_r29 _ (List.mem_of_getElem? (i := 21) rfl)
theorem mw_29_22 : Cond.selects RX4 yX4_number yX4_number ∈ GW := inG_r29 _ (List.mem_of_getElem? (i := 22) rfl)
theorem mw_29_23 : Cond.code yX4_number cX4_number 2 (some .int) ∈ GW := inG_r29 _ (List.mem_of_getElem? (i := 23) rfl)
theorem mw_30_0 : Cond.methodLink RX4 173 yX4_plus ∈ GW := inG_r30 _ (List.mem_of_getElem? (i := 0) rfl)
theorem mw_30_1 : Cond.instanceMethod yX4_plus ∈ GW := inG_r30 _ (List.mem_of_getElem? (i := 1) rfl)
theorem mw_30_2 : Cond.selects RX4 yX4_plus yX4_plus ∈ GW := inG_r30 _ (List.mem_of_getElem? (i := 2) rfl)
theorem mw_30_3 : Cond.code yX4_plus cX4_plus 2 (some .int) ∈ GW := inG_r30 _ (List.mem_of_getElem? (i := 3) rfl)
theorem mw_30_4 : Cond.methodLink RL 107 yX3_carryOut ∈ GW := inG_r30 _ (List.mem_of_getElem? (i := 4) rfl)
theorem mw_30_5 : Cond.instanceMethod yX3_carryOut ∈ GW := inG_r30 _ (List.mem_of_getElem? (i := 5) rfl)
theorem mw_30_6 : Cond.selects RX3 yX3_carryOut yX3_carryOut ∈ GW := inG_r30 _ (List.mem_of_getElem? (i := 6) rfl)
theorem mw_30_7 : Cond.code yX3_carryOut cX3_carryOut 2 (some .int) ∈ GW := inG_r30 _ (List.mem_of_getElem? (i := 7) rfl)
theorem mw_30_8 : Cond.methodLink RX3 135 yX3_carryOutOrders ∈ GW := inG_r30 _ (List.mem_of_getElem? (i := 8) rfl)
theorem mw_30_9 : Cond.instanceMethod yX3_carryOutOrders ∈ GW := inG_r30 _ (List.mem_of_getElem? (i := 9) rfl)
theorem mw_30_10 : Cond.selects RX3 yX3_carryOutOrders yX3_carryOutOrders ∈ GW := inG_r30 _ (List.mem_of_getElem? (i := 10) rfl)
theorem mw_30_11 : Cond.code yX3_carryOutOrders cX3_carryOutOrders 4 (some .int) ∈ GW := inG_r30 _ (List.mem_of_getElem? (i := 11) rfl)
theorem mw_30_12 : Cond.methodLink RX3 168 yX3_carryOutOrder ∈ GW := inG_r30 _ (List.mem_of_getElem? (i := 12) rfl)
theorem mw_30_13 : Cond.instanceMethod yX3_carryOutOrder ∈ GW := inG_r30 _ (List.mem_of_getElem? (i := 13) rfl)
theorem mw_30_14 : Cond.selects RX3 yX3_carryOutOrder yX3_carryOutOrder ∈ GW := inG_r30 _ (List.mem_of_getElem? (i := 14) rfl)
theorem mw_30_15 : Cond.code yX3_carryOutOrder cX3_carryOutOrder 2 (some .int) ∈ GW := inG_r30 _ (List.mem_of_getElem? (i := 15) rfl)
theorem mw_30_16 : Cond.fieldLink RX3 171 "ClerkVotes$OrderReader" "value" "I" ∈ GW := inG_r30 _ (List.mem_of_getElem? (i := 16) rfl)
theorem mw_30_17 : Cond.fieldLink RX3 174 "ClerkVotes$OrderReader" "letter" "I" ∈ GW := inG_r30 _ (List.mem_of_getElem? (i := 17) rfl)
theorem mw_30_18 : Cond.fieldLink RX3 177 "ClerkVotes$OrderReader" "willingness" "I" ∈ GW := inG_r30 _ (List.mem_of_getElem? (i := 18) rfl)
theorem mw_30_19 : Cond.methodLink RL 110 yX4_carryOut ∈ GW := inG_r30 _ (List.mem_of_getElem? (i := 19) rfl)
theorem mw_30_20 : Cond.instanceMethod yX4_carryOut ∈ GW := inG_r30 _ (List.mem_of_getElem? (i := 20) rfl)
theorem mw_30_21 : Cond.selects RX4 yX4_carryOut yX4_carryOut ∈ GW := inG_r30 _ (List.mem_of_getElem? (i := 21) rfl)
theorem mw_30_22 : Cond.code yX4_carryOut cX4_carryOut 2 (some .int) ∈ GW := inG_r30 _ (List.mem_of_getElem? (i := 22) rfl)
theorem mw_30_23 : Cond.methodLink RX4 205 yX4_carry ∈ GW := inG_r30 _ (List.mem_of_getElem? (i := 23) rfl)
theorem mw_31_0 : Cond.instanceMethod yX4_carry ∈ GW := inG_r31 _ (List.mem_of_getElem? (i := 0) rfl)
theorem mw_31_1 : Cond.selects RX4 yX4_carry yX4_carry ∈ GW := inG_r31 _ (List.mem_of_getElem? (i := 1) rfl)
theorem mw_31_2 : Cond.code yX4_carry cX4_carry 3 (some .int) ∈ GW := inG_r31 _ (List.mem_of_getElem? (i := 2) rfl)
theorem mw_31_3 : Cond.methodLink RX4 184 yX4_open ∈ GW := inG_r31 _ (List.mem_of_getElem? (i := 3) rfl)
theorem mw_31_4 : Cond.methodLink RX4 187 yX4_deliver ∈ GW := inG_r31 _ (List.mem_of_getElem? (i := 4) rfl)
theorem mw_31_5 : Cond.methodLink RX4 190 yX4_lose ∈ GW := inG_r31 _ (List.mem_of_getElem? (i := 5) rfl)
theorem mw_31_6 : Cond.methodLink RX4 193 yX4_fall ∈ GW := inG_r31 _ (List.mem_of_getElem? (i := 6) rfl)
theorem mw_31_7 : Cond.methodLink RX4 196 yX4_rise ∈ GW := inG_r31 _ (List.mem_of_getElem? (i := 7) rfl)
theorem mw_31_8 : Cond.methodLink RX4 199 yX4_willing ∈ GW := inG_r31 _ (List.mem_of_getElem? (i := 8) rfl)
theorem mw_31_9 : Cond.methodLink RX4 202 yX4_ticks ∈ GW := inG_r31 _ (List.mem_of_getElem? (i := 9) rfl)
theorem mw_31_10 : Cond.methodLink RL 111 yX3_undo ∈ GW := inG_r31 _ (List.mem_of_getElem? (i := 10) rfl)
theorem mw_31_11 : Cond.instanceMethod yX3_undo ∈ GW := inG_r31 _ (List.mem_of_getElem? (i := 11) rfl)
theorem mw_31_12 : Cond.selects RX3 yX3_undo yX3_undo ∈ GW := inG_r31 _ (List.mem_of_getElem? (i := 12) rfl)
theorem mw_31_13 : Cond.code yX3_undo cX3_undo 1 (some .int) ∈ GW := inG_r31 _ (List.mem_of_getElem? (i := 13) rfl)
theorem mw_31_14 : Cond.methodLink RL 114 yX4_undo ∈ GW := inG_r31 _ (List.mem_of_getElem? (i := 14) rfl)
theorem mw_31_15 : Cond.instanceMethod yX4_undo ∈ GW := inG_r31 _ (List.mem_of_getElem? (i := 15) rfl)
theorem mw_31_16 : Cond.selects RX4 yX4_undo yX4_undo ∈ GW := inG_r31 _ (List.mem_of_getElem? (i := 16) rfl)
theorem mw_31_17 : Cond.code yX4_undo cX4_undo 2 (some .int) ∈ GW := inG_r31 _ (List.mem_of_getElem? (i := 17) rfl)
theorem mw_31_18 : Cond.methodLink RL 115 yX3_save ∈ GW := inG_r31 _ (List.mem_of_getElem? (i := 18) rfl)
theorem mw_31_19 : Cond.instanceMethod yX3_save ∈ GW := inG_r31 _ (List.mem_of_getElem? (i := 19) rfl)
theorem mw_31_20 : Cond.selects RX3 yX3_save yX3_save ∈ GW := inG_r31 _ (List.mem_of_getElem? (i := 20) rfl)
theorem mw_31_21 : Cond.code yX3_save cX3_save 2 (some .int) ∈ GW := inG_r31 _ (List.mem_of_getElem? (i := 21) rfl)
theorem mw_31_22 : Cond.fieldLink RX3 141 "ClerkVotes" "savedSlots" "I" ∈ GW := inG_r31 _ (List.mem_of_getElem? (i := 22) rfl)
theorem mw_31_23 : Cond.fieldLink RX3 144 "ClerkVotes$State" "tick" "I" ∈ GW := inG_r31 _ (List.mem_of_getElem? (i := 23) rfl)
theorem mw_32_0 : Cond.methodLink RL 118 yX4_save ∈ GW := inG_r32 _ (List.mem_of_getElem? (i := 0) rfl)
theorem mw_32_1 : Cond.instanceMethod yX4_save ∈ GW := inG_r32 _ (List.mem_of_getElem? (i := 1) rfl)
theorem mw_32_2 : Cond.selects RX4 yX4_save yX4_save ∈ GW := inG_r32 _ (List.mem_of_getElem? (i := 2) rfl)
theorem mw_32_3 : Cond.code yX4_save cX4_save 3 (some .int) ∈ GW := inG_r32 _ (List.mem_of_getElem? (i := 3) rfl)
theorem mw_32_4 : Cond.methodLink RL 119 yX3_restore ∈ GW := inG_r32 _ (List.mem_of_getElem? (i := 4) rfl)
theorem mw_32_5 : Cond.instanceMethod yX3_restore ∈ GW := inG_r32 _ (List.mem_of_getElem? (i := 5) rfl)
theorem mw_32_6 : Cond.selects RX3 yX3_restore yX3_restore ∈ GW := inG_r32 _ (List.mem_of_getElem? (i := 6) rfl)
theorem mw_32_7 : Cond.code yX3_restore cX3_restore 2 (some .int) ∈ GW := inG_r32 _ (List.mem_of_getElem? (i := 7) rfl)
theorem mw_32_8 : Cond.methodLink RX3 147 yX3_isIn ∈ GW := inG_r32 _ (List.mem_of_getElem? (i := 8) rfl)
theorem mw_32_9 : Cond.methodLink RL 122 yX4_restore ∈ GW := inG_r32 _ (List.mem_of_getElem? (i := 9) rfl)
theorem mw_32_10 : Cond.instanceMethod yX4_restore ∈ GW := inG_r32 _ (List.mem_of_getElem? (i := 10) rfl)
theorem mw_32_11 : Cond.selects RX4 yX4_restore yX4_restore ∈ GW := inG_r32 _ (List.mem_of_getElem? (i := 11) rfl)
theorem mw_32_12 : Cond.code yX4_restore cX4_restore 3 (some .int) ∈ GW := inG_r32 _ (List.mem_of_getElem? (i := 12) rfl)
